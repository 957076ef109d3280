/-! A ROW'S OWN WAY TO GROW: a new array for a row (or for the errata), what may still grow, add and copy. -/
section
theorem mLe1 {e : Nat} (h : mK e = 3) : mLen (e + 1) = 80 := by
  have := mK3 h
  unfold mLen
  rw [if_neg (by omega)]
theorem mK_lt {r : Nat} (h : mK r ≠ 99) : r < 2049 := by
  unfold mK at h
  repeat' split at h
  all_goals first | omega | exact absurd rfl h
theorem mR9 {r j : Nat} (h : mK r = 9) : mR r j = none := by
  have h9 : ¬ r < 9 := fun q => by
    have : ∀ i, i < 9 → mK i ≠ 9 := by decide
    exact this r q h
  unfold mR
  rw [if_neg h9, if_neg (by omega), if_neg (by omega)]
theorem mOw_live {d : Nat} (h : mDy d) : mK (mOw d) ≠ 99 := by
  unfold mOw
  by_cases e : d = 9
  · rw [if_pos e]
    decide
  · rw [if_neg e]
    rcases h.1 with q | q
    · exact absurd q e
    · omega
theorem mOw_ref {d j : Nat} (h : mDy d) (t : Nat) : mR (mOw d) (mOf d) ≠ some t := by
  unfold mOw mOf
  by_cases e : d = 9
  · rw [if_pos e, if_pos e]
    intro q
    cases q
  · rw [if_neg e, if_neg e]
    rcases h.1 with q | q
    · exact absurd q e
    · rw [mR9 q.2]
      intro z
      cases z
theorem mOw_inj {d d' : Nat} (h : mDy d) (h' : mDy d') (e : mOw d' = mOw d) : d' = d := by
  unfold mOw at e
  have h0 : mK 0 ≠ 9 := by decide
  by_cases a : d' = 9
  · by_cases b : d = 9
    · omega
    · rw [if_pos a, if_neg b] at e
      rcases h.1 with q | q
      · exact absurd q b
      · rw [← e] at q
        exact absurd q.2 h0
  · by_cases b : d = 9
    · rw [if_neg a, if_pos b] at e
      rcases h'.1 with q | q
      · exact absurd q a
      · rw [e] at q
        exact absurd q.2 h0
    · rw [if_neg a, if_neg b] at e
      rcases h.1 with q | q
      · exact absurd q b
      · rcases h'.1 with q' | q'
        · exact absurd q' a
        · omega
theorem mRel_grow {α : Nat → Nat} {S S' : wPS} {Ln : Nat → Nat} {V : mV} {d q L2 : Nat} {f : Nat → Int32} (R : mRel α S Ln V) (hd : mDy d) (hq : ¬ q ∈ S.L) (e1 : S'.L = S.L ++ [q]) (e2 : S'.K = va_up S.K q 13) (e3 : S'.fI = S.fI) (e4 : S'.fJ = S.fJ) (e5 : S'.fA = va_up S.fA (α (mOw d)) (va_up (S.fA (α (mOw d))) (mOf d) (some q))) (e6 : S'.len = va_up S.len q L2) (e7 : ∀ a, a ≠ q → S'.rI a = S.rI a) (e7' : S'.rI q = f) (e8 : ∀ a, a ≠ q → S'.rJ a = S.rJ a) (e9 : S'.rA = S.rA) : mRel α S' (va_up Ln d L2) (mRI V d f) ∧ mFr α S S' ∧ mq α S' d = q := by
  have hR := R
  obtain ⟨h1, h2, h3, h4, h5, h6, h7, h8, h9⟩ := R
  have ow := mOw_live hd
  have nq : ∀ i, mK i ≠ 99 → α i ≠ q := fun i hi e => hq (e ▸ (h1 i hi).1)
  have md : mq α S' d = q := by
    unfold mq
    rw [e5, mUp_eq, mUp_eq]
    rfl
  have mn : ∀ d', mDy d' → d' ≠ d → mq α S' d' = mq α S d' := fun d' hd' ne => by
    unfold mq
    rw [e5, mUp_ne _ _ (fun z => ne (mOw_inj hd hd' (h2 _ _ (mOw_live hd') ow z)))]
  have mq' : ∀ d', mDy d' → mq α S d' ≠ q := fun d' hd' e => hq (e ▸ (h8 d' hd').2.1.1)
  have is' : ∀ a k, wkIs S a k → a ≠ q → wkIs S' a k := fun a k h ne => by
    refine ⟨?_, ?_⟩
    · rw [e1]
      exact List.mem_append_left _ h.1
    · rw [e2, mUp_ne _ _ ne]
      exact h.2
  refine ⟨⟨fun i hi => is' _ _ (h1 i hi) (nq i hi), h2, fun i hi => ?_, fun i hi hj => ?_, fun i j t ht => ?_, fun i k t ht => ?_, fun k hk => ?_, fun d' hd' => ?_, fun d' d'' hd' hd'' e => ?_⟩, ⟨fun a ha => by rw [e1]; exact List.mem_append_left _ ha, fun hW => ?_, fun a ha hn hm => ?_⟩, md⟩
  · rw [e3, e4]
    exact h3 i hi
  · refine ⟨?_, ?_, ?_⟩
    · rw [e6, mUp_ne _ _ (nq i hj)]
      exact (h4 i hi hj).1
    · intro hz
      rw [e7 _ (nq i hj)]
      show _ = va_up V.rI d f i
      rw [mUp_ne _ _ (fun z : i = d => hj (by rw [z]; exact hd.2))]
      exact (h4 i hi hj).2.1 hz
    · intro hz
      rw [e8 _ (nq i hj)]
      exact (h4 i hi hj).2.2 hz
  · rw [e5]
    by_cases e : α i = α (mOw d)
    · rw [e, mUp_eq]
      have hi : mK i ≠ 99 := fun z => by
        have : ∀ i, i < 9 → mK i ≠ 99 := by decide
        unfold mR at ht
        by_cases c : i < 9
        · exact this i c z
        · rw [if_neg c, if_neg (by omega), if_neg (by omega)] at ht
          cases ht
      have := h2 _ _ hi ow e
      subst this
      by_cases c : j = mOf d
      · subst c
        exact absurd ht (mOw_ref (j := 0) hd t)
      · rw [mUp_ne _ _ c]
        exact h5 _ j t ht
    · rw [mUp_ne _ _ e]
      exact h5 i j t ht
  · rw [e9]
    exact h6 i k t ht
  · rw [e9]
    exact h7 k hk
  · by_cases e : d' = d
    · subst e
      rw [md]
      refine ⟨?_, ⟨?_, ?_⟩, ?_, ?_, fun i hi z => nq i hi z.symm⟩
      · rw [e5, mUp_eq, mUp_eq]
      · rw [e1]
        exact List.mem_append_right _ List.mem_cons_self
      · rw [e2, mUp_eq]
      · rw [e6, mUp_eq, mUp_eq]
      · rw [e7']
        show f = va_up V.rI d' f d'
        rw [mUp_eq]
    · rw [mn d' hd' e]
      obtain ⟨a1, a2, a3, a4, a5⟩ := h8 d' hd'
      refine ⟨?_, is' _ _ a2 (mq' d' hd'), ?_, ?_, a5⟩
      · rw [e5, mUp_ne _ _ (fun z => e (mOw_inj hd hd' (h2 _ _ (mOw_live hd') ow z)))]
        exact a1
      · rw [e6, mUp_ne _ _ (mq' d' hd'), mUp_ne _ _ e]
        exact a3
      · rw [e7 _ (mq' d' hd')]
        show _ = va_up V.rI d f d'
        rw [mUp_ne _ _ e]
        exact a4
  · by_cases c : d' = d
    · by_cases c' : d'' = d
      · rw [c, c']
      · subst c
        rw [md, mn d'' hd'' c'] at e
        exact absurd e.symm (mq' d'' hd'')
    · by_cases c' : d'' = d
      · subst c'
        rw [md, mn d' hd' c] at e
        exact absurd e (mq' d' hd')
      · rw [mn d' hd' c, mn d'' hd'' c'] at e
        exact h9 d' d'' hd' hd'' e
  · obtain ⟨W1, W2, W3⟩ := wkWF_newI (S1 := wnI S q 13 L2 f) rfl hW hq
    have W4 : wkWF (wuA (wnI S q 13 L2 f) (α (mOw d)) (mOf d) (some q)) := by
      have hk := W2 _ _ (h1 (mOw d) ow)
      rcases hd.1 with z | z
      · subst z
        exact wkWF_Witnessworks_errors W1 hk W3
      · have n9 : ¬ d = 9 := fun z' => by
          subst z'
          exact absurd z.2 (by decide)
        have ho : mOw d = d - 1 := by
          unfold mOw
          rw [if_neg n9]
        have hf : mOf d = 0 := by
          unfold mOf
          rw [if_neg n9]
        rw [ho, z.2] at hk
        rw [ho, hf]
        exact wkWF_Row_numbers W1 hk W3
    unfold wkWF at W4 ⊢
    rw [e1, e2, e5, e6, e9]
    exact W4
  · have na : a ≠ q := fun z => hq (z ▸ ha)
    refine ⟨?_, ?_, by rw [e3], by rw [e4], ?_, ?_, e7 a na, e8 a na, by rw [e9], fun d' hd' => ?_⟩
    · rw [e1]
      exact List.mem_append_left _ ha
    · rw [e2, mUp_ne _ _ na]
    · rw [e5, mUp_ne _ _ (hn _ ow)]
    · rw [e6, mUp_ne _ _ na]
    · by_cases c : d' = d
      · subst c
        rw [md]
        exact na
      · rw [mn d' hd' c]
        exact hm d' hd'
/-- what may still grow -/
theorem mSum_up (w : Nat → Nat → Nat) (Ln : Nat → Nat) (d L2 : Nat) : ∀ l : List Nat, l.Nodup → d ∈ l → (l.map fun x => w x (va_up Ln d L2 x)).sum + w d (Ln d) = (l.map fun x => w x (Ln x)).sum + w d L2
  | [], _, h => absurd h List.not_mem_nil
  | a :: l, hn, h => by
    rw [List.map_cons, List.map_cons, List.sum_cons, List.sum_cons]
    have hn' := List.nodup_cons.mp hn
    by_cases e : a = d
    · subst e
      have hx : ∀ l : List Nat, ¬ a ∈ l → (l.map fun x => w x (va_up Ln a L2 x)) = l.map fun x => w x (Ln x) := fun l hl => List.map_congr_left fun x hx => by
        rw [mUp_ne _ _ (fun z : x = a => hl (z ▸ hx))]
      rw [hx l hn'.1, mUp_eq]
      omega
    · have hm : d ∈ l := by
        rcases List.mem_cons.mp h with q | q
        · exact absurd q.symm e
        · exact q
      have ih := mSum_up w Ln d L2 l hn'.2 hm
      rw [mUp_ne _ _ e]
      omega
theorem mDys_nd : mDys.Nodup := by decide +kernel
theorem mDys_row {r : Nat} (h : mK r = 9) : r + 1 ∈ mDys := by
  have : ∀ r, r < 2049 → mK r = 9 → r + 1 ∈ mDys := by decide +kernel
  exact this r (mK_lt (by omega)) h
theorem mDys_3000 : ¬ 3000 ∈ mDys := by decide +kernel
theorem mDys_3001 : ¬ 3001 ∈ mDys := by decide +kernel
theorem mP_up {Ln : Nat → Nat} {d L2 : Nat} (h : d ∈ mDys) (h2 : 2 * Ln d ≤ L2) (h3 : L2 ≤ mCap d) : mP (va_up Ln d L2) + L2 ≤ mP Ln := by
  have := mSum_up (fun x l => 2 * mCap x - 2 * l) Ln d L2 mDys mDys_nd h
  have e : va_up Ln d L2 3000 = Ln 3000 := mUp_ne _ _ (fun z : 3000 = d => mDys_3000 (z ▸ h))
  have e' : va_up Ln d L2 3001 = Ln 3001 := mUp_ne _ _ (fun z : 3001 = d => mDys_3001 (z ▸ h))
  unfold mP
  rw [e, e']
  omega
theorem mP_th {Ln : Nat → Nat} (h : Ln 3000 < 5000) : mP (va_up Ln 3000 (Ln 3000 + 1)) + 16 = mP Ln := by
  unfold mP
  have : (mDys.map fun d => 2 * mCap d - 2 * va_up Ln 3000 (Ln 3000 + 1) d) = mDys.map fun d => 2 * mCap d - 2 * Ln d := List.map_congr_left fun x hx => by
    rw [mUp_ne _ _ (fun z : x = 3000 => mDys_3000 (z ▸ hx))]
  rw [this, mUp_eq, mUp_ne _ _ (show (3001 : Nat) ≠ 3000 by decide)]
  omega
theorem mP_an {Ln : Nat → Nat} (h : Ln 3001 < 2) : mP (va_up Ln 3001 (Ln 3001 + 1)) + 400000 = mP Ln := by
  unfold mP
  have : (mDys.map fun d => 2 * mCap d - 2 * va_up Ln 3001 (Ln 3001 + 1) d) = mDys.map fun d => 2 * mCap d - 2 * Ln d := List.map_congr_left fun x hx => by
    rw [mUp_ne _ _ (fun z : x = 3001 => mDys_3001 (z ▸ hx))]
  rw [this, mUp_eq, mUp_ne _ _ (show (3000 : Nat) ≠ 3001 by decide)]
  omega
theorem mCap_row {r : Nat} (h : mK r = 9) : mCap (r + 1) = 1024 := by
  unfold mCap
  rw [if_neg]
  intro q
  have : r = 8 := by omega
  subst this
  cases h
def mX9_add (_F : Nat) (Ln : Nat → Nat) (r : Nat) (v : Int32) (V : mV) : Option (Unit × (Nat → Nat) × mV) :=
  if ¬ mK r = 9 then none else if V.fI r 1 < (1024 : Int32) then
    if V.fI r 1 < Int32.ofNat (Ln (r + 1)) then
      if V.fI r 1 < 0 ∨ Ln (r + 1) ≤ (V.fI r 1).toNatClampNeg then none
      else some ((), Ln, mF (mI V (r + 1) (V.fI r 1) v) r 1 (V.fI r 1 + (1 : Int32)))
    else if ¬ (16 ≤ Ln (r + 1) ∧ 2 * Ln (r + 1) ≤ 1024 ∧ ¬ V.fI r 1 < 0 ∧ (V.fI r 1).toNatClampNeg < 2 * Ln (r + 1)) then none
      else some ((), va_up Ln (r + 1) (2 * Ln (r + 1)), mF (mI (mRI V (r + 1) (va_cpy (V.rI (r + 1)) (fun _ => 0) 0 0 (Ln (r + 1)))) (r + 1) (V.fI r 1) v) r 1 (V.fI r 1 + (1 : Int32)))
  else some ((), Ln, V)
theorem MX9_add {F r : Nat} {x : Int32} {Ln Ln1 : Nat → Nat} {V V1 : mV} {v : Unit} (h : mX9_add F Ln r x V = some (v, Ln1, V1)) : mP Ln1 ≤ mP Ln := by
  unfold mX9_add at h
  obtain ⟨hr, h⟩ := mGd_some h
  have hr := Decidable.not_not.mp hr
  rcases mIf_some h with ⟨_, h⟩ | ⟨_, h⟩
  · rcases mIf_some h with ⟨_, h⟩ | ⟨_, h⟩
    · obtain ⟨_, h⟩ := mGd_some h
      cases h
      exact Nat.le_refl _
    · obtain ⟨c, h⟩ := mGd_some h
      cases h
      have c := Decidable.not_not.mp c
      have := mP_up (Ln := Ln) (mDys_row hr) (Nat.le_refl (2 * Ln (r + 1))) (by rw [mCap_row hr]; exact c.2.1)
      omega
  · cases h
    exact Nat.le_refl _
theorem mTwo {L : Nat} (h : 2 * L ≤ 32768) : ((2 : Int32) * Int32.ofNat L) = Int32.ofNat (2 * L) ∧ (Int32.ofNat (2 * L)).toNatClampNeg = 2 * L ∧ (Int32.ofNat L).toNatClampNeg = L ∧ ¬ Int32.ofNat (2 * L) < 0 ∧ ¬ Int32.ofNat L < 0 ∧ (16 ≤ L → Int32.ofNat L < Int32.ofNat (2 * L)) := by
  have : ∀ a, a < 129 → ∀ b, b < 128 → ((2 : Int32) * Int32.ofNat (128 * a + b)) = Int32.ofNat (2 * (128 * a + b)) ∧ (Int32.ofNat (2 * (128 * a + b))).toNatClampNeg = 2 * (128 * a + b) ∧ (Int32.ofNat (128 * a + b)).toNatClampNeg = 128 * a + b ∧ ¬ Int32.ofNat (2 * (128 * a + b)) < 0 ∧ ¬ Int32.ofNat (128 * a + b) < 0 ∧ (16 ≤ 128 * a + b → Int32.ofNat (128 * a + b) < Int32.ofNat (2 * (128 * a + b))) := by decide +kernel
  have := this (L / 128) (by omega) (L % 128) (by omega)
  rwa [show 128 * (L / 128) + L % 128 = L by omega] at this
theorem mOw_row {r : Nat} (h : mK r = 9) : mOw (r + 1) = r ∧ mOf (r + 1) = 0 := by
  have h9 : ¬ r + 1 = 9 := fun z => by
    have : r = 8 := by omega
    subst this
    cases h
  unfold mOw mOf
  rw [if_neg h9, if_neg h9]
  exact ⟨rfl, rfl⟩
theorem LGrow {α : Nat → Nat} {F : Nat} {S : wPS} {Ln : Nat → Nat} {V : mV} {d A B j : Nat} {x : Int32} {k0 n0 : Nat} {f : wPS → Prop} (R : mRel α S Ln V) (hd : mDy d) (c : 16 ≤ Ln d ∧ 2 * Ln d ≤ 32768) (eA : A = mq α S d) (ex : x = (2 : Int32) * Int32.ofNat (Ln d)) (eB : B = α (mOw d)) (ej : j = mOf d) (hk : 1 ≤ k0) (hn : 2 * Ln d ≤ n0) (k : ∀ S1, mRel α S1 (va_up Ln d (2 * Ln d)) (mRI V d (va_cpy (V.rI d) (fun _ => 0) 0 0 (Ln d))) → mFr α S S1 → f S1) : rJ7_copyOf_59c91 F k0 n0 A x S (fun v S1 => wkLt (wuA S1 B j (some v)) f) := by
  subst eA ex eB ej
  obtain ⟨t1, t2, t3, t4, t5, t6⟩ := mTwo c.2
  have e2 : S.len (mq α S d) = Ln d := (R.2.2.2.2.2.2.2.1 d hd).2.2.1
  unfold rJ7_copyOf_59c91
  rw [e2, t1, if_neg (fun z => absurd (t6 c.1) (by rw [z]; exact Int32.lt_irrefl))]
  refine ⟨t4, by omega, by rw [t2]; omega, by rw [t2]; omega, fun q hq => ?_⟩
  have ne : mq α S d ≠ q := fun z => hq (z ▸ (R.2.2.2.2.2.2.2.1 d hd).2.1.1)
  rw [t2]
  show _ ∧ _ ∧ _ ∧ _ ∧ _ ∧ _
  have e3 : (wnI S q 13 (2 * Ln d) (fun _ => 0)).len (mq α S d) = Ln d := by
    show va_up S.len q _ _ = _
    rw [mUp_ne _ _ ne, e2]
  rw [e3, if_neg (fun z => absurd (Int32.lt_trans z (t6 c.1)) Int32.lt_irrefl), t3]
  refine ⟨by decide, by decide, t5, by show 0 + _ ≤ _; omega, ?_, ?_⟩
  · show 0 + _ ≤ va_up S.len q _ q
    rw [mUp_eq]
    omega
  obtain ⟨G1, G2, _⟩ := mRel_grow (S' := wuA (wuRI (wnI S q 13 (2 * Ln d) (fun _ => 0)) q (va_cpy ((wnI S q 13 (2 * Ln d) (fun _ => 0)).rI (mq α S d)) ((wnI S q 13 (2 * Ln d) (fun _ => 0)).rI q) 0 0 (Ln d))) (α (mOw d)) (mOf d) (some q)) (L2 := 2 * Ln d) (f := va_cpy (V.rI d) (fun _ => 0) 0 0 (Ln d)) R hd hq rfl rfl rfl rfl rfl rfl (fun a ha => by
      show va_up (va_up S.rI q _) q _ a = _
      rw [mUp_ne _ _ ha, mUp_ne _ _ ha]) (by
      show va_up (va_up S.rI q _) q _ q = _
      rw [mUp_eq]
      show va_cpy (va_up S.rI q (fun _ => 0) _) (va_up S.rI q (fun _ => 0) q) 0 0 _ = _
      rw [mUp_eq, mUp_ne _ _ ne, (R.2.2.2.2.2.2.2.1 d hd).2.2.2.1]) (fun a _ => rfl) rfl
  exact k _ G1 G2
theorem LX9_add {α : Nat → Nat} {F : Nat} {S : wPS} {Ln Ln1 : Nat → Nat} {V V1 : mV} {v : Unit} {Φ : (Unit → wPS → Prop)} {l0Ax l0A : Nat} {l1Ix l1I : Int32} {k0 n0 : Nat} (h : mX9_add F Ln l0A l1I V = some (v, Ln1, V1)) (R : mRel α S Ln V) (sl0A : mK l0A = 9) (el0A : l0Ax = α l0A) (el1I : l1Ix = l1I) (hk : (mP Ln - mP Ln1) / 16 ≤ k0) (hn : mP Ln - mP Ln1 ≤ n0) (k : ∀ S1, mRel α S1 Ln1 V1 → mFr α S S1 → Φ v S1) : rX9_add F k0 n0 l0Ax l1Ix S Φ := by
  subst el0A el1I
  have e1 : gRow_count S (α l0A) = V.fI l0A 1 := mg_I (i := l0A) R (mO9 sl0A) rfl 1
  have e2 : S.len (wkAd (gRow_numbers S (α l0A))) = Ln (l0A + 1) := md_len R (mK9 sl0A) (mg_D (S := S) sl0A rfl)
  have hd := mK9 sl0A
  unfold mX9_add at h
  obtain ⟨_, h⟩ := mGd_some h
  unfold rX9_add
  refine mIf h (by rw [e1]) (fun c1 h => ?_) (fun c1 h => ?_)
  · refine mIf h (by rw [e1, e2]) (fun c2 h => ?_) (fun c2 h => ?_)
    · refine mGd h (by rw [e1, e2]) (fun c3 h => ?_)
      cases h
      refine mU_DI (V' := mI V (l0A + 1) (V.fI l0A 1) l1Ix) rfl R hd (mg_D (S := S) sl0A rfl) e1 rfl (fun S4 R4 F4 => ?_)
      refine mU_F (V' := mF (mI V (l0A + 1) (V.fI l0A 1) l1Ix) l0A 1 (V.fI l0A 1 + (1 : Int32))) rfl R4 (mO9 sl0A) rfl ?_ (fun S5 R5 F5 => k _ R5 (F4.tr F5))
      rw [show gRow_count S4 (α l0A) = V.fI l0A 1 from mg_I (i := l0A) R4 (mO9 sl0A) rfl 1]
    · obtain ⟨c3, h⟩ := mGd_some h
      have c3 := Decidable.not_not.mp c3
      cases h
      have hp := mP_up (Ln := Ln) (mDys_row sl0A) (Nat.le_refl (2 * Ln (l0A + 1))) (by rw [mCap_row sl0A]; exact c3.2.1)
      refine ⟨k0, n0, by omega, by omega, ?_⟩
      refine LGrow R hd ⟨c3.1, by omega⟩ (mg_D (S := S) sl0A rfl) (by rw [e2]) (by rw [(mOw_row sl0A).1]) (mOw_row sl0A).2.symm (by omega) (by omega) (fun S11 G1 G2 => ?_)
      have e5 : gRow_count S11 (α l0A) = V.fI l0A 1 := mg_I (i := l0A) G1 (mO9 sl0A) rfl 1
      have e6 : S11.len (wkAd (gRow_numbers S11 (α l0A))) = 2 * Ln (l0A + 1) := by
        rw [md_len G1 hd (mg_D (S := S11) sl0A rfl), mUp_eq]
      rw [e5, e6]
      refine ⟨fun z => z.elim c3.2.2.1 (fun z => by omega), ?_⟩
      refine mU_DI rfl G1 hd (mg_D (S := S11) sl0A rfl) rfl rfl (fun S13 R13 F13 => ?_)
      refine mU_F rfl R13 (mO9 sl0A) rfl ?_ (fun S14 R14 F14 => k _ R14 (G2.tr (F13.tr F14)))
      rw [show gRow_count S13 (α l0A) = V.fI l0A 1 from mg_I (i := l0A) R13 (mO9 sl0A) rfl 1]
  · cases h
    exact k _ R mFr.rf
def mX9_copy (_F : Nat) (Ln : Nat → Nat) (r r2 : Nat) (V : mV) : Option (Unit × (Nat → Nat) × mV) :=
  if ¬ mK r = 9 then none else if V.fI r2 1 ≤ Int32.ofNat (Ln (r + 1)) then
    if ¬ (¬ V.fI r2 1 < 0 ∧ (V.fI r2 1).toNatClampNeg ≤ Ln (r2 + 1) ∧ (V.fI r2 1).toNatClampNeg ≤ Ln (r + 1)) then none
    else some ((), Ln, mF (mRI V (r + 1) (va_cpy (V.rI (r2 + 1)) (V.rI (r + 1)) 0 0 (V.fI r2 1).toNatClampNeg)) r 1 (V.fI r2 1))
  else if ¬ (2 * Ln (r + 1) ≤ Ln (r2 + 1) ∧ (16 ≤ Ln (r2 + 1) ∧ Ln (r2 + 1) ≤ 1024) ∧ ¬ V.fI r2 1 < 0 ∧ (V.fI r2 1).toNatClampNeg ≤ Ln (r2 + 1) ∧ r ≠ r2) then none
    else some ((), va_up Ln (r + 1) (Ln (r2 + 1)), mF (mRI V (r + 1) (va_cpy (V.rI (r2 + 1)) (fun _ => 0) 0 0 (V.fI r2 1).toNatClampNeg)) r 1 (V.fI r2 1))
theorem MX9_copy {F r r2 : Nat} {Ln Ln1 : Nat → Nat} {V V1 : mV} {v : Unit} (h : mX9_copy F Ln r r2 V = some (v, Ln1, V1)) : mP Ln1 ≤ mP Ln := by
  unfold mX9_copy at h
  obtain ⟨hr, h⟩ := mGd_some h
  have hr := Decidable.not_not.mp hr
  rcases mIf_some h with ⟨_, h⟩ | ⟨_, h⟩
  · obtain ⟨_, h⟩ := mGd_some h
    cases h
    exact Nat.le_refl _
  · obtain ⟨c, h⟩ := mGd_some h
    cases h
    have c := Decidable.not_not.mp c
    have := mP_up (Ln := Ln) (mDys_row hr) c.1 (by rw [mCap_row hr]; exact c.2.1.2)
    omega
theorem wk2 {a : wPS} {g : wPS → wPS} {f : wPS → Prop} (k : ∀ S8, S8 = g a → f S8) : wkLt a fun S7 => wkLt (g S7) f := k _ rfl
theorem mTen {L : Nat} (h : L ≤ 1024) : (Int32.ofNat L).toNatClampNeg = L ∧ ¬ Int32.ofNat L < 0 := by
  have : ∀ L, L < 1025 → (Int32.ofNat L).toNatClampNeg = L ∧ ¬ Int32.ofNat L < 0 := by decide +kernel
  exact this L (by omega)
theorem LX9_copy {α : Nat → Nat} {F : Nat} {S : wPS} {Ln Ln1 : Nat → Nat} {V V1 : mV} {v : Unit} {Φ : (Unit → wPS → Prop)} {l0Ax l0A l1Ax l1A : Nat} {k0 n0 : Nat} (h : mX9_copy F Ln l0A l1A V = some (v, Ln1, V1)) (R : mRel α S Ln V) (sl0A : mK l0A = 9) (sl1A : mK l1A = 9) (el0A : l0Ax = α l0A) (el1A : l1Ax = α l1A) (hk : (mP Ln - mP Ln1) / 16 ≤ k0) (hn : mP Ln - mP Ln1 ≤ n0) (k : ∀ S1, mRel α S1 Ln1 V1 → mFr α S S1 → Φ v S1) : rX9_copy F k0 n0 l0Ax l1Ax S Φ := by
  subst el0A el1A
  have e1 : gRow_count S (α l1A) = V.fI l1A 1 := mg_I (i := l1A) R (mO9 sl1A) rfl 1
  have e2 : S.len (wkAd (gRow_numbers S (α l0A))) = Ln (l0A + 1) := md_len R (mK9 sl0A) (mg_D (S := S) sl0A rfl)
  have e3 : S.len (wkAd (gRow_numbers S (α l1A))) = Ln (l1A + 1) := md_len R (mK9 sl1A) (mg_D (S := S) sl1A rfl)
  have hd := mK9 sl0A
  unfold mX9_copy at h
  obtain ⟨_, h⟩ := mGd_some h
  unfold rX9_copy
  refine mIf h (by rw [e1, e2]) (fun c1 h => ?_) (fun c1 h => ?_)
  · obtain ⟨c2, h⟩ := mGd_some h
    have c2 := Decidable.not_not.mp c2
    cases h
    rw [e1, e2, e3]
    refine ⟨by decide, by decide, c2.1, by show 0 + _ ≤ _; omega, by show 0 + _ ≤ _; omega, ?_⟩
    refine mU_D (V' := mRI V (l0A + 1) (va_cpy (V.rI (l1A + 1)) (V.rI (l0A + 1)) 0 0 (V.fI l1A 1).toNatClampNeg)) (g' := va_cpy (V.rI (l1A + 1)) (V.rI (l0A + 1)) 0 0 (V.fI l1A 1).toNatClampNeg) rfl R hd (mg_D (S := S) sl0A rfl) ?_ (fun S3 R3 F3 => ?_)
    · rw [md_rIf R (mK9 sl1A) (mg_D (S := S) sl1A rfl), md_rIf R hd (mg_D (S := S) sl0A rfl)]
      rfl
    refine mU_F rfl R3 (mO9 sl0A) rfl ?_ (fun S4 R4 F4 => k _ R4 (F3.tr F4))
    exact mg_I (i := l1A) R3 (mO9 sl1A) rfl 1
  · obtain ⟨c2, h⟩ := mGd_some h
    have c2 := Decidable.not_not.mp c2
    cases h
    obtain ⟨t1, t2⟩ := mTen c2.2.1.2
    have hp := mP_up (Ln := Ln) (mDys_row sl0A) c2.1 (by rw [mCap_row sl0A]; exact c2.2.1.2)
    rw [e3, t1]
    refine ⟨t2, by omega, by omega, by omega, fun q hq => ?_⟩
    have ow : mOw (l0A + 1) = l0A := by
      unfold mOw
      rw [if_neg (fun z => by have : l0A = 8 := by omega
                              subst this; cases sl0A)]
      rfl
    have of : mOf (l0A + 1) = 0 := by
      unfold mOf
      rw [if_neg (fun z => by have : l0A = 8 := by omega
                              subst this; cases sl0A)]
    obtain ⟨G1, G2, G3⟩ := mRel_grow (S' := wu_Row_numbers (wnI S q 13 (Ln (l1A + 1)) (fun _ => 0)) (α l0A) (some q)) (L2 := Ln (l1A + 1)) (f := fun _ => 0) R hd hq rfl rfl rfl rfl (by rw [ow, of]) rfl (fun a ha => by
        show va_up S.rI q _ a = _
        rw [mUp_ne _ _ ha]) (by
        show va_up S.rI q _ q = _
        rw [mUp_eq]) (fun a _ => rfl) rfl
    refine wk2 (fun S8 e8 => ?_)
    rw [← e8] at G1 G2
    have f1 : gRow_count S8 (α l1A) = V.fI l1A 1 := mg_I (i := l1A) G1 (mO9 sl1A) rfl 1
    have ne : l1A + 1 ≠ l0A + 1 := fun z => c2.2.2.2.2 (by omega)
    have f2 : S8.len (wkAd (gRow_numbers S8 (α l0A))) = Ln (l1A + 1) := by
      rw [md_len G1 hd (mg_D (S := S8) sl0A rfl), mUp_eq]
    have f3 : S8.len (wkAd (gRow_numbers S8 (α l1A))) = Ln (l1A + 1) := by
      rw [md_len G1 (mK9 sl1A) (mg_D (S := S8) sl1A rfl), mUp_ne _ _ ne]
    rw [f1, f2, f3]
    refine ⟨by decide, by decide, c2.2.2.1, by show 0 + _ ≤ _; omega, by show 0 + _ ≤ _; omega, ?_⟩
    refine mU_D (V' := mRI V (l0A + 1) (va_cpy (V.rI (l1A + 1)) (fun _ => 0) 0 0 (V.fI l1A 1).toNatClampNeg)) (g' := va_cpy (V.rI (l1A + 1)) (fun _ => 0) 0 0 (V.fI l1A 1).toNatClampNeg) ?_ G1 hd (mg_D (S := S8) sl0A rfl) ?_ (fun S10 R10 F10 => ?_)
    · show (V.fI, V.fJ, va_up V.rI _ _, V.rJ, V.cl) = (V.fI, V.fJ, va_up (va_up V.rI _ _) _ _, V.rJ, V.cl)
      congr 3
      funext j
      unfold va_up
      by_cases z : j = l0A + 1
      · rw [if_pos z, if_pos z]
      · rw [if_neg z, if_neg z, if_neg z]
    · rw [md_rIf G1 (mK9 sl1A) (mg_D (S := S8) sl1A rfl), md_rIf G1 hd (mg_D (S := S8) sl0A rfl)]
      show va_cpy (va_up V.rI (l0A + 1) _ (l1A + 1)) (va_up V.rI (l0A + 1) _ (l0A + 1)) _ _ _ = _
      rw [mUp_eq, mUp_ne _ _ ne]
      rfl
    refine mU_F rfl R10 (mO9 sl0A) rfl ?_ (fun S11 R11 F11 => k _ R11 (G2.tr (F10.tr F11)))
    exact mg_I (i := l1A) R10 (mO9 sl1A) rfl 1
/-- throws: what was thrown, or what was answered; each one takes of what may still be made -/
abbrev mO (α : Type) : Type := (String ⊕ α) × (Nat → Nat) × mV
def mBT {α δ : Type} (o : Option (mO α)) (f : α → (Nat → Nat) → mV → Option δ) (g : String → (Nat → Nat) → mV → Option δ) : Option δ := o.bind fun p => match p.1 with
  | .inl e => g e p.2.1 p.2.2
  | .inr a => f a p.2.1 p.2.2
theorem mBT_some {α δ : Type} {o : Option (mO α)} {f : α → (Nat → Nat) → mV → Option δ} {g : String → (Nat → Nat) → mV → Option δ} {r : δ} (h : mBT o f g = some r) : (∃ e L V, o = some (.inl e, L, V) ∧ g e L V = some r) ∨ ∃ a L V, o = some (.inr a, L, V) ∧ f a L V = some r := by
  unfold mBT at h
  cases o with
  | none => cases h
  | some p =>
    obtain ⟨x, L, V⟩ := p
    cases x with
    | inl e => exact Or.inl ⟨e, L, V, rfl, h⟩
    | inr a => exact Or.inr ⟨a, L, V, rfl, h⟩
def mTh {α : Type} (Ln : Nat → Nat) (e : String) (V : mV) : Option (mO α) := if Ln 3000 < 5000 then some (.inl e, va_up Ln 3000 (Ln 3000 + 1), V) else none
theorem mTh_some {α : Type} {Ln Ln1 : Nat → Nat} {e : String} {V V1 : mV} {v : String ⊕ α} (h : mTh Ln e V = some (v, Ln1, V1)) : v = .inl e ∧ Ln1 = va_up Ln 3000 (Ln 3000 + 1) ∧ V1 = V ∧ mP Ln1 + 16 = mP Ln := by
  unfold mTh at h
  by_cases c : Ln 3000 < 5000
  · rw [if_pos c] at h
    cases h
    exact ⟨rfl, rfl, rfl, mP_th c⟩
  · rw [if_neg c] at h
    cases h
theorem mRel_un {α : Nat → Nat} {S : wPS} {Ln : Nat → Nat} {V : mV} {x p : Nat} (hp : ¬ mDy p) (R : mRel α S Ln V) : mRel α S (va_up Ln p x) V := by
  obtain ⟨h1, h2, h3, h4, h5, h6, h7, h8, h9⟩ := R
  refine ⟨h1, h2, h3, h4, h5, h6, h7, fun d hd => ⟨(h8 d hd).1, (h8 d hd).2.1, ?_, (h8 d hd).2.2.2⟩, h9⟩
  rw [mUp_ne _ _ (fun z : d = p => hp (z ▸ hd))]
  exact (h8 d hd).2.2.1
theorem mDy_3000 : ¬ mDy 3000 := fun h => by
  rcases h.1 with q | q
  · cases q
  · exact absurd q.2 (by decide)
theorem mDy_3001 : ¬ mDy 3001 := fun h => by
  rcases h.1 with q | q
  · cases q
  · exact absurd q.2 (by decide)
theorem mRel_th {α : Nat → Nat} {S : wPS} {Ln : Nat → Nat} {V : mV} {x : Nat} (R : mRel α S Ln V) : mRel α S (va_up Ln 3000 x) V := mRel_un mDy_3000 R
def mOut {α : Type} (Φ : α → wPS → Prop) (Ψ : String → wPS → Prop) (v : String ⊕ α) (S : wPS) : Prop := match v with
  | .inl e => Ψ e S
  | .inr a => Φ a S
def mOutA (α : Nat → Nat) (Φ : Nat → wPS → Prop) (Ψ : String → wPS → Prop) (v : String ⊕ Nat) (S : wPS) : Prop := match v with
  | .inl e => Ψ e S
  | .inr a => mK a = 3 → Φ (α a) S
/-- the claims stand in an order that changes -/
theorem mg_CL {α : Nat → Nat} {S : wPS} {Ln : Nat → Nat} {V : mV} {A k k' : Nat} (R : mRel α S Ln V) (hk : k' < 16) (eA : A = α 17) (ek : k = k') : wkAd (S.rA A k) = α (V.cl k') := by
  subst eA ek
  rw [(R.2.2.2.2.2.2.1 k hk).1]
  rfl
theorem mg_CLk {α : Nat → Nat} {S : wPS} {Ln : Nat → Nat} {V : mV} {k : Nat} (R : mRel α S Ln V) (hk : k < 16) : mK (V.cl k) = 0 := (R.2.2.2.2.2.2.1 k hk).2
theorem mU_C {α : Nat → Nat} {S : wPS} {Ln : Nat → Nat} {V V' : mV} {f : wPS → Prop} {A x c : Nat} {i i' : Int32} (eV : V' = mCl V i'.toNatClampNeg c) (R : mRel α S Ln V) (hc : mK c = 0) (eA : A = α 17) (ei : i = i') (ec : x = α c) (k : ∀ S', mRel α S' Ln V' → mFr α S S' → f S') : wkLt (wuRef S A i x) f := by
  subst eV eA ei ec
  exact k _ (mRel_cl R hc) (mFr_cl R hc)
/-- the errata grow -/
def mX11_addError_b (Ln : Nat → Nat) (e l n x : Int32) (V : mV) : Option (Unit × (Nat → Nat) × mV) :=
  if x < 0 ∨ Ln 9 ≤ x.toNatClampNeg then none else mLt (mI V 9 x (V.fI 0 18)) fun V2 => if (x + (1 : Int32)) < 0 ∨ Ln 9 ≤ (x + (1 : Int32)).toNatClampNeg then none else mLt (mI V2 9 (x + (1 : Int32)) e) fun V4 => if (x + (2 : Int32)) < 0 ∨ Ln 9 ≤ (x + (2 : Int32)).toNatClampNeg then none else mLt (mI V4 9 (x + (2 : Int32)) l) fun V6 => if (x + (3 : Int32)) < 0 ∨ Ln 9 ≤ (x + (3 : Int32)).toNatClampNeg then none else mLt (mI V6 9 (x + (3 : Int32)) n) fun V8 => some ((), Ln, mF V8 0 17 (V8.fI 0 17 + (1 : Int32)))
def mX11_addError (F : Nat) (Ln : Nat → Nat) (e l n : Int32) (V : mV) : Option (Unit × (Nat → Nat) × mV) :=
  if F = 0 then none else if V.fI 0 17 < (8192 : Int32) then mLt (V.fI 0 17 * (4 : Int32)) fun x => if x < Int32.ofNat (Ln 9) then mX11_addError_b Ln e l n x V
    else if ¬ (16 ≤ Ln 9 ∧ 2 * Ln 9 ≤ 32768) then none else mX11_addError_b (va_up Ln 9 (2 * Ln 9)) e l n x (mRI V 9 (va_cpy (V.rI 9) (fun _ => 0) 0 0 (Ln 9)))
  else some ((), Ln, V)
theorem mDy9 : mDy 9 := ⟨Or.inl rfl, by decide⟩
theorem mD9 {α : Nat → Nat} {S : wPS} {A : Nat} (eA : A = α 0) : wkAd (gWitnessworks_errors S A) = mq α S 9 := by
  subst eA
  rfl
theorem MX11_addError_b {Ln Ln1 : Nat → Nat} {V V1 : mV} {e l n x : Int32} {v : Unit} (h : mX11_addError_b Ln e l n x V = some (v, Ln1, V1)) : Ln1 = Ln := by
  unfold mX11_addError_b at h
  obtain ⟨_, h⟩ := mGd_some h
  obtain ⟨_, _, h⟩ := mLt_some h
  obtain ⟨_, h⟩ := mGd_some h
  obtain ⟨_, _, h⟩ := mLt_some h
  obtain ⟨_, h⟩ := mGd_some h
  obtain ⟨_, _, h⟩ := mLt_some h
  obtain ⟨_, h⟩ := mGd_some h
  obtain ⟨_, _, h⟩ := mLt_some h
  cases h
  rfl
theorem mP9 {Ln : Nat → Nat} (c : 2 * Ln 9 ≤ 32768) : mP (va_up Ln 9 (2 * Ln 9)) + 2 * Ln 9 ≤ mP Ln := mP_up (by decide +kernel) (Nat.le_refl _) c
theorem MX11_addError {F : Nat} {Ln Ln1 : Nat → Nat} {V V1 : mV} {l1I l2I l3I : Int32} {v : Unit} (h : mX11_addError F Ln l1I l2I l3I V = some (v, Ln1, V1)) : mP Ln1 ≤ mP Ln := by
  unfold mX11_addError at h
  obtain ⟨_, h⟩ := mGd_some h
  rcases mIf_some h with ⟨_, h⟩ | ⟨_, h⟩
  · obtain ⟨_, _, h⟩ := mLt_some h
    rcases mIf_some h with ⟨_, h⟩ | ⟨_, h⟩
    · rw [MX11_addError_b h]
      exact Nat.le_refl _
    · obtain ⟨c, h⟩ := mGd_some h
      have c := Decidable.not_not.mp c
      rw [MX11_addError_b h]
      have := mP9 c.2
      omega
  · cases h
    exact Nat.le_refl _
theorem LX11_addError_b {α : Nat → Nat} {F : Nat} {S : wPS} {Ln Ln1 : Nat → Nat} {V V1 : mV} {v : Unit} {Φ : (Unit → wPS → Prop)} {e l n x : Int32} {k0 n0 : Nat} {rec : Nat → Nat → Nat → Nat → Int32 → Int32 → Int32 → Int32 → wPS → (Unit → wPS → Prop) → Prop} {c s : Nat} (h : mX11_addError_b Ln e l n x V = some (v, Ln1, V1)) (R : mRel α S Ln V) (k : ∀ S1, mRel α S1 Ln1 V1 → mFr α S S1 → Φ v S1) : rX11_addError_b0 F k0 n0 rec c s (α 0) e l n x S Φ := by
  unfold mX11_addError_b at h
  unfold rX11_addError_b0
  refine mGd h (by rw [md_len R mDy9 (mD9 (S := S) rfl)]) (fun c1 h => ?_)
  obtain ⟨V2, eV2, h⟩ := mLt_some h
  refine mU_DI eV2 R mDy9 (mD9 (S := S) rfl) rfl (mg_I (i := 0) R (by decide) rfl 18) (fun S2 R2 F2 => ?_)
  refine mGd h (by rw [md_len R2 mDy9 (mD9 (S := S2) rfl)]) (fun c2 h => ?_)
  obtain ⟨V4, eV4, h⟩ := mLt_some h
  refine mU_DI eV4 R2 mDy9 (mD9 (S := S2) rfl) rfl rfl (fun S4 R4 F4 => ?_)
  refine mGd h (by rw [md_len R4 mDy9 (mD9 (S := S4) rfl)]) (fun c3 h => ?_)
  obtain ⟨V6, eV6, h⟩ := mLt_some h
  refine mU_DI eV6 R4 mDy9 (mD9 (S := S4) rfl) rfl rfl (fun S6 R6 F6 => ?_)
  refine mGd h (by rw [md_len R6 mDy9 (mD9 (S := S6) rfl)]) (fun c4 h => ?_)
  obtain ⟨V8, eV8, h⟩ := mLt_some h
  refine mU_DI eV8 R6 mDy9 (mD9 (S := S6) rfl) rfl rfl (fun S8 R8 F8 => ?_)
  cases h
  refine mU_F rfl R8 (by decide) rfl ?_ (fun S9 R9 F9 => k _ R9 (F2.tr (F4.tr (F6.tr (F8.tr F9)))))
  rw [show gWitnessworks_errorCount S8 (α 0) = V8.fI 0 17 from mg_I (i := 0) R8 (by decide) rfl 17]
theorem LX11_addError {α : Nat → Nat} {F : Nat} {S : wPS} {Ln Ln1 : Nat → Nat} {V V1 : mV} {v : Unit} {Φ : (Unit → wPS → Prop)} {l0Ax : Nat} {l1Ix l1I : Int32} {l2Ix l2I : Int32} {l3Ix l3I : Int32} {k0 n0 : Nat} (h : mX11_addError F Ln l1I l2I l3I V = some (v, Ln1, V1)) (R : mRel α S Ln V) (el0A : l0Ax = α 0) (el1I : l1Ix = l1I) (el2I : l2Ix = l2I) (el3I : l3Ix = l3I) (hk : (mP Ln - mP Ln1) / 16 ≤ k0) (hn : mP Ln - mP Ln1 ≤ n0) (k : ∀ S1, mRel α S1 Ln1 V1 → mFr α S S1 → Φ v S1) : rX11_addError F k0 n0 l0Ax l1Ix l2Ix l3Ix S Φ := by
  subst el0A el1I el2I el3I
  cases F with
  | zero =>
    unfold mX11_addError at h
    obtain ⟨hF, _⟩ := mGd_some h
    exact absurd rfl hF
  | succ F =>
    unfold mX11_addError at h
    obtain ⟨_, h⟩ := mGd_some h
    unfold rX11_addError rX11_addError_s
    have e1 : gWitnessworks_errorCount S (α 0) = V.fI 0 17 := mg_I (i := 0) R (by decide) rfl 17
    have e2 : S.len (wkAd (gWitnessworks_errors S (α 0))) = Ln 9 := md_len R mDy9 (mD9 (S := S) rfl)
    refine mIf h (by rw [e1]) (fun c1 h => ?_) (fun c1 h => ?_)
    · refine mLet h (by rw [e1]) (fun x11 ex11 h => ?_)
      refine mIf h (by rw [e2]) (fun c2 h => ?_) (fun c2 h => ?_)
      · rw [rX11_addError_go, if_pos rfl]
        exact LX11_addError_b h R k
      · obtain ⟨c, h⟩ := mGd_some h
        have c := Decidable.not_not.mp c
        have hp := mP9 c.2
        have he := MX11_addError_b h
        subst he
        refine ⟨k0, n0, by omega, by omega, ?_⟩
        refine LGrow R mDy9 c (mD9 (S := S) rfl) (by rw [e2]) rfl rfl (by omega) (by omega) (fun S18 G1 G2 => ?_)
        rw [rX11_addError_go, if_pos rfl]
        exact LX11_addError_b h G1 (fun S1 R1 F1 => k S1 R1 (G2.tr F1))
    · cases h
      exact k _ R mFr.rf
end
