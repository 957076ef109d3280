/-! THE PURE PART, roots: the plain polynomial; the chain that is built. -/
section
theorem lsZ_in : ∀ {ch : List (List Int × Nat)}, ch ≠ [] → lsZ ch ∈ ch ∧ ch.getD (ch.length - 1) ([], 0) = lsZ ch
  | [], h => absurd rfl h
  | [x], _ => ⟨List.mem_cons_self, rfl⟩
  | x :: y :: r, _ => by
    obtain ⟨h1, h2⟩ := lsZ_in (ch := y :: r) (by simp)
    exact ⟨List.mem_cons_of_mem _ h1, h2⟩
theorem T_divideFirst {F ad : Nat} {V : mV} {A : List Int} {ch : List (List Int × Nat)} {p : List Int} {pd : Nat} (hF : 2 ^ 22 ≤ F) (hc : chI V ch) (c0 : ch.head? = some (A, ad)) (hl : ch.length ≤ 5) (hg : god A ad) (hlast : god (lsZ ch).1 (lsZ ch).2 ∧ (lsZ ch).2 ≤ ad) (hm : fsZ A ad (lsZ ch).1 (lsZ ch).2 = some (p, pd)) : mTo (mX8_divideFirst F (nI (ch.length - 1)) V) (fun q => q.2.rI 67 0 = nI pd ∧ plI q.2 62 p ∧ len4 p ∧ pd ≤ 3 ∧ ∀ k, pd < k → k < 4 → gZ p k = 0) := by
  obtain ⟨B, bd, hB⟩ : ∃ B bd, lsZ ch = (B, bd) := ⟨_, _, rfl⟩
  rw [hB] at hm hlast
  obtain ⟨gb, hbd⟩ := hlast
  have nch : ch ≠ [] := fun z => by rw [z] at c0; cases c0
  have lp : 0 < ch.length := List.length_pos_iff.mpr nch
  obtain ⟨_, lst⟩ := lsZ_in nch
  obtain ⟨n, hn⟩ : ∃ n, ch.length = n + 1 := ⟨ch.length - 1, by omega⟩
  rw [hn, Nat.add_sub_cancel] at lst ⊢
  have e0 : ch.getD 0 ([], 0) = (A, ad) := by
    cases ch with
    | nil => exact absurd rfl nch
    | cons x r =>
      have : some x = some (A, ad) := c0
      cases this
      rfl
  obtain ⟨r0, pa⟩ := hc.2 0 (by omega)
  obtain ⟨r1, pb⟩ := hc.2 n (by omega)
  rw [e0] at r0 pa
  rw [lst, hB] at r1 pb
  unfold fsZ at hm
  cases hd : dvZ A B ad bd with
  | none =>
    rw [hd] at hm
    cases hm
  | some LO =>
    obtain ⟨L, O⟩ := LO
    rw [hd] at hm
    have hm : (if sm4 O = true then some (frZ (mulZ (if gZ O (dgZ O - 1) < 0 then -1 else 1) O), dgZ O - 1) else none) = some (p, pd) := hm
    by_cases sm : sm4 O = true
    · rw [if_pos sm] at hm
      cases hm
      have s62 := sm4_of sm
      unfold mX8_divideFirst mX8_divideFirst_s
      rw [nI_clamp (n := n) (by omega), show V.rI 67 ((0 : Int32).toNatClampNeg) = nI ad from r0, r1]
      have ml : mLen (62 + n) = 4 := by
        rcases (by omega : n = 0 ∨ n = 1 ∨ n = 2 ∨ n = 3 ∨ n = 4) with rfl | rfl | rfl | rfl | rfl <;> decide
      obtain ⟨q, q0, q1, q2⟩ := T_divide (F := F) (by omega) (by omega) (ca := 62) (by decide) ml ⟨by omega, by omega⟩ hg.1 pa pb gb.2.2.1 (gb.2.2.2.1 bd (by have := gb.2.1; omega)) hbd hg.2.1 hd
      have fr := NX8_divide (v := q.1) (V1 := q.2) q0
      refine mTo.gd (by decide) (mTo.ic rfl (by omega) (by omega) (mTo.gd (by decide) (mTo.ic rfl (by omega) (by omega) ?_)))
      refine mTo.W (Q := fun r => r = q) ⟨q, q0, rfl⟩ (fun v V1 _ x => ?_)
      have eV : V1 = q.2 := congrArg Prod.snd x
      rw [eV]
      refine mTo.so (T_degreeOf (L := O) (by omega) (by decide) q2 s62) (mTo.gd (by decide) (mTo.lt ?_))
      have d4 : dgZ O - 1 ≤ 3 := by
        by_cases z : dgZ O = 0
        · omega
        · exact (dg_sp (L := O) (n := dgZ O - 1) (by omega)).1
      have mx : (if (0 : Int32) < (if dgZ O = 0 then -1 else nI (dgZ O - 1)) then (if dgZ O = 0 then -1 else nI (dgZ O - 1)) else (0 : Int32)) = nI (dgZ O - 1) := by
        by_cases z : dgZ O = 0
        · rw [if_pos z, if_neg (by decide), z]
          rfl
        · rw [if_neg z]
          by_cases y : dgZ O - 1 = 0
          · rw [y, if_neg (by decide)]
            rfl
          · rw [if_pos (show (0 : Int32) < nI (dgZ O - 1) from (nI_ltI (a := 0) (b := dgZ O - 1) (by omega) (by omega)).mpr (by omega))]
      rw [mx]
      obtain ⟨U, hU⟩ : ∃ U, U = mI q.2 67 0 (nI (dgZ O - 1)) := ⟨_, rfl⟩
      rw [← hU]
      have u0 : U.rI 67 ((0 : Int32).toNatClampNeg) = nI (dgZ O - 1) := by
        rw [hU]
        exact (mI_at (i := 0) (show (0 : Int32).toNatClampNeg = 0 from rfl)).trans (if_pos rfl)
      have u69 : plI U 69 O := by
        rw [hU]
        exact q2
      rw [u0, nI_clamp (n := dgZ O - 1) (by omega), u69 (dgZ O - 1) (by omega)]
      have go : ∀ (sg : Int), sg.natAbs = 1 → ∀ k' j (V1 : mV), 4 < j + k' → j ≤ 4 → plI V1 69 O → V1.rI 67 0 = nI (dgZ O - 1) → (∀ k, k < j → V1.rJ 62 k = jO (sg * gZ O k)) → mTo (mX8_divideFirst_go F k' 0 (jO sg) (nI j) V1) (fun q => q.2.rI 67 0 = nI (dgZ O - 1) ∧ plI q.2 62 (frZ (mulZ sg O)) ∧ len4 (frZ (mulZ sg O)) ∧ dgZ O - 1 ≤ 3 ∧ ∀ k, dgZ O - 1 < k → k < 4 → gZ (frZ (mulZ sg O)) k = 0) := by
        intro sg hsg k'
        induction k' with
        | zero => intro j V1 h; omega
        | succ k ih =>
          intro j V1 h1 h2 h3 h4 h5
          rw [mX8_divideFirst_go, if_pos rfl]
          unfold mX8_divideFirst_b0
          refine mTo.le (a := 4) rfl rfl (by omega) (by omega) (fun z => mTo.gd (by decide) ?_) (fun z => mTo.gd (by decide) (mTo.ix rfl z (by omega) (mTo.ix rfl z (by omega) (mTo.lt (mTo.lt ?_)))))
          · have hp : plI V1 62 (mulZ sg O) := fun k hk => by
              rw [h5 k (by omega), gZ_mul hk, Int.mul_comm]
            obtain ⟨r, r0, r1⟩ := T_makeFree (F := F) (a := 62) (L := mulZ sg O) (by omega) (by decide) rfl hp (fun k hk => by
              rw [gZ_mul hk, Int.natAbs_mul, hsg, Nat.mul_one]
              exact s62 k hk)
            have fr' := NX8_makeFree (v := r.1) (V1 := r.2) r0
            refine mTo.W (Q := fun x => x = r) ⟨r, r0, rfl⟩ (fun v V2 _ x => mTo.ret ?_)
            have eV : V2 = r.2 := congrArg Prod.snd x
            subst eV
            refine ⟨?_, r1, (fr_k (show len4 (mulZ sg O) from rfl)).1, d4, fun k hk hk4 => (fr_0 (show len4 (mulZ sg O) from rfl) hk4).mpr ?_⟩
            · show r.2.rI 67 0 = _
              rw [(fr'.1 67 (fun y => absurd (show 67 = 62 from y) (by decide))).2.2.1]
              exact h4
            · rw [gZ_mul hk4]
              by_cases y : dgZ O = 0
              · have z0 : ∀ k, k < 4 → gZ O k = 0 := by
                  unfold dgZ at y
                  by_cases e3 : gZ O 3 = 0
                  · by_cases e2 : gZ O 2 = 0
                    · by_cases e1 : gZ O 1 = 0
                      · by_cases e0 : gZ O 0 = 0
                        · intro k hk
                          rcases (by omega : k = 0 ∨ k = 1 ∨ k = 2 ∨ k = 3) with rfl | rfl | rfl | rfl
                          · exact e0
                          · exact e1
                          · exact e2
                          · exact e3
                        · simp [e0, e1, e2, e3] at y
                      · simp [e1, e2, e3] at y
                    · simp [e2, e3] at y
                  · simp [e3] at y
                rw [z0 k hk4, Int.zero_mul]
              · rw [(dg_sp (L := O) (n := dgZ O - 1) (by omega)).2.2 k hk hk4, Int.zero_mul]
          · rw [nI_1, nI_clamp (n := j) (by omega), h3 j z, jO_mul]
            refine ih (j + 1) _ (by omega) (by omega) (fun k hk => by rw [mJ_no (show 69 ≠ 62 + (0 : Int32).toNatClampNeg by decide)]; exact h3 k hk) h4 (fun k hk => ?_)
            show (mJ V1 62 (nI j) (jO (sg * gZ O j))).rJ 62 k = _
            rw [mJ_at (nI_clamp (by omega))]
            by_cases f : k = j
            · rw [if_pos f, f]
            · rw [if_neg f]
              exact h5 k (by omega)
      refine mTo.gd (by decide) (mTo.ic rfl (by omega) (by omega) (mTo.ite (fun y => ?_) (fun y => ?_)))
      · have y := (cmpge (x := gZ O (dgZ O - 1)) (y := 0) (s62 _ (by omega)) (by decide)).mp y
        rw [if_neg (by omega)]
        exact go 1 rfl F 0 U (by omega) (by omega) u69 u0 (fun k hk => by omega)
      · have y : ¬ 0 ≤ gZ O (dgZ O - 1) := fun z => y ((cmpge (x := gZ O (dgZ O - 1)) (y := 0) (s62 _ (by omega)) (by decide)).mpr z)
        rw [if_pos (by omega)]
        exact go (-1) rfl F 0 U (by omega) (by omega) u69 u0 (fun k hk => by omega)
    · rw [if_neg sm] at hm
      cases hm
/-- the numbers of the item, none if there is none -/
def itR (d : Nat → Int32) (m : Nat) : List Int := [(aV d m 0 0).toInt, (aV d m 0 1).toInt, (aV d m 0 2).toInt, (aV d m 0 3).toInt]
def qR (d : Nat → Int32) (m : Nat) : Prop := ∀ k, k < 4 → (aV d m 0 k).toInt.natAbs ≤ 7
noncomputable def chnR (d : Nat → Int32) (m : Nat) : List (List Int × Nat) := (bcZ (itR d m)).getD []
theorem chnR_ok {d : Nat → Int32} {m : Nat} (h : qR d m) : bcZ (itR d m) = some (chnR d m) ∧ okC (chnR d m) := by
  obtain ⟨ch, h1, h2⟩ := bc_all (h 3 (by omega)) (h 2 (by omega)) (h 1 (by omega)) (h 0 (by omega))
  have h1 : bcZ (itR d m) = some ch := h1
  unfold chnR
  rw [h1]
  exact ⟨rfl, h2⟩
theorem itR_k {d : Nat → Int32} {m k : Nat} (hk : k < 4) : gZ (itR d m) k = (aV d m 0 k).toInt := by
  rcases (by omega : k = 0 ∨ k = 1 ∨ k = 2 ∨ k = 3) with rfl | rfl | rfl | rfl <;> rfl
/-- a chain that is plain: its first polynomial -/
theorem okC_first {p : List Int} {pd : Nat} {ch : List (List Int × Nat)} (h : okC ch) (hc : ch.head? = some (p, pd)) : (∀ k, k < 4 → (gZ p k).natAbs ≤ 1048576) ∧ (pd ≠ 0 → ch.length = 1 ∨ gZ p pd ≠ 0) := by
  obtain ⟨m1, _⟩ := okC_d h
  have mem : (p, pd) ∈ ch := List.mem_of_mem_head? hc
  refine ⟨(m1 _ mem).2.1, fun hp => ?_⟩
  rcases h with rfl | ⟨c, rfl, _⟩ | ⟨q, u, rfl, h1, _⟩ | ⟨q, u, v, rfl, h1, _⟩ | ⟨q, u, v, w, rfl, h1, _⟩ | ⟨q, u, v, rfl, h1, _⟩
  · cases hc
  · exact Or.inl rfl
  · have : some (q, 1) = some (p, pd) := hc
    cases this
    exact Or.inr (by omega)
  · have : some (q, 2) = some (p, pd) := hc
    cases this
    exact Or.inr (by omega)
  · have : some (q, 3) = some (p, pd) := hc
    cases this
    exact Or.inr (by omega)
  · have : some (q, 3) = some (p, pd) := hc
    cases this
    exact Or.inr (by omega)
theorem T_buildChain {F e s m : Nat} {V : mV} {b : Int32} {d : Nat → Int32} (hF : 2 ^ 22 ≤ F) (he : 256 ≤ e) (hm : m ≤ 16) (hq : enQ V e s m b d) (hd : qR d m) : mTo (mX8_buildChain F e V) (fun p => chI p.2 (chnR d m)) := by
  obtain ⟨hb, ok⟩ := chnR_ok hd
  have ik := fun k hk => itR_k (d := d) (m := m) (k := k) hk
  have i7 : ∀ k, k < 4 → (gZ (itR d m) k).natAbs ≤ 7 := fun k hk => by rw [ik k hk]; exact hd k hk
  have fin : ∀ V1 : mV, V1.fI 6 8 = 0 → plI V1 62 (itR d m) → ∀ k, mTo (mX8_buildChain_go F (k + 1) 0 e (nI 4) V1) (fun p => chI p.2 (chnR d m)) := by
    intro V1 h6 hp k
    rw [mX8_buildChain_go, if_pos rfl]
    unfold mX8_buildChain_b0
    rw [if_pos (show (4 : Int32) ≤ nI 4 from (nI_leI (a := 4) (b := 4) (by omega) (by omega)).mpr (by omega))]
    refine mTo.gd (by decide) (mTo.so (T_degreeOf (a := 62) (L := itR d m) (by omega) (by decide) hp (fun k hk => by have := i7 k hk; omega)) ?_)
    unfold bcZ at hb
    cases dg : dgZ (itR d m) with
    | zero =>
      rw [dg] at hb
      have hb : some [] = some (chnR d m) := hb
      rw [if_pos rfl]
      refine mTo.ite (fun y => absurd y (by decide)) (fun _ => mTo.ret ?_)
      have : chnR d m = [] := (Option.some.inj hb).symm
      rw [this]
      exact ⟨h6, fun i hi => absurd hi (Nat.not_lt_zero _)⟩
    | succ ad =>
      rw [dg] at hb
      have hb : (match chZ (itR d m) ad with
        | none => none
        | some ch => match fsZ (itR d m) ad (lsZ ch).1 (lsZ ch).2 with
          | none => none
          | some (p, pd) => chZ p pd) = some (chnR d m) := hb
      cases hc : chZ (itR d m) ad with
      | none =>
        rw [hc] at hb
        cases hb
      | some ch =>
        rw [hc] at hb
        have hb : (match fsZ (itR d m) ad (lsZ ch).1 (lsZ ch).2 with
          | none => none
          | some (p, pd) => chZ p pd) = some (chnR d m) := hb
        cases hf : fsZ (itR d m) ad (lsZ ch).1 (lsZ ch).2 with
        | none =>
          rw [hf] at hb
          cases hb
        | some pp =>
          obtain ⟨p, pd⟩ := pp
          rw [hf] at hb
          have hb : chZ p pd = some (chnR d m) := hb
          obtain ⟨d1, d2, d3⟩ := dg_sp dg
          have ga : god (itR d m) ad := ⟨rfl, d1, d2, fun k hk => by have := i7 k hk; omega, d3⟩
          rw [if_neg (show ¬ ad + 1 = 0 by omega), Nat.add_sub_cancel]
          refine mTo.ite (fun _ => mTo.gd (by decide) (mTo.lt ?_)) (fun y => absurd ((nI_leI (a := 0) (b := ad) (by omega) (by omega)).mpr (Nat.zero_le _)) y)
          obtain ⟨⟨r, r0, r1⟩, r2, r3⟩ := T_continueChain (F := F) (V := mI V1 67 0 (nI ad)) (A := itR d m) hF ((mI_at (i := 0) (show (0 : Int32).toNatClampNeg = 0 from rfl)).trans (if_pos rfl)) hp d1 (fun _ => ⟨ga, fun k hk => by have := i7 k hk; omega⟩) hc
          refine mTo.W (Q := fun x => x = r) ⟨r, r0, rfl⟩ (fun v V2 _ x => ?_)
          have eV : V2 = r.2 := congrArg Prod.snd x
          rw [eV]
          have chn : ch ≠ [] := fun z => by rw [z] at r3; cases r3
          have lp : 0 < ch.length := List.length_pos_iff.mpr chn
          have l5 : ch.length ≤ 5 := by
            have := r1.1
            unfold chZ at hc
            by_cases az : ad = 0
            · rw [if_pos az] at hc
              cases hc
              show 1 ≤ 5
              decide
            · rw [if_neg az] at hc
              have cl : ∀ f a ad b bd r, ccZ f a ad b bd = some r → r.length ≤ f := by
                intro f
                induction f with
                | zero =>
                  intro a ad b bd r h
                  rw [ccZ] at h
                  cases h
                  exact Nat.le_refl _
                | succ f ih =>
                  intro a ad b bd r h
                  rw [ccZ] at h
                  by_cases bz : bd = 0
                  · rw [if_pos bz] at h
                    cases h
                    exact Nat.zero_le _
                  · rw [if_neg bz] at h
                    cases hm : dvZ a b ad bd with
                    | none =>
                      rw [hm] at h
                      cases h
                    | some LO =>
                      obtain ⟨L, O⟩ := LO
                      rw [hm] at h
                      have h : (if sm4 L = true then (match dgZ L with
                        | 0 => some []
                        | nd + 1 => match ccZ f b bd (frZ (ngZ L)) nd with
                          | none => none
                          | some r => some ((frZ (ngZ L), nd) :: r)) else none) = some r := h
                      by_cases sm : sm4 L = true
                      · rw [if_pos sm] at h
                        cases dg : dgZ L with
                        | zero =>
                          rw [dg] at h
                          have h : some [] = some r := h
                          cases h
                          exact Nat.zero_le _
                        | succ nd =>
                          rw [dg] at h
                          have h : (match ccZ f b bd (frZ (ngZ L)) nd with
                            | none => none
                            | some r => some ((frZ (ngZ L), nd) :: r)) = some r := h
                          cases hc : ccZ f b bd (frZ (ngZ L)) nd with
                          | none =>
                            rw [hc] at h
                            cases h
                          | some r' =>
                            rw [hc] at h
                            have h : some ((frZ (ngZ L), nd) :: r') = some r := h
                            cases h
                            exact Nat.succ_le_succ (ih _ _ _ _ _ hc)
                      · rw [if_neg sm] at h
                        cases h
              cases hcc : ccZ 3 (itR d m) ad (drZ (itR d m)) (ad - 1) with
              | none =>
                rw [hcc] at hc
                cases hc
              | some r =>
                rw [hcc] at hc
                have hc : some ((itR d m, ad) :: (drZ (itR d m), ad - 1) :: r) = some ch := hc
                cases hc
                have := cl _ _ _ _ _ _ hcc
                show r.length + 1 + 1 ≤ 5
                omega
          have hlast : god (lsZ ch).1 (lsZ ch).2 ∧ (lsZ ch).2 ≤ ad := by
            by_cases az : ad = 0
            · unfold chZ at hc
              rw [if_pos az] at hc
              cases hc
              subst az
              exact ⟨ga, Nat.le_refl _⟩
            · exact r2 az _ (lsZ_in chn).1
          have x6 : r.2.fI 6 8 - 1 = nI (ch.length - 1) := by
            obtain ⟨n, hn⟩ : ∃ n, ch.length = n + 1 := ⟨ch.length - 1, by omega⟩
            rw [r1.1, hn, nI_pred, Nat.add_sub_cancel]
          rw [x6]
          obtain ⟨t, t0, t1, t2, t3, t4, t5⟩ := T_divideFirst hF r1 r3 l5 ga hlast hf
          refine mTo.W (Q := fun x => x = t) ⟨t, t0, rfl⟩ (fun v V3 _ x => ?_)
          have eV : V3 = t.2 := congrArg Prod.snd x
          rw [eV]
          have hd0 : (chnR d m).head? = some (p, pd) := by
            unfold chZ at hb
            by_cases az : pd = 0
            · rw [if_pos az] at hb
              have hb : some [(p, 0)] = some (chnR d m) := hb
              have : chnR d m = [(p, 0)] := (Option.some.inj hb).symm
              rw [this, az]
              rfl
            · rw [if_neg az] at hb
              cases hcc : ccZ 3 p pd (drZ p) (pd - 1) with
              | none =>
                rw [hcc] at hb
                cases hb
              | some r =>
                rw [hcc] at hb
                have hb : some ((p, pd) :: (drZ p, pd - 1) :: r) = some (chnR d m) := hb
                have : chnR d m = (p, pd) :: (drZ p, pd - 1) :: r := (Option.some.inj hb).symm
                rw [this]
                rfl
          obtain ⟨o1, o2⟩ := okC_first ok hd0
          have good : pd ≠ 0 → god p pd ∧ ∀ k, k < 4 → (gZ p k).natAbs < 2 ^ 60 := fun hz => by
            have nz : gZ p pd ≠ 0 := by
              rcases o2 hz with y | y
              · exfalso
                unfold chZ at hb
                rw [if_neg hz] at hb
                cases hcc : ccZ 3 p pd (drZ p) (pd - 1) with
                | none =>
                  rw [hcc] at hb
                  cases hb
                | some r =>
                  rw [hcc] at hb
                  have hb : some ((p, pd) :: (drZ p, pd - 1) :: r) = some (chnR d m) := hb
                  have : chnR d m = (p, pd) :: (drZ p, pd - 1) :: r := (Option.some.inj hb).symm
                  rw [this] at y
                  have y : r.length + 1 + 1 = 1 := y
                  omega
              · exact y
            exact ⟨⟨t3, t4, nz, fun k hk => by have := o1 k hk; omega, t5⟩, fun k hk => by have := o1 k hk; omega⟩
          obtain ⟨⟨w, w0, w1⟩, _, _⟩ := T_continueChain (F := F) (V := t.2) (A := p) hF t1 t2 t4 good hb
          refine mTo.W (Q := fun x => x = w) ⟨w, w0, rfl⟩ (fun v V4 _ x => mTo.ret ?_)
          have eV : V4 = w.2 := congrArg Prod.snd x
          subst eV
          exact w1
  have go : ∀ k' j (V1 : mV), 8 < j + k' → j ≤ 4 → enQ V1 e s m b d → V1.fI 6 8 = 0 → (∀ k, k < j → V1.rJ 62 k = jO (gZ (itR d m) k)) → mTo (mX8_buildChain_go F k' 0 e (nI j) V1) (fun p => chI p.2 (chnR d m)) := by
    intro k'
    induction k' with
    | zero => intro j V1 h; omega
    | succ k ih =>
      intro j V1 h1 h2 h3 h4 h5
      by_cases j4 : j = 4
      · subst j4
        exact fin V1 h4 h5 k
      · rw [mX8_buildChain_go, if_pos rfl]
        unfold mX8_buildChain_b0
        refine mTo.le (a := 4) rfl rfl (by omega) (by omega) (fun z => by omega) (fun z => mTo.gd (by decide) (mTo.so (T_aV (i := 0) (k := j) hm (by omega) (by omega) rfl rfl h3) (mTo.ix rfl z (by omega) (mTo.lt (mTo.lt ?_)))))
        rw [nI_1, jO_32, ← ik j (by omega)]
        refine ih (j + 1) _ (by omega) (by omega) h3 h4 (fun k hk => ?_)
        show (mJ V1 62 (nI j) (jO (gZ (itR d m) j))).rJ 62 k = _
        rw [mJ_at (nI_clamp (by omega))]
        by_cases f : k = j
        · rw [if_pos f, f]
        · rw [if_neg f]
          exact h5 k (by omega)
  unfold mX8_buildChain mX8_buildChain_s
  refine mTo.lt ?_
  refine go F 0 _ (by omega) (by omega) ?_ (by rw [mF_at]) (fun k hk => by omega)
  obtain ⟨q1, q2, q3, q4⟩ := hq
  exact ⟨by rw [mF_no (Or.inl (by omega))]; exact q1, by rw [mF_no (Or.inl (by omega))]; exact q2, by rw [mF_no (Or.inl (by omega))]; exact q3, q4⟩
end
