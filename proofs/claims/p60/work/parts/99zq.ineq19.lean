/-! THE PURE PART, inequalities: the solver. -/
section
def fdJ (x y : Int64) : Int64 := if 0 ≤ (lg_cmp (x ^^^ y) (0 : Int64)) then x / y else if (lg_cmp (x / y * y) x) = 0 then x / y else x / y - 1
theorem T_floorDivJ {F : Nat} {x y : Int64} (h : y ≠ 0) : mJ9_floorDiv_f86c9 F x y = some (fdJ x y) := by
  unfold mJ9_floorDiv_f86c9 fdJ
  rw [if_neg h]
  show (if 0 ≤ (lg_cmp (x ^^^ y) (0 : Int64)) then some (x / y) else (if (lg_cmp (x / y * y) x) = 0 then some (x / y) else some (x / y - (1 : Int64)))) = _
  split
  · rfl
  · split <;> rfl
/-- what is told -/
def tolU (d : Nat → Int32) (s m : Nat) (b : Int32) : Int32 := Int64.toInt32 (fdJ (Int32.toInt64 b * jO (sL (mnS (fU d s m b) (m + 1) (s + (m + 1)) (s + m))) - jO (vlS (mnS (fU d s m b) (m + 1) (s + (m + 1)) (s + m)) (m + 1) (s + (m + 1)) (s + m))) (if jO (sL (mnS (fU d s m b) (m + 1) (s + (m + 1)) (s + m))) < (1 : Int64) then (1 : Int64) else jO (sL (mnS (fU d s m b) (m + 1) (s + (m + 1)) (s + m)))))
noncomputable def rowLL (d : Nat → Int32) (s m : Nat) (b : Int32) : List Int32 := @ite _ (yesL d s m b) (Classical.propDecidable _) (rowU d s m b) (rowV d s m b)
theorem lk_okS {a : Nat → Nat → Int} {R C row : Nat} {S : lpS} (h : okS a R C S) (hR : R ≤ 13) (hC : C ≤ 17) : okS a R C (lkS S C row) := ⟨lkS_I h.1, lkN_lt h.2 (fun c hc => by
  have := h.1.2.2.2.1.2.1 c hc
  omega) C (Nat.le_refl _)⟩
theorem fU_okS {d : Nat → Int32} {s m : Nat} {b : Int32} (hs : s ≤ 4) (hm : m ≤ 12) : okS (cU d s m b) (m + 1) (s + (m + 1)) (fU d s m b) := lk_okS (stI_okS ⟨cU_I.1, by show (0 : Nat) < 2 ^ 30; omega⟩ (by omega) (by omega) _) (by omega) (by omega)
theorem fW_okS {d : Nat → Int32} {s m : Nat} {b : Int32} (hs : s ≤ 4) (hm : m ≤ 12) : okS (cW d s m b) (s + 1) (m + 1 + s) (fW d s m b) := lk_okS (stI_okS ⟨cW_I.1, by show (0 : Nat) < 2 ^ 30; omega⟩ (by omega) (by omega) _) (by omega) (by omega)
/-- load, and the first phase -/
theorem T_firstU {F e s m : Nat} {b : Int32} {d : Nat → Int32} {V V1 : mV} (hF : 2 ^ 21 ≤ F) (hs : s ≤ 4) (hm : m ≤ 12) (hd : qL d s m b) (hM : lpM V1 (m + 1) (s + (m + 1)) (stS (cU d s m b) (m + 1) (s + (m + 1)))) : mTo (mX5_isFulfilled F V1) (fun p => lpM p.2 (m + 1) (s + (m + 1)) (fU d s m b) ∧ (p.1 = 0 ∨ p.1 = 1) ∧ (p.1 ≠ 0 ↔ yesL d s m b)) := by
  obtain ⟨k, k1, k2, k3, _⟩ := cU_end (d := d) (b := b) hs hm
  exact T_isFulL (by omega) hM ⟨cU_I.1, by show (0 : Nat) < 2 ^ 30; omega⟩ (cU_B hs hd) (by omega) (by omega) k1 k2 k3
theorem T_firstW {F e s m : Nat} {b : Int32} {d : Nat → Int32} {V V1 : mV} (hF : 2 ^ 21 ≤ F) (hs : s ≤ 4) (hm : m ≤ 12) (hd : qL d s m b) (hM : lpM V1 (s + 1) (m + 1 + s) (stS (cW d s m b) (s + 1) (m + 1 + s))) : mTo (mX5_isFulfilled F V1) (fun p => lpM p.2 (s + 1) (m + 1 + s) (fW d s m b)) := by
  obtain ⟨k, k1, k2, k3, _⟩ := cW_end (d := d) (b := b) hs hm
  obtain ⟨p, e1, q⟩ := T_isFulL (F := F) (by omega) hM ⟨cW_I.1, by show (0 : Nat) < 2 ^ 30; omega⟩ (cW_B hs hd) (by omega) (by omega) k1 k2 k3
  exact ⟨p, e1, q.1⟩
theorem T_solveIneq {F e s m : Nat} {Ln : Nat → Nat} {b : Int32} {d : Nat → Int32} {V : mV} (hF : 2 ^ 22 ≤ F) (he : 256 ≤ e) (he2 : e < 1024) (hk : mK (e + 2) = 9) (hs : s ≤ 4) (hm : m ≤ 12) (hd : qL d s m b) (hq : enQ V e s m b d) (hR : rowIs Ln V (e + 2) []) : mTo (mX5_solve F Ln e V) (fun p => (yesL d s m b → p.2.2.fI e 11 = 121 ∧ p.2.2.fI e 12 = tolU d s m b) ∧ (¬ yesL d s m b → p.2.2.fI e 11 = 110 ∧ p.2.2.fI e 12 = 0) ∧ rowIs p.2.1 p.2.2 (e + 2) (rowLL d s m b)) := by
  unfold mX5_solve
  refine mTo.lt ?_
  obtain ⟨p1, e1, q1⟩ := T_loadUnknowns (F := F) (by omega) he hs hm hd hq
  have f1 := NX5_loadUnknowns (v := p1.1) (V1 := p1.2) e1
  refine mTo.W (Q := fun r => r = p1) ⟨p1, e1, rfl⟩ (fun v V1 _ r => ?_)
  have eV : V1 = p1.2 := congrArg Prod.snd r
  rw [eV]
  clear eV r
  have hq1 : enQ p1.2 e s m b d := hq.mv f1 (by unfold wX5_loadUnknowns; omega) (by unfold wX5_loadUnknowns; omega)
  have hR1 : rowIs Ln p1.2 (e + 2) [] := hR.mv f1 (by unfold wX5_loadUnknowns; omega) (by unfold wX5_loadUnknowns; omega)
  obtain ⟨p2, e2, q2, q3, q4⟩ := T_firstU (F := F) (e := e) (V := V) (by omega) hs hm hd q1
  have f2 := NX5_isFulfilled (v := p2.1) (V1 := p2.2) e2
  refine mTo.W (Q := fun r => r = p2) ⟨p2, e2, rfl⟩ (fun v V1 _ r => ?_)
  have ev : v = p2.1 := congrArg Prod.fst r
  have eV : V1 = p2.2 := congrArg Prod.snd r
  rw [ev, eV]
  clear ev eV r
  have hq2 : enQ p2.2 e s m b d := hq1.mv f2 (by unfold wX5_isFulfilled; omega) (by unfold wX5_isFulfilled; omega)
  have hR2 : rowIs Ln p2.2 (e + 2) [] := hR1.mv f2 (by unfold wX5_isFulfilled; omega) (by unfold wX5_isFulfilled; omega)
  refine mTo.ite (fun w => ?_) (fun w => ?_)
  · have no : ¬ yesL d s m b := fun y => q4.mpr y w
    obtain ⟨p3, e3, q5⟩ := T_loadWeights (F := F) (by omega) he hs hm hd hq2
    have f3 := NX5_loadWeights (v := p3.1) (V1 := p3.2) e3
    refine mTo.W (Q := fun r => r = p3) ⟨p3, e3, rfl⟩ (fun v V1 _ r => ?_)
    have eV : V1 = p3.2 := congrArg Prod.snd r
    rw [eV]
    clear eV r
    have hR3 : rowIs Ln p3.2 (e + 2) [] := hR2.mv f3 (by unfold wX5_loadWeights; omega) (by unfold wX5_loadWeights; omega)
    obtain ⟨p4, e4, q6⟩ := T_firstW (F := F) (e := e) (V := V) (by omega) hs hm hd q5
    have f4 := NX5_isFulfilled (v := p4.1) (V1 := p4.2) e4
    refine mTo.W (Q := fun r => r = p4) ⟨p4, e4, rfl⟩ (fun v V1 _ r => ?_)
    have eV : V1 = p4.2 := congrArg Prod.snd r
    rw [eV]
    clear eV r
    have hR4 : rowIs Ln p4.2 (e + 2) [] := hR3.mv f4 (by unfold wX5_isFulfilled; omega) (by unfold wX5_isFulfilled; omega)
    rw [hq.2.1, nI_1]
    obtain ⟨p5, e5, q7⟩ := T_writeLeast (F := F) (n := m + 1) (by omega) (show 256 ≤ e + 2 by omega) (by omega) hk q6 (fW_okS hs hm) (cW_B hs hd) (by omega) (by omega) (by omega) hR4
    refine mTo.A (Q := fun r => r = p5) ⟨p5, e5, rfl⟩ (fun v L1 V1 _ r => ?_)
    have eL : L1 = p5.2.1 := by rw [← r]
    have eV : V1 = p5.2.2 := by rw [← r]
    rw [eL, eV]
    clear eL eV r
    obtain ⟨p6, e6, t1, t2, t3, t4, t4', t5⟩ := T_tell (F := F) (e := e) (x := 0) (t := 0) (V := p5.2.2)
    refine mTo.W (Q := fun r => r = p6) ⟨p6, e6, rfl⟩ (fun v V1 _ r => mTo.ret ?_)
    have eV : V1 = p6.2 := congrArg Prod.snd r
    rw [eV]
    clear eV r
    refine ⟨fun y => absurd y no, fun _ => ⟨t1, t2⟩, ?_⟩
    have er : rowLL d s m b = rowV d s m b := if_neg no
    rw [er]
    obtain ⟨a1, a2, a3, a4⟩ := q7
    exact ⟨by rw [t5 _ (by omega)]; exact a1, a2, a3, fun i hi => by rw [t4]; exact a4 i hi⟩
  · have yes : yesL d s m b := q4.mp w
    have er : rowLL d s m b = rowU d s m b := if_pos yes
    refine mTo.lt ?_
    rw [hq2.1, hq2.2.1, nI_add]
    have okM := mnS_okS (l := s + m) (fU_okS (d := d) (b := b) hs hm) (by omega) (by omega) (by omega)
    have BM := okS_B okM (cU_B hs hd) (by omega) (by omega)
    obtain ⟨p3, e3, q5⟩ := T_minimise (F := F) (by omega) q2 (fU_okS hs hm) (cU_B hs hd) (by omega) (by omega) (show s + m < 30 by omega)
    have f3 := NX5_minimise (v := p3.1) (V1 := p3.2) e3
    refine mTo.W (Q := fun r => r = p3) ⟨p3, e3, rfl⟩ (fun v V1 _ r => ?_)
    have eV : V1 = p3.2 := congrArg Prod.snd r
    rw [eV]
    clear eV r
    have hq3 : enQ p3.2 e s m b d := hq2.mv f3 (by unfold wX5_minimise; omega) (by unfold wX5_minimise; omega)
    have hR3 : rowIs Ln p3.2 (e + 2) [] := hR2.mv f3 (by unfold wX5_minimise; omega) (by unfold wX5_minimise; omega)
    have q5 : lpM p3.2 (m + 1) (s + (m + 1)) (mnS (fU d s m b) (m + 1) (s + (m + 1)) (s + m)) := q5
    refine mTo.so (T_valueOf (by omega) q5 BM (by omega)) (mTo.lt ?_)
    rw [hq3.2.2.1, q5.2.2.1]
    have Lp := okM.1.2.1
    have Lb := BM.2.2.2.2.1
    refine mTo.so (T_floorDivJ ?_) ?_
    · split
      · decide
      · intro z
        have := (jO_z (by omega)).mp z
        omega
    · obtain ⟨p6, e6, t1, t2, t3, t4, t4', t5⟩ := T_tell (F := F) (e := e) (x := 1) (t := tolU d s m b) (V := p3.2)
      refine mTo.W (Q := fun r => r = p6) ⟨p6, e6, rfl⟩ (fun v V1 _ r => ?_)
      have eV : V1 = p6.2 := congrArg Prod.snd r
      rw [eV]
      clear eV r
      have hq6 : enQ p6.2 e s m b d := by
        obtain ⟨a1, a2, a3, a4⟩ := hq3
        exact ⟨by rw [t3 1 (by decide) (by decide)]; exact a1, by rw [t3 6 (by decide) (by decide)]; exact a2, by rw [t3 8 (by decide) (by decide)]; exact a3, by rw [t4]; exact a4⟩
      have hR6 : rowIs Ln p6.2 (e + 2) [] := by
        obtain ⟨a1, a2, a3, a4⟩ := hR3
        exact ⟨by rw [t5 _ (by omega)]; exact a1, a2, a3, fun i hi => by rw [t4]; exact a4 i hi⟩
      obtain ⟨p7, e7, q7⟩ := T_loadUnknowns (F := F) (by omega) he hs hm hd hq6
      have f7 := NX5_loadUnknowns (v := p7.1) (V1 := p7.2) e7
      refine mTo.W (Q := fun r => r = p7) ⟨p7, e7, rfl⟩ (fun v V1 _ r => ?_)
      have eV : V1 = p7.2 := congrArg Prod.snd r
      rw [eV]
      clear eV r
      have hq7 : enQ p7.2 e s m b d := hq6.mv f7 (by unfold wX5_loadUnknowns; omega) (by unfold wX5_loadUnknowns; omega)
      have hR7 : rowIs Ln p7.2 (e + 2) [] := hR6.mv f7 (by unfold wX5_loadUnknowns; omega) (by unfold wX5_loadUnknowns; omega)
      obtain ⟨p8, e8, q8, _, _⟩ := T_firstU (F := F) (e := e) (V := V) (by omega) hs hm hd q7
      have f8 := NX5_isFulfilled (v := p8.1) (V1 := p8.2) e8
      refine mTo.W (Q := fun r => r = p8) ⟨p8, e8, rfl⟩ (fun v V1 _ r => ?_)
      have eV : V1 = p8.2 := congrArg Prod.snd r
      rw [eV]
      clear eV r
      have hq8 : enQ p8.2 e s m b d := hq7.mv f8 (by unfold wX5_isFulfilled; omega) (by unfold wX5_isFulfilled; omega)
      have hR8 : rowIs Ln p8.2 (e + 2) [] := hR7.mv f8 (by unfold wX5_isFulfilled; omega) (by unfold wX5_isFulfilled; omega)
      rw [hq8.1]
      obtain ⟨p9, e9, q9⟩ := T_writeLeast (F := F) (n := s) (by omega) (show 256 ≤ e + 2 by omega) (by omega) hk q8 (fU_okS hs hm) (cU_B hs hd) (by omega) (by omega) (by omega) hR8
      have f9 := (NX5_writeLeast (v := p9.1) (Ln1 := p9.2.1) (V1 := p9.2.2) e9).1
      refine mTo.A (Q := fun r => r = p9) ⟨p9, e9, rfl⟩ (fun v L1 V1 _ r => mTo.ret ?_)
      have eL : L1 = p9.2.1 := by rw [← r]
      have eV : V1 = p9.2.2 := by rw [← r]
      rw [eL, eV]
      clear eL eV r
      have fe : p9.2.2.fI e = p6.2.fI e := by
        rw [(f9.1 e (by unfold wX5_writeLeast; omega)).1, (f8.1 e (by unfold wX5_isFulfilled; omega)).1, (f7.1 e (by unfold wX5_loadUnknowns; omega)).1]
      refine ⟨fun _ => ⟨?_, ?_⟩, fun y => absurd yes y, ?_⟩
      · show p9.2.2.fI e 11 = 121
        rw [fe]
        exact t1
      · show p9.2.2.fI e 12 = tolU d s m b
        rw [fe]
        exact t2
      · show rowIs p9.2.1 p9.2.2 (e + 2) (rowLL d s m b)
        rw [er]
        exact q9
theorem rowLL_yes {d : Nat → Int32} {s m : Nat} {b : Int32} (hs : s ≤ 4) (hm : m ≤ 12) (h : qL d s m b) (y : yesL d s m b) : unfOK d s m b (rowLL d s m b) := by
  rw [show rowLL d s m b = rowU d s m b from if_pos y]
  exact rowL_yes hs hm h y
theorem rowLL_no {d : Nat → Int32} {s m : Nat} {b : Int32} (hs : s ≤ 4) (hm : m ≤ 12) (h : qL d s m b) (y : ¬ yesL d s m b) : wgtOK d s m b (rowLL d s m b) := by
  rw [show rowLL d s m b = rowV d s m b from if_neg y]
  exact rowL_no hs hm h y
end
