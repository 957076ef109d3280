/-! THE PURE PART, inequalities: the machine writes the least row. -/
section
theorem lpM.mv {V V1 : mV} {R C : Nat} {S : lpS} {w : Nat → Prop} (h : lpM V R C S) (hR : R ≤ 13) (a : mAv w V V1) (h4 : ¬ w 4) (hw : ∀ i, 36 ≤ i → i ≤ 51 → ¬ w i) : lpM V1 R C S := by
  obtain ⟨m1, m2, m3, m4, m5, m6, m7⟩ := h
  have c4 := a.1 4 h4
  refine ⟨?_, ?_, ?_, ?_, fun r c hr hc => ?_, fun r hr => ?_, fun c hc => ?_⟩
  · rw [c4.1]
    exact m1
  · rw [c4.1]
    exact m2
  · rw [c4.2.1]
    exact m3
  · rw [c4.1]
    exact m4
  · rw [(a.1 (36 + r) (hw _ (by omega) (by omega))).2.2.2]
    exact m5 r c hr hc
  · rw [(a.1 50 (hw _ (by omega) (by omega))).2.2.1]
    exact m6 r hr
  · rw [(a.1 51 (hw _ (by omega) (by omega))).2.2.1]
    exact m7 c hc
theorem mnA_okS {a : Nat → Nat → Int} {R C : Nat} {S : lpS} (h : okS a R C S) (hR : R ≤ 13) (hC : C ≤ 17) : ∀ n, n ≤ 30 → okS a R C (mnA S R C n)
  | 0, _ => h
  | n + 1, hn => mnS_okS (mnA_okS h hR hC n (by omega)) hR hC (by omega)
theorem gcL_p {S : lpS} {R C : Nat} (h : 0 < sL S) : ∀ n, 0 < gcL S R C n ∧ gcL S R C n ≤ (sL S).natAbs := fun n => by
  have d := (gcL_d (S := S) (R := R) (C := C) n).1
  exact ⟨Nat.pos_of_dvd_of_pos d (by omega), Nat.le_of_dvd (by omega) d⟩
theorem tdiv_b {x : Int} {g : Nat} (h : x.natAbs < 2 ^ 30) : (x.tdiv g).natAbs < 2 ^ 30 := by
  rw [Int.natAbs_tdiv]
  exact Nat.lt_of_le_of_lt (Nat.div_le_self _ _) h
def rwT (S : lpS) (R C n l : Nat) : List Int32 := Int32.ofInt ((sL S).tdiv (gcL S R C n)) :: (List.range l).map (fun l => Int32.ofInt ((vlS S R C l).tdiv (gcL S R C n)))
theorem rwT_s {S : lpS} {R C n l : Nat} : rwT S R C n (l + 1) = rwT S R C n l ++ [Int32.ofInt ((vlS S R C l).tdiv (gcL S R C n))] := by
  unfold rwT
  rw [List.range_succ, List.map_append, List.cons_append]
  rfl
theorem rwT_l {S : lpS} {R C n l : Nat} : (rwT S R C n l).length = l + 1 := by
  unfold rwT
  rw [List.length_cons, List.length_map, List.length_range]
theorem T_writeLeast {a : Nat → Nat → Int} {F R C n r : Nat} {Ln : Nat → Nat} {S : lpS} {V : mV} (hF : 2 ^ 20 ≤ F) (hr : 256 ≤ r) (hr2 : r < 1030) (hk : mK r = 9) (hM : lpM V R C S) (hI : okS a R C S) (hb : bdA a R C 47239200) (hR : R ≤ 13) (hC : C ≤ 17) (hn : n ≤ 30) (hrow : rowIs Ln V r []) : mTo (mX5_writeLeast F Ln (nI n) r V) (fun p => rowIs p.2.1 p.2.2 r (rowL (mnA S R C n) R C n)) := by
  have okT := mnA_okS hI hR hC n hn
  have BT := okS_B okT hb hR hC
  obtain ⟨T, hT⟩ : ∃ T, T = mnA S R C n := ⟨_, rfl⟩
  rw [← hT] at okT BT ⊢
  have L := okT.1.2.1
  have Lb := lp_L okT.1 hb
  have vb : ∀ l, (vlS T R C l).natAbs ≤ 47239200 := fun l => vlS_B okT.1 hb
  have gn := gcL_p (R := R) (C := C) L n
  have go2 : ∀ k' l Ln1 (V1 : mV), n - l + 1 ≤ k' → l ≤ n → lpM V1 R C T → rowIs Ln1 V1 r (rwT T R C n l) → mTo (mX5_writeLeast_go F k' 2 Ln1 (nI n) r 0 (jO (gcL T R C n : Nat)) (nI l) V1) (fun p => rowIs p.2.1 p.2.2 r (rowL T R C n)) := by
    intro k'
    induction k' with
    | zero => exact fun l Ln1 V1 h => by omega
    | succ k ih =>
      intro l Ln1 V1 h1 h2 h3 h4
      rw [mX5_writeLeast_go, if_neg (by decide), if_neg (by decide), if_pos rfl]
      unfold mX5_writeLeast_b2
      refine mTo.le rfl rfl (by omega) (by omega) (fun z => mTo.ret ?_) (fun z => mTo.so (T_valueOf (by omega) h3 BT (by omega)) (mTo.ite (fun w => ?_) (fun _ => ?_)))
      · rw [show l = n by omega] at h4
        exact h4
      · have := (jO_z (by omega)).mp w
        omega
      · have v1 := vb l
        rw [jO_div (by omega) (by omega), to32 (tdiv_b (by omega))]
        obtain ⟨q, q1, q2, q3, q4⟩ := T_radd (F := F) (v := Int32.ofInt ((vlS T R C l).tdiv (gcL T R C n))) hk h4 (by rw [rwT_l]; omega)
        refine mTo.A (Q := fun x => x = q) ⟨q, q1, rfl⟩ (fun a L1 V2 _ x => mTo.lt ?_)
        have eL : L1 = q.2.1 := by rw [← x]
        have eV : V2 = q.2.2 := by rw [← x]
        rw [eL, eV, nI_1]
        refine ih (l + 1) _ _ (by omega) (by omega) (h3.mv hR q3 (by unfold wX9_add; omega) (fun i _ _ => by unfold wX9_add; omega)) ?_
        rw [rwT_s]
        exact q2
  have go1 : ∀ k' l (V1 : mV), (n - l) + 1 + n + 2 ≤ k' → l ≤ n → lpM V1 R C T → rowIs Ln V1 r [] → mTo (mX5_writeLeast_go F k' 1 Ln (nI n) r 0 (jO (gcL T R C l : Nat)) (nI l) V1) (fun p => rowIs p.2.1 p.2.2 r (rowL T R C n)) := by
    intro k'
    induction k' with
    | zero => exact fun l V1 h => by omega
    | succ k ih =>
      intro l V1 h1 h2 h3 h4
      have gl := gcL_p (R := R) (C := C) L l
      rw [mX5_writeLeast_go, if_neg (by decide), if_pos rfl]
      unfold mX5_writeLeast_b1
      refine mTo.le rfl rfl (by omega) (by omega) (fun z => mTo.ite (fun _ => mTo.ite (fun w => ?_) (fun _ => ?_)) (fun w => ?_)) (fun z => mTo.so (T_valueOf (by omega) h3 BT (by omega)) (mTo.so (T_gcd (by omega) (by omega) (by have := vb l; omega)) (mTo.lt ?_)))
      · have := (jO_z (by omega)).mp w
        omega
      · have el : l = n := by omega
        subst el
        rw [h3.2.2.1, jO_div (by omega) (by omega), to32 (tdiv_b (by omega))]
        obtain ⟨q, q1, q2, q3, q4⟩ := T_radd (F := F) (v := Int32.ofInt ((sL T).tdiv (gcL T R C l))) hk h4 (by rw [List.length_nil]; omega)
        refine mTo.A (Q := fun x => x = q) ⟨q, q1, rfl⟩ (fun a L1 V2 _ x => ?_)
        have eL : L1 = q.2.1 := by rw [← x]
        have eV : V2 = q.2.2 := by rw [← x]
        rw [eL, eV]
        exact go2 k 0 _ _ (by omega) (Nat.zero_le _) (h3.mv hR q3 (by unfold wX9_add; omega) (fun i _ _ => by unfold wX9_add; omega)) q2
      · exact absurd ((cmpge (y := 1) (by omega) (by decide)).mpr (by omega)) w
      · rw [nI_1]
        exact ih (l + 1) V1 (by omega) (by omega) h3 h4
  have go0 : ∀ k' l (V1 : mV), (n - l) + 1 + n + 1 + n + 2 ≤ k' → l ≤ n → lpM V1 R C (mnA S R C l) → rowIs Ln V1 r [] → mTo (mX5_writeLeast_go F k' 0 Ln (nI n) r (nI l) 0 0 V1) (fun p => rowIs p.2.1 p.2.2 r (rowL T R C n)) := by
    intro k'
    induction k' with
    | zero => exact fun l V1 h => by omega
    | succ k ih =>
      intro l V1 h1 h2 h3 h4
      rw [mX5_writeLeast_go, if_pos rfl]
      unfold mX5_writeLeast_b0
      refine mTo.le rfl rfl (by omega) (by omega) (fun z => mTo.lt ?_) (fun z => ?_)
      · have el : l = n := by omega
        subst el
        rw [← hT] at h3
        have := go1 k 0 V1 (by omega) (Nat.zero_le _) h3 h4
        rw [show (gcL T R C 0 : Int) = sL T by show ((sL T).natAbs : Int) = sL T; omega, ← h3.2.2.1] at this
        exact this
      · obtain ⟨p, e1, q⟩ := T_minimise (F := F) (by omega) h3 (mnA_okS hI hR hC l (by omega)) hb hR hC (show l < 30 by omega)
        have fr := NX5_minimise (v := p.1) (V1 := p.2) e1
        refine mTo.W (Q := fun r => r = p) ⟨p, e1, rfl⟩ (fun v V3 _ x => mTo.lt ?_)
        have eV : V3 = p.2 := congrArg Prod.snd x
        rw [eV, nI_1]
        exact ih (l + 1) p.2 (by omega) (by omega) q (h4.mv fr (by unfold wX5_minimise; omega) (by unfold wX5_minimise; omega))
  unfold mX5_writeLeast mX5_writeLeast_s
  exact go0 F 0 V (by omega) (Nat.zero_le _) hM hrow
end
