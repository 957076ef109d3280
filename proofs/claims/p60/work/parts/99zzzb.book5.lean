/-! THE BOOK: an entry is answered along its leanings. -/
section
def bQ (V : mV) (n : Nat) (Q : Nat → qT) : Prop := V.fI 0 2 = nI n ∧ n ≤ 12 ∧ (∀ j, j < n → isQn V (256 + 8 * j) (Q j) ∧ okIt (Q j) ∧ bndQ (Qk (Q j)) (Qb (Q j))) ∧ acyc Q n
def bS (Ln : Nat → Nat) (V : mV) (n : Nat) (Q : Nat → qT) : Prop := ∀ j, j < n → V.fI (256 + 8 * j) 9 ≠ 0 → bndQ (Qk (Q j)) (V.fI (256 + 8 * j) 10) ∧ V.fI (256 + 8 * j) 11 = aRp (Q j) (V.fI (256 + 8 * j) 10) ∧ V.fI (256 + 8 * j) 12 = aTo (Q j) (V.fI (256 + 8 * j) 10) ∧ rowIs Ln V (256 + 8 * j + 2) (aRw (Q j) (V.fI (256 + 8 * j) 10))
def bW (Ln : Nat → Nat) (V : mV) : Prop := ∀ j, j < 12 → ∃ xs, rowIs Ln V (256 + 8 * j + 2) xs
def frs (V : mV) (Q : Nat → qT) (j : Nat) : Prop := V.fI (256 + 8 * j) 8 = bnd Q j ∧ V.fI (256 + 8 * j) 9 ≠ 0 ∧ V.fI (256 + 8 * j) 10 = bnd Q j
def wRf (a : Nat) : Prop := (2 ≤ a ∧ a ≤ 8) ∨ a = 11 ∨ (19 ≤ a ∧ a ≤ 90) ∨ (256 ≤ a ∧ a < 352 ∧ (a % 8 = 0 ∨ a % 8 = 2 ∨ a % 8 = 3))
def rfR (Ln0 : Nat → Nat) (V0 : mV) (Ln : Nat → Nat) (V : mV) : Prop := mAv wRf V0 V ∧ mAl wRf Ln0 Ln ∧ ∀ i, i < 12 → ∀ j, j ≠ 8 → j ≠ 9 → j ≠ 10 → j ≠ 11 → j ≠ 12 → V.fI (256 + 8 * i) j = V0.fI (256 + 8 * i) j
theorem rfR.rf {Ln : Nat → Nat} {V : mV} : rfR Ln V Ln V := ⟨mAv.rf, mAl.rf, fun _ _ _ _ _ _ _ _ => rfl⟩
theorem rfR.tr {L0 L1 L2 : Nat → Nat} {V0 V1 V2 : mV} (a : rfR L0 V0 L1 V1) (b : rfR L1 V1 L2 V2) : rfR L0 V0 L2 V2 := ⟨mAv.tr a.1 b.1 (fun _ h => h), mAl.tr a.2.1 b.2.1 (fun _ h => h), fun i hi j h1 h2 h3 h4 h5 => (b.2.2 i hi j h1 h2 h3 h4 h5).trans (a.2.2 i hi j h1 h2 h3 h4 h5)⟩
theorem rfR.set {Ln : Nat → Nat} {V : mV} {i : Nat} {v : Int32} (hi : i < 12) : rfR Ln V Ln (mF V (256 + 8 * i) 8 v) := ⟨mAv.rf.F (Or.inr (Or.inr (Or.inr ⟨by omega, by omega, Or.inl (by omega)⟩))), mAl.rf, fun i' _ j h1 _ _ _ _ => mF_no (Or.inr h1)⟩
theorem rfR.sol {F i : Nat} {Ln Ln1 : Nat → Nat} {V V1 : mV} {v : Unit} (hi : i < 12) (h : mX4_solve F Ln (256 + 8 * i) V = some (v, Ln1, V1)) : rfR Ln V Ln1 V1 := by
  have n := NX4_solve h
  have x := EX4_solve (by omega) h
  have sub : ∀ a, wX4_solve (256 + 8 * i) a → wRf a := fun a z => by
    unfold wX4_solve at z
    unfold wRf
    omega
  refine ⟨mAv.tr mAv.rf n.1 sub, mAl.tr mAl.rf n.2 sub, fun i' hi' j h1 h2 h3 h4 h5 => ?_⟩
  by_cases e : i' = i
  · rw [e]
    exact x.1 j h2 h3 h4 h5
  · rw [(n.1.1 (256 + 8 * i') (by unfold wX4_solve; omega)).1]
theorem isQn.mv {V V1 : mV} {e : Nat} {q : qT} (h : isQn V e q) (h1 : ∀ j, j < 7 → V1.fI e j = V.fI e j) (h2 : V1.rI (e + 1) = V.rI (e + 1)) : isQn V1 e q := by
  obtain ⟨a0, a1, a2, a3, a4, a5, a6, a7, a8⟩ := h
  exact ⟨by rw [h1 0 (by decide), a0], by rw [h1 1 (by decide), a1], by rw [h1 2 (by decide), a2], by rw [h1 3 (by decide), a3], by rw [h1 4 (by decide), a4], by rw [h1 5 (by decide), a5], by rw [h1 6 (by decide), a6], fun j hj => by rw [h2, a7 j hj], a8⟩
theorem rfR.Q {Ln0 Ln : Nat → Nat} {V0 V : mV} {n : Nat} {Q : Nat → qT} (h : rfR Ln0 V0 Ln V) (hq : bQ V0 n Q) : bQ V n Q := by
  obtain ⟨q1, q2, q3, q4⟩ := hq
  refine ⟨by rw [(h.1.1 0 (by unfold wRf; omega)).1]; exact q1, q2, fun j hj => ?_, q4⟩
  obtain ⟨a, b, c⟩ := q3 j hj
  exact ⟨a.mv (fun i hi => h.2.2 j (by omega) i (by omega) (by omega) (by omega) (by omega) (by omega)) (h.1.1 (256 + 8 * j + 1) (by unfold wRf; omega)).2.2.1, b, c⟩
theorem isQn.en {V : mV} {e : Nat} {q : qT} {b : Int32} (h : isQn V e q) (hb : V.fI e 8 = b) : enQ V e (Qs q) (Qm q) b (Qd q) := ⟨h.2.1, h.2.2.2.2.2.2.1, hb, fun j hj => h.2.2.2.2.2.2.2.1 j hj⟩
theorem mK_row : ∀ j, j < 12 → mK (256 + 8 * j + 2) = 9 ∧ mK (256 + 8 * j + 4) = 9 := by decide
theorem rowIs.mv2 {Ln Ln1 : Nat → Nat} {V V1 : mV} {r : Nat} {xs : List Int32} {w : Nat → Prop} (h : rowIs Ln V r xs) (a : mAv w V V1) (b : mAl w Ln Ln1) (h1 : ¬ w r) (h2 : ¬ w (r + 1)) : rowIs Ln1 V1 r xs := (h.mv a h1 h2).ln (b (r + 1) h2)
/-- it is solved anew, if it must be -/
theorem T_solveIf {F n j : Nat} {Q : Nat → qT} {Ln : Nat → Nat} {V : mV} {α : Type} {K : (Nat → Nat) → mV → Option α} {R : α → Prop} (hF : 2 ^ 34 ≤ F) (hj : j < n) (hQ : bQ V n Q) (hS : bS Ln V n Q) (hW : bW Ln V) (h8 : V.fI (256 + 8 * j) 8 = bnd Q j) (k : ∀ L2 V2, rfR Ln V L2 V2 → bS L2 V2 n Q → bW L2 V2 → frs V2 Q j → (∀ i, i < n → i ≠ j → frs V Q i → frs V2 Q i) → V2.rI 11 = V.rI 11 → mTo (K L2 V2) R) : mTo (if V.fI (256 + 8 * j) 9 = 0 then (mBA (mX4_solve F Ln (256 + 8 * j) V) fun _ L19 V19 => K L19 V19) else (if V.fI (256 + 8 * j) 10 = V.fI (256 + 8 * j) 8 then K Ln V else (mBA (mX4_solve F Ln (256 + 8 * j) V) fun _ L27 V27 => K L27 V27))) R := by
  obtain ⟨q1, q2, q3, q4⟩ := id hQ
  obtain ⟨a, b, c⟩ := q3 j hj
  have bb := bnd_b q2 hj q4 b.1 c
  have sv : mTo (mBA (mX4_solve F Ln (256 + 8 * j) V) fun _ L19 V19 => K L19 V19) R := by
    obtain ⟨an1, an2, an3, an4, an5, an6, an7⟩ := ansT_ok b bb
    have en := a.en h8
    refine mTo.A (an6 F (256 + 8 * j) Ln V hF (by omega) (by omega) (mK_row j (by omega)).1 a.1 en (hW j (by omega))) (fun _ L V2 e1 q => ?_)
    obtain ⟨p1, p2, p3⟩ := q
    have p1 : V2.fI (256 + 8 * j) 11 = aRp (Q j) (bnd Q j) := p1
    have p2 : V2.fI (256 + 8 * j) 12 = aTo (Q j) (bnd Q j) := p2
    have p3 : rowIs L V2 (256 + 8 * j + 2) (aRw (Q j) (bnd Q j)) := p3
    have n4 := NX4_solve e1
    have x4 := EX4_solve (by omega) e1
    have oth : ∀ i, i < 12 → i ≠ j → V2.fI (256 + 8 * i) = V.fI (256 + 8 * i) := fun i hi ne => (n4.1.1 (256 + 8 * i) (by unfold wX4_solve; omega)).1
    have row : ∀ i, i < 12 → i ≠ j → ∀ xs, rowIs Ln V (256 + 8 * i + 2) xs → rowIs L V2 (256 + 8 * i + 2) xs := fun i hi ne xs hr => hr.mv2 n4.1 n4.2 (by unfold wX4_solve; omega) (by unfold wX4_solve; omega)
    have e10 : V2.fI (256 + 8 * j) 10 = bnd Q j := by rw [x4.2.2, h8]
    refine k L V2 (rfR.sol (by omega) e1) (fun i hi h9 => ?_) (fun i hi => ?_) ⟨by rw [x4.1 8 (by decide) (by decide) (by decide) (by decide), h8], by rw [x4.2.1]; decide, e10⟩ (fun i hi ne hf => ?_) ?_
    · by_cases e : i = j
      · subst e
        rw [e10]
        exact ⟨bb, p1, p2, p3⟩
      · rw [oth i (by omega) e] at h9 ⊢
        obtain ⟨y1, y2, y3, y4⟩ := hS i hi h9
        exact ⟨y1, y2, y3, row i (by omega) e _ y4⟩
    · by_cases e : i = j
      · rw [e]
        exact ⟨_, p3⟩
      · obtain ⟨xs, hx⟩ := hW i hi
        exact ⟨xs, row i hi e xs hx⟩
    · unfold frs at hf ⊢
      rw [oth i (by omega) ne]
      exact hf
    · exact (n4.1.1 11 (by unfold wX4_solve; omega)).2.2.1
  refine mTo.ite (fun _ => sv) (fun h9 => mTo.ite (fun h10 => ?_) (fun _ => sv))
  exact k Ln V rfR.rf hS hW ⟨h8, h9, by rw [h10, h8]⟩ (fun i _ _ hf => hf) rfl
theorem frs_set {V : mV} {Q : Nat → qT} {i j : Nat} {v : Int32} (h : frs V Q i) (hv : i = j → v = bnd Q i) : frs (mF V (256 + 8 * j) 8 v) Q i := by
  obtain ⟨a, b, c⟩ := h
  by_cases e : i = j
  · refine ⟨?_, by rw [mF_no (Or.inr (by decide))]; exact b, by rw [mF_no (Or.inr (by decide))]; exact c⟩
    rw [← hv e, e, mF_at]
  · refine ⟨?_, ?_, ?_⟩
    · rw [mF_no (Or.inl (by omega))]; exact a
    · rw [mF_no (Or.inl (by omega))]; exact b
    · rw [mF_no (Or.inl (by omega))]; exact c
theorem bS_set {Ln : Nat → Nat} {V : mV} {n j : Nat} {Q : Nat → qT} {v : Int32} (hj : j < 12) (hn : n ≤ 12) (h : bS Ln V n Q) : bS Ln (mF V (256 + 8 * j) 8 v) n Q := by
  intro i hi h9
  rw [mF_no (Or.inr (by decide))] at h9
  obtain ⟨y1, y2, y3, r1, r2, r3, r4⟩ := h i hi h9
  rw [mF_no (Or.inr (by decide)), mF_no (Or.inr (by decide)), mF_no (Or.inr (by decide))]
  exact ⟨y1, y2, y3, by rw [mF_no (Or.inl (by omega))]; exact r1, r2, r3, r4⟩
theorem bW_set {Ln : Nat → Nat} {V : mV} {j : Nat} {v : Int32} (h : bW Ln V) (hj : j < 12) : bW Ln (mF V (256 + 8 * j) 8 v) := fun i hi => by
  obtain ⟨xs, r1, r2, r3, r4⟩ := h i hi
  exact ⟨xs, by rw [mF_no (Or.inl (by omega))]; exact r1, r2, r3, r4⟩
theorem T_rf_go {F n j t : Nat} {Q : Nat → qT} {Ln0 : Nat → Nat} {V0 : mV} (hF : 2 ^ 34 ≤ F) (hQ0 : bQ V0 n Q) (hj : j < n) (ht : endQ Q n t j) : ∀ k', (∀ i (V : mV), (t + 1 - i) + t + 4 ≤ k' → i ≤ t + 1 → rfR Ln0 V0 Ln0 V → bS Ln0 V n Q → bW Ln0 V → (∀ x, x < n → frs V0 Q x → frs V Q x) → (∀ x, x < i → V.rI 11 x = nI (stQ Q x j)) → ∀ a : Int32, (i ≤ t → a = nI (stQ Q i j)) → (i = t + 1 → a < 0) → mTo (mX11_refreshed_go F k' 0 Ln0 (256 + 8 * j) (nI i) a 0 V) (fun p => p.1 = .inr (256 + 8 * j) ∧ rfR Ln0 V0 p.2.1 p.2.2 ∧ bS p.2.1 p.2.2 n Q ∧ bW p.2.1 p.2.2 ∧ frs p.2.2 Q j ∧ ∀ x, x < n → frs V0 Q x → frs p.2.2 Q x)) ∧ (∀ i (Ln : Nat → Nat) (V : mV), i + 1 ≤ k' → i ≤ t + 1 → rfR Ln0 V0 Ln V → bS Ln V n Q → bW Ln V → (∀ x, x < n → frs V0 Q x → frs V Q x) → (∀ x, x ≤ t → V.rI 11 x = nI (stQ Q x j)) → (∀ x, i ≤ x → x ≤ t → frs V Q (stQ Q x j)) → mTo (mX11_refreshed_go F k' 1 Ln (256 + 8 * j) 0 0 (nI i - 1) V) (fun p => p.1 = .inr (256 + 8 * j) ∧ rfR Ln0 V0 p.2.1 p.2.2 ∧ bS p.2.1 p.2.2 n Q ∧ bW p.2.1 p.2.2 ∧ frs p.2.2 Q j ∧ ∀ x, x < n → frs V0 Q x → frs p.2.2 Q x)) := by
  have n12 := hQ0.2.1
  have t12 := end_lt n12 hj ht
  have st := end_st n12 hj ht
  intro k'
  induction k' with
  | zero => exact ⟨fun i V h => by omega, fun i Ln V h => by omega⟩
  | succ k ih =>
    obtain ⟨ih0, ih1⟩ := ih
    refine ⟨fun i V h1 h2 hR hS hW hf h11 a ha1 ha2 => ?_, fun i Ln V h1 h2 hR hS hW hf h11 hp => ?_⟩
    · rw [mX11_refreshed_go, if_pos rfl]
      unfold mX11_refreshed_b0
      have down : mTo (mX11_refreshed_go F k 1 Ln0 (256 + 8 * j) 0 0 (nI i - 1) V) (fun p => p.1 = .inr (256 + 8 * j) ∧ rfR Ln0 V0 p.2.1 p.2.2 ∧ bS p.2.1 p.2.2 n Q ∧ bW p.2.1 p.2.2 ∧ frs p.2.2 Q j ∧ ∀ x, x < n → frs V0 Q x → frs p.2.2 Q x) ∨ i ≤ t := by
        by_cases c : i ≤ t
        · exact Or.inr c
        · left
          have ei : i = t + 1 := by omega
          subst ei
          exact ih1 (t + 1) Ln0 V (by omega) (Nat.le_refl _) hR hS hW hf (fun x hx => h11 x (by omega)) (fun x h1 h2 => by omega)
      by_cases c : i ≤ t
      · have ea := ha1 c
        have si := (st i c).1
        rw [if_neg (show ¬ a < 0 by rw [ea]; exact nI_nn (by omega)), ea]
        refine mTo.le (a := 12) rfl rfl (by decide) (by omega) (fun z => by omega) (fun z => mTo.ix rfl (by omega) (by omega) (mTo.lt (mTo.lt (mTo.ix rfl (by omega) (by omega) (mTo.lt ?_)))))
        obtain ⟨V6, hV6⟩ : ∃ V6, V6 = mI V 11 (nI i) (nI (stQ Q i j)) := ⟨_, rfl⟩
        rw [nI_clamp (n := stQ Q i j) (by omega), ← hV6, nI_1]
        have f6 : mAv (fun a => a = 11) V V6 := by rw [hV6]; exact mAv.rf.I rfl
        have r6 : rfR Ln0 V Ln0 V6 := ⟨mAv.tr mAv.rf f6 (fun a z => by unfold wRf; omega), mAl.rf, fun i' hi' jj _ _ _ _ _ => by rw [(f6.1 (256 + 8 * i') (by omega)).1]⟩
        have Q6 := (hR.tr r6).Q hQ0
        have e3 : V6.fI (256 + 8 * stQ Q i j) 3 = Ql (Q (stQ Q i j)) := (Q6.2.2.1 _ si).1.2.2.2.1
        have fe : ∀ e, e ≠ 11 → V6.fI e = V.fI e := fun e he => (f6.1 e he).1
        refine ih0 (i + 1) V6 (by omega) (by omega) (hR.tr r6) (fun x hx h9 => ?_) (fun x hx => ?_) (fun x hx h0 => ?_) (fun x hx => ?_) _ (fun hi => ?_) (fun hi => ?_)
        · rw [fe _ (by omega)] at h9 ⊢
          obtain ⟨y1, y2, y3, y4⟩ := hS x hx h9
          exact ⟨y1, y2, y3, y4.mv f6 (by omega) (by omega)⟩
        · obtain ⟨xs, hxs⟩ := hW x hx
          exact ⟨xs, hxs.mv f6 (by omega) (by omega)⟩
        · have := hf x hx h0
          unfold frs at this ⊢
          rw [fe _ (by omega)]
          exact this
        · rw [hV6, mI_at (nI_clamp (n := i) (by omega))]
          by_cases e : x = i
          · rw [if_pos e, e]
          · rw [if_neg e]
            exact h11 x (by omega)
        · rw [e3]
          obtain ⟨l, e, _, _⟩ : ∃ l, Ql (Q (stQ Q i j)) = nI l ∧ l < n ∧ True := by
            have := (st i c).2
            obtain ⟨x, hx⟩ : ∃ x, t - i = x + 1 := ⟨t - i - 1, by omega⟩
            rw [hx] at this
            obtain ⟨l, e, l1, _⟩ := this
            exact ⟨l, e, l1, trivial⟩
          show _ = nI ((Ql (Q (stQ Q i j))).toNatClampNeg)
          rw [e, nI_clamp (by omega)]
        · rw [e3]
          have := (st i c).2
          rw [show t - i = 0 by omega] at this
          exact this
      · rw [if_pos (ha2 (by omega))]
        exact mTo.lt (down.resolve_right c)
    · rw [mX11_refreshed_go, if_neg (by decide), if_pos rfl]
      unfold mX11_refreshed_b1
      cases i with
      | zero =>
        have neg : nI 0 - 1 < 0 := by decide
        rw [if_pos neg]
        exact mTo.ret ⟨rfl, hR, hS, hW, hp 0 (Nat.zero_le _) (Nat.zero_le _), hf⟩
      | succ i =>
        rw [nI_pred]
        have si := st i (by omega)
        obtain ⟨g, hg⟩ : ∃ g, g = stQ Q i j := ⟨_, rfl⟩
        rw [← hg] at si
        obtain ⟨gn, ge⟩ := si
        have QV := hR.Q hQ0
        obtain ⟨qa, qb, qc⟩ := QV.2.2.1 g gn
        rw [if_neg (nI_nn (by omega))]
        refine mTo.ix rfl (by omega) (by omega) ?_
        rw [nI_clamp (n := i) (by omega), h11 i (by omega), ← hg]
        refine mTo.ix rfl (by omega) (by omega) (mTo.lt ?_)
        rw [nI_clamp (n := g) (by omega), qa.2.2.1]
        obtain ⟨V1, hV1⟩ : ∃ V1, V1 = mF V (256 + 8 * g) 8 (Qb (Q g)) := ⟨_, rfl⟩
        rw [← hV1]
        have Q1 : bQ V1 n Q := by rw [hV1]; exact (rfR.set (Ln := Ln) (by omega)).Q QV
        obtain ⟨q1a, _, _⟩ := Q1.2.2.1 g gn
        rw [q1a.2.2.2.1]
        have fin : ∀ V2 : mV, rfR Ln V Ln V2 → bS Ln V2 n Q → bW Ln V2 → V2.fI (256 + 8 * g) 8 = bnd Q g → (∀ x, x < n → x ≠ g → frs V Q x → frs V2 Q x) → V2.rI 11 = V.rI 11 → mTo (if V2.fI (256 + 8 * g) 9 = 0 then (mBA (mX4_solve F Ln (256 + 8 * g) V2) fun _ L19 V19 => mX11_refreshed_go F k 1 L19 (256 + 8 * j) 0 0 (nI i + (-1 : Int32)) V19) else (if V2.fI (256 + 8 * g) 10 = V2.fI (256 + 8 * g) 8 then mX11_refreshed_go F k 1 Ln (256 + 8 * j) 0 0 (nI i + (-1 : Int32)) V2 else (mBA (mX4_solve F Ln (256 + 8 * g) V2) fun _ L27 V27 => mX11_refreshed_go F k 1 L27 (256 + 8 * j) 0 0 (nI i + (-1 : Int32)) V27))) (fun p => p.1 = .inr (256 + 8 * j) ∧ rfR Ln0 V0 p.2.1 p.2.2 ∧ bS p.2.1 p.2.2 n Q ∧ bW p.2.1 p.2.2 ∧ frs p.2.2 Q j ∧ ∀ x, x < n → frs V0 Q x → frs p.2.2 Q x) := fun V2 r2 s2 w2 e8 o2 a2 => by
          refine T_solveIf (K := fun L V => mX11_refreshed_go F k 1 L (256 + 8 * j) 0 0 (nI i + (-1 : Int32)) V) hF gn ((hR.tr r2).Q hQ0) s2 w2 e8 (fun L3 V3 r3 s3 w3 f3 o3 a3 => ?_)
          rw [nI_m1']
          refine ih1 i L3 V3 (by omega) (by omega) ((hR.tr r2).tr r3) s3 w3 (fun x hx h0 => ?_) (fun x hx => by rw [a3, a2]; exact h11 x hx) (fun x h1 h2 => ?_)
          · by_cases e : x = g
            · rw [e]; exact f3
            · exact o3 x hx e (o2 x hx e (hf x hx h0))
          · by_cases e : stQ Q x j = g
            · rw [e]; exact f3
            · exact o3 _ (st x h2).1 e (o2 _ (st x h2).1 e (hp x (by
                apply Classical.byContradiction
                intro c
                exact e (by rw [show x = i by omega, hg])) h2))
        have o1 : ∀ x, x < n → x ≠ g → frs V Q x → frs V1 Q x := fun x hx ne h => by
          rw [hV1]
          exact frs_set h (fun e => absurd e ne)
        have s1 : bS Ln V1 n Q := by rw [hV1]; exact bS_set (by omega) n12 hS
        have w1 : bW Ln V1 := by rw [hV1]; exact bW_set hW (by omega)
        refine mTo.ite (fun hneg => ?_) (fun hneg => ?_)
        · exact fin V1 (by rw [hV1]; exact rfR.set (by omega)) s1 w1 (by rw [hV1, mF_at, bnd_end hneg]) o1 (by rw [hV1]; rfl)
        · -- it leans
          obtain ⟨y, hy⟩ : ∃ y, t - i = y + 1 := by
            cases e : t - i with
            | zero =>
              rw [e] at ge
              exact absurd ge hneg
            | succ y => exact ⟨y, rfl⟩
          rw [hy] at ge
          obtain ⟨l, e, l1, ge'⟩ := id ge
          have sl : stQ Q (i + 1) j = l := by
            show (Ql (Q (stQ Q i j))).toNatClampNeg = l
            rw [← hg, e, nI_clamp (by omega)]
          have fl := hp (i + 1) (Nat.le_refl _) (by omega)
          rw [sl] at fl
          have lg : l ≠ g := fun c => by
            rw [c] at ge'
            have := end_u n12 _ _ _ ge' ge
            omega
          rw [e]
          refine mTo.ix rfl (by omega) (by omega) (mTo.lt ?_)
          rw [nI_clamp (n := l) (by omega), q1a.1, q1a.2.2.2.2.1]
          have k12 := qb.1
          refine mTo.ix rfl k12 (by omega) ?_
          rw [nI_clamp (n := Qk (Q g)) (by omega)]
          refine mTo.ic rfl k12 (by omega) (mTo.lt ?_)
          have el : V1.fI (256 + 8 * l) 12 = aTo (Q l) (bnd Q l) := by
            have h := (hS l l1 fl.2.1).2.2.1
            rw [fl.2.2] at h
            rw [hV1, mF_no (Or.inl (by omega))]
            exact h
          rw [el]
          have ec : (if wkTab 2 (Qk (Q g)) < (if aTo (Q l) (bnd Q l) + Qp (Q g) < wkTab 3 (Qk (Q g)) then aTo (Q l) (bnd Q l) + Qp (Q g) else wkTab 3 (Qk (Q g))) then (if aTo (Q l) (bnd Q l) + Qp (Q g) < wkTab 3 (Qk (Q g)) then aTo (Q l) (bnd Q l) + Qp (Q g) else wkTab 3 (Qk (Q g))) else wkTab 2 (Qk (Q g))) = bnd Q g := by
            rw [bnd_on n12 gn ge e l1]
            rfl
          rw [ec]
          refine fin (mF V1 (256 + 8 * g) 8 (bnd Q g)) ?_ (bS_set (by omega) n12 s1) (bW_set w1 (by omega)) mF_at (fun x hx ne h => frs_set (o1 x hx ne h) (fun c => absurd c ne)) ?_
          · exact rfR.tr (by rw [hV1]; exact rfR.set (by omega)) (rfR.set (by omega))
          · show V1.rI 11 = V.rI 11
            rw [hV1]
            rfl
/-- what is known of a book while it is looked at -/
def bkIn (Ln : Nat → Nat) (V : mV) (n : Nat) (Q : Nat → qT) : Prop := bQ V n Q ∧ bS Ln V n Q ∧ bW Ln V
theorem T_entryAt {F n j : Nat} {Ln : Nat → Nat} {V : mV} (h : V.fI 0 2 = nI n) (hn : n ≤ 12) (hj : j < n) : mX11_entryAt F Ln (nI j) V = some (.inr (256 + 8 * j), Ln, V) := by
  unfold mX11_entryAt
  rw [if_neg (nI_nn (by omega)), h, if_pos (i32lt.mpr (by rw [nI_toInt (by omega), nI_toInt (by omega)]; omega)), nI_clamp (by omega), if_neg (fun c => c.elim (nI_nn (by omega)) (by omega))]
theorem T_refreshed {F n j : Nat} {Q : Nat → qT} {Ln : Nat → Nat} {V : mV} (hF : 2 ^ 34 ≤ F) (hI : bkIn Ln V n Q) (hj : j < n) : mTo (mX11_refreshed F Ln (nI j) V) (fun p => p.1 = .inr (256 + 8 * j) ∧ rfR Ln V p.2.1 p.2.2 ∧ bkIn p.2.1 p.2.2 n Q ∧ frs p.2.2 Q j ∧ ∀ x, x < n → frs V Q x → frs p.2.2 Q x) := by
  obtain ⟨hQ, hS, hW⟩ := hI
  obtain ⟨q1, q2, q3, q4⟩ := id hQ
  obtain ⟨t, ht⟩ := q4 j hj
  have t12 := end_lt q2 hj ht
  unfold mX11_refreshed mX11_refreshed_s
  refine mTo.B (Q := fun r => r = (.inr (256 + 8 * j), Ln, V)) ⟨_, T_entryAt q1 q2 hj, rfl⟩ (fun a L V' _ q => ?_) (fun e L V' _ q => ?_)
  · obtain ⟨qa, qb⟩ := Prod.mk.inj q
    obtain ⟨qb, qc⟩ := Prod.mk.inj qb
    have qa := Sum.inr.inj qa
    subst qa
    subst qb
    subst qc
    exact ((T_rf_go hF hQ hj ht F).1 0 V' (by omega) (Nat.zero_le _) rfR.rf hS hW (fun _ _ h => h) (fun x hx => absurd hx (Nat.not_lt_zero x)) (nI j) (fun _ => rfl) (fun c => by omega)).mono (fun p hp => ⟨hp.1, hp.2.1, ⟨hp.2.1.Q hQ, hp.2.2.1, hp.2.2.2.1⟩, hp.2.2.2.2.1, hp.2.2.2.2.2⟩)
  · exact absurd (Prod.mk.inj q).1 (by intro c; cases c)
end
