/-! THE BOOK: items are put, told anew, dropped. -/
section
theorem undS.mv {V V1 : mV} {j : Nat} {q : qT} {w : Nat → Prop} (h : undS V j q) (a : mAv w V V1) (w0 : ¬ w 0) (w14 : ¬ w 14) (w15 : ¬ w 15) (ws : ∀ i, 352 ≤ i → i < 544 → ¬ w i) : undS V1 j q := by
  obtain ⟨fc, cc, l, c1, c2, c3, c4, c5, l1, l2, l3, l4, c6, c7⟩ := h
  have f0 := (a.1 0 w0).1
  have sl : (fc + cc) % 24 < 24 := Nat.mod_lt _ (by decide)
  obtain ⟨sn, hsn⟩ : ∃ sn, sn = (fc + cc) % 24 := ⟨_, rfl⟩
  rw [← hsn] at sl c7
  refine ⟨fc, cc, l, c1, c2, by rw [f0, c3], by rw [f0, c4], by rw [(a.1 14 w14).2.2.1]; exact c5, l1, l2, l3, l4, by rw [(a.1 15 w15).2.2.1]; exact c6, ?_⟩
  rw [← hsn]
  exact c7.mv (fun i _ => by rw [(a.1 _ (ws _ (by omega) (by omega))).1]) (a.1 _ (ws _ (by omega) (by omega))).2.2.1
theorem most_tab : ∀ k, k < 10 → wkTab 4 k = nI ([16, 10, 11, 12, 12, 2, 0, 1, 5, 6].getD k 0) := by decide
theorem T_most {F e : Nat} {q : qT} {V : mV} (hq : isQn V e q) (hk : Qk q < 12) : mX11_mostItems F e V = some (nI (mostN (Qk q) (Qs q))) := by
  unfold mX11_mostItems
  rw [hq.1, hq.2.1]
  unfold mostN
  by_cases h10 : Qk q = 10
  · rw [h10, if_pos (by decide), if_pos (Or.inl rfl)]
  · rw [if_neg (show ¬ nI (Qk q) = (10 : Int32) from fun c => h10 ((nI_eq (b := 10) (by omega) (by omega)).mp c))]
    by_cases h11 : Qk q = 11
    · rw [h11, if_pos (by decide), if_pos (Or.inr rfl)]
    · rw [if_neg (show ¬ nI (Qk q) = (11 : Int32) from fun c => h11 ((nI_eq (b := 11) (by omega) (by omega)).mp c)), if_neg (show ¬ (Qk q = 10 ∨ Qk q = 11) from fun c => c.elim h10 h11), if_neg (show ¬ (nI (Qk q) < 0 ∨ 12 ≤ (nI (Qk q)).toNatClampNeg) from fun c => c.elim (nI_nn (by omega)) (by rw [nI_clamp (by omega)]; omega)), nI_clamp (by omega), most_tab _ (by omega)]
theorem s4_of {q : qT} (h : okIt q) : Qk q = 3 ∨ Qk q = 5 → Qs q ≤ 4 := fun z => by
  have := h.2.2.1
  rcases z with e | e <;> rw [e] at this <;> exact this
def addD (q : qT) (i : Nat) (x : Nat → Int32) (y : Nat) : Int32 := if 5 * i ≤ y ∧ y < 5 * i + 5 then x (y - 5 * i) else Qd q y
theorem addD_at {q : qT} {i j : Nat} {x : Nat → Int32} (h : j < 5) : addD q i x (5 * i + j) = x j := by
  unfold addD
  rw [if_pos ⟨by omega, by omega⟩, Nat.add_sub_cancel_left]
theorem addD_no {q : qT} {i o j : Nat} {x : Nat → Int32} (h : j < 5) (ne : o ≠ i) : addD q i x (5 * o + j) = Qd q (5 * o + j) := if_neg (by omega)
theorem ok_add {q : qT} {i m : Nat} {x : Nat → Int32} (ho : okIt q) (hx : itNew q i x) (hi : i ≤ Qm q) (hm : m = Qm q ∧ i < Qm q ∨ m = Qm q + 1 ∧ i = Qm q) (hmost : m ≤ mostN (Qk q) (Qs q)) : okIt (qIt q m (addD q i x)) := by
  obtain ⟨k12, s0, s1, m1, its, dst⟩ := id ho
  refine ⟨k12, s0, s1, hmost, fun o hom => ?_, fun hk a b ha hb e => ?_⟩
  · by_cases eo : o = i
    · rw [eo]
      exact (itK_c (fun j hj => (addD_at hj).symm) ho.s9 (s4_of ho)).mp hx.1
    · have hom : o < m := hom
      exact (itK_c (fun j hj => (addD_no hj eo).symm) ho.s9 (s4_of ho)).mp (its o (by omega))
  · have ca : ∀ o, o ≠ i → cA (addD q i x) o = cA (Qd q) o ∧ cB (addD q i x) o = cB (Qd q) o := fun o ne => by
      unfold cA cB
      rw [show addD q i x (5 * o) = Qd q (5 * o) from addD_no (j := 0) (by decide) ne, addD_no (j := 1) (by decide) ne]
      exact ⟨rfl, rfl⟩
    have ci : cA (addD q i x) i = (x 0).toNatClampNeg ∧ cB (addD q i x) i = (x 1).toNatClampNeg := by
      unfold cA cB
      rw [show addD q i x (5 * i) = x 0 from addD_at (j := 0) (by decide), addD_at (j := 1) (by decide)]
      exact ⟨rfl, rfl⟩
    have e : cA (addD q i x) a = cA (addD q i x) b ∧ cB (addD q i x) a = cB (addD q i x) b ∨ cA (addD q i x) a = cB (addD q i x) b ∧ cB (addD q i x) a = cA (addD q i x) b := e
    have ha : a < m := ha
    have hb : b < m := hb
    by_cases ea : a = i
    · by_cases eb : b = i
      · rw [ea, eb]
      · exfalso
        rw [ea, ci.1, ci.2, (ca b eb).1, (ca b eb).2] at e
        refine hx.2 hk b (by omega) eb ?_
        rcases e with ⟨e1, e2⟩ | ⟨e1, e2⟩
        · exact Or.inl ⟨e1.symm, e2.symm⟩
        · exact Or.inr ⟨e2.symm, e1.symm⟩
    · by_cases eb : b = i
      · exfalso
        rw [eb, ci.1, ci.2, (ca a ea).1, (ca a ea).2] at e
        refine hx.2 hk a (by omega) ea ?_
        rcases e with ⟨e1, e2⟩ | ⟨e1, e2⟩
        · exact Or.inl ⟨e1, e2⟩
        · exact Or.inr ⟨e1, e2⟩
      · rw [(ca a ea).1, (ca a ea).2, (ca b eb).1, (ca b eb).2] at e
        exact dst hk a b (by omega) (by omega) e
theorem T_setItem {F e i : Nat} {V : mV} (hi : i ≤ 15) : mX3_setItem F e (nI i) 12 V = some ((), mRI V (e + 1) (va_cpy (V.rI 12) (V.rI (e + 1)) 0 (5 * i) 5)) := by
  have main : mTo (mX3_setItem F e (nI i) 12 V) (fun p => p = ((), mRI V (e + 1) (va_cpy (V.rI 12) (V.rI (e + 1)) 0 (5 * i) 5))) := by
    unfold mX3_setItem
    rw [if_neg (nI_nn (by omega)), nI_1, show (5 : Int32) = nI 5 from rfl, nI_mulC, nI_mulC, show i * 5 = 5 * i by omega]
    refine mTo.ltI (a := 80) rfl rfl (by decide) (by omega) (fun z => by omega) (fun _ => mTo.gd (by decide) (mTo.gd (nI_nn (by omega)) (mTo.gd (by decide) (mTo.gd (by decide) (mTo.gd ?_ (mTo.lt (mTo.ret ?_)))))))
    · rw [nI_clamp (n := 5 * i) (by omega)]
      exact fun c => c (by show 5 * i + 5 ≤ 80; omega)
    · rw [nI_clamp (n := 5 * i) (by omega)]
      rfl
  obtain ⟨p, e1, e2⟩ := main
  rw [e1, e2]
theorem nw_five {x : Nat → Int32} {V : mV} {a b c d e : Int32} (hx : x = five a b c d e) (h : V.rI 12 0 = a ∧ V.rI 12 1 = b ∧ V.rI 12 2 = c ∧ V.rI 12 3 = d ∧ V.rI 12 4 = e) : ∀ j, j < 5 → V.rI 12 j = x j := fun j hj => by
  obtain ⟨h0, h1, h2, h3, h4⟩ := h
  rw [hx]
  rcases (show j = 0 ∨ j = 1 ∨ j = 2 ∨ j = 3 ∨ j = 4 by omega) with z | z | z | z | z <;> subst z
  · exact h0
  · exact h1
  · exact h2
  · exact h3
  · exact h4
theorem itNew_c {q : qT} {i : Nat} {x y : Nat → Int32} (ho : okIt q) (h : ∀ j, j < 5 → x j = y j) : itNew q i x ↔ itNew q i y := by
  unfold itNew newE
  rw [itK_c h ho.s9 (s4_of ho), h 0 (by decide), h 1 (by decide)]
/-- the cells that a change of items touches -/
def wCh (j i : Nat) : Prop := i = 0 ∨ i = 12 ∨ (14 ≤ i ∧ i ≤ 15) ∨ (352 ≤ i ∧ i ≤ 537) ∨ i = 256 + 8 * j ∨ i = 256 + 8 * j + 1
theorem bST.ch {Ln : Nat → Nat} {V V1 : mV} {n j : Nat} {Q : Nat → qT} {q : qT} (h : bST Ln V n Q) (hj : j < n) (a : mAv (wCh j) V V1) (f0 : ∀ i, i ≠ 9 → i ≠ 10 → V1.fI 0 i = V.fI 0 i) (hc : chS V1) (hq : isQn V1 (256 + 8 * j) q) (ho : okIt q) (hb : bndQ (Qk q) (Qb q)) (h9 : V1.fI (256 + 8 * j) 9 = 0) (hac : acyc (va_up Q j q) n) (hor : Qo q < 0 ∨ ∃ o, o < n ∧ Qo q = nI o) : bST Ln V1 n (va_up Q j q) := by
  have n12 := h.1.1.2.1
  exact h.upd hj a (mAl.rf (w := wCh j)) f0 hc (by unfold wCh; omega) (by unfold wCh; omega) ⟨by unfold wCh; omega, by unfold wCh; omega⟩ (fun z hz => by unfold wCh; omega) (fun i h1 h2 h3 h4 => by unfold wCh; omega) hq ho hb h9 hac hor
theorem bST.told {Ln : Nat → Nat} {V V1 : mV} {n : Nat} {Q : Nat → qT} (h : bST Ln V n Q) (a : mAv wX11_tellNumbers V V1) : bST Ln V1 n Q := by
  refine ⟨(h.1.fr a (mAl.rf (w := wX11_tellNumbers)) (by rw [(a.1 0 (by unfold wX11_tellNumbers; omega)).1]) (fun i h1 h2 h3 => by unfold wX11_tellNumbers; omega)).1, h.2.1.fr a (mAl.rf (w := wX11_tellNumbers)) (by unfold wX11_tellNumbers; omega) (by unfold wX11_tellNumbers; omega) (by unfold wX11_tellNumbers; omega) ⟨by unfold wX11_tellNumbers; omega, by unfold wX11_tellNumbers; omega⟩ (fun j hj => ⟨by unfold wX11_tellNumbers; omega, by unfold wX11_tellNumbers; omega⟩) (fun z hz => by unfold wX11_tellNumbers; omega), h.2.2⟩
theorem T_inl {α δ : Type} {o : Option (mO α)} {y : String} {Ln : Nat → Nat} {V : mV} {f : α → (Nat → Nat) → mV → Option δ} {g : String → (Nat → Nat) → mV → Option δ} {R : δ → Prop} (e : o = some (.inl y, Ln, V)) (k : mTo (g y Ln V) R) : mTo (mBT o f g) R := by
  rw [e]
  exact k
theorem T_iW {α β γ : Type} {o : Option (α × β)} {a : α} {b : β} {f : α → β → Option γ} {R : γ → Prop} (e : o = some (a, b)) (k : mTo (f a b) R) : mTo (mBW o f) R := by
  rw [e]
  exact k
theorem T_iN {α β : Type} {o : Option α} {a : α} {f : α → Option β} {R : β → Prop} (e : o = some a) (k : mTo (f a) R) : mTo (mBN o f) R := by
  rw [e]
  exact k
theorem T_putI {F n j : Nat} {Q : Nat → qT} {Ln : Nat → Nat} {V : mV} {a b c d e : Int32} {x : Nat → Int32} (hF : 2 ^ 34 ≤ F) (hI : bST Ln V n Q) (hj : j < n) (hT : Ln 3000 < 5000) (hx : x = five a b c d e) : mTo (mX11_put F Ln (nI j) a b c d e V) (fun p => (itNew (Q j) (Qm (Q j)) x ∧ Qm (Q j) < mostN (Qk (Q j)) (Qs (Q j)) ∧ p.1 = .inr (nI (Qm (Q j) + 1)) ∧ bST p.2.1 p.2.2 n (va_up Q j (qIt (Q j) (Qm (Q j) + 1) (addD (Q j) (Qm (Q j)) x))) ∧ undS p.2.2 j (Q j) ∧ p.2.1 = Ln) ∨ (¬ (itNew (Q j) (Qm (Q j)) x ∧ Qm (Q j) < mostN (Qk (Q j)) (Qs (Q j))) ∧ (p.1 = .inl "java/lang/IllegalArgumentException" ∨ p.1 = .inl "java/lang/UnsupportedOperationException" ∨ p.1 = .inl "java/lang/IllegalStateException") ∧ bAt Ln 1 n Q p.2.1 p.2.2)) := by
  obtain ⟨⟨⟨q1, q2, q3, q4⟩, hS, hW⟩, hX, hO⟩ := id hI
  obtain ⟨qa, qb, qc⟩ := q3 j hj
  have m16 := qb.m16
  have k12 := qb.1
  unfold mX11_put
  refine T_inr (T_entryAt q1 q2 hj) ?_
  obtain ⟨V1, e1, t1, f1⟩ := T_tellN (F := F) (a := a) (b := b) (c := c) (d := d) (e := e) (V := V)
  refine T_iW e1 ?_
  have I1 := hI.told f1
  obtain ⟨qa1, _, _⟩ := I1.1.1.2.2.1 j hj
  have nn := itNew_c (i := Qm (Q j)) qb (nw_five hx t1)
  obtain ⟨p, e2, h2⟩ := T_testItem (F := F) (e := 256 + 8 * j) (i := Qm (Q j)) (Ln := Ln) (by omega) qa1 qb (by omega) hT
  rw [nn] at h2
  show mTo (mBT (mX11_testItem F Ln (256 + 8 * j) (V1.fI (256 + 8 * j) 6) V1) _ _) _
  rw [qa1.2.2.2.2.2.2.1]
  rcases h2 with ⟨ok, hp⟩ | ⟨bad, y, hy, hp⟩
  · refine T_inr (a := ()) (Ln := Ln) (V := V1) (by rw [e2, hp]) ?_
    refine T_iN (T_most qa1 k12) ?_
    show mTo (if V1.fI (256 + 8 * j) 6 < nI (mostN (Qk (Q j)) (Qs (Q j))) then _ else _) _
    have most16 := mostN_16 _ k12 _ qb.2.2.1
    rw [qa1.2.2.2.2.2.2.1]
    by_cases lt : Qm (Q j) < mostN (Qk (Q j)) (Qs (Q j))
    · rw [if_pos (i32lt.mpr (by rw [nI_toInt (by omega), nI_toInt (by omega)]; omega))]
      obtain ⟨p3, e3, r1, r2, r3, r4⟩ := T_remember (F := F) (j := j) (l := 112) (by omega) I1.2.1.2.2.1 (by omega) (by decide) qa1 m16
      obtain ⟨u3, V3⟩ := p3
      have r1 := r1 (by decide) (by decide) (by decide)
      have r1 : undS V3 j (Q j) := r1
      have r2 : chS V3 := r2
      have r3 : ∀ i, i ≠ 9 → i ≠ 10 → V3.fI 0 i = V1.fI 0 i := r3
      have r4 : mAv wX11_remember V1 V3 := r4
      refine T_iW e3 ?_
      have fe : V3.fI (256 + 8 * j) = V1.fI (256 + 8 * j) := (r4.1 _ (by unfold wX11_remember; omega)).1
      have re : V3.rI (256 + 8 * j + 1) = V1.rI (256 + 8 * j + 1) := (r4.1 _ (by unfold wX11_remember; omega)).2.2.1
      have r12 : V3.rI 12 = V1.rI 12 := (r4.1 _ (by unfold wX11_remember; omega)).2.2.1
      refine T_iW (by rw [fe, qa1.2.2.2.2.2.2.1, T_setItem (show Qm (Q j) ≤ 15 by omega)]) ?_
      refine mTo.ret (Or.inl ⟨ok, lt, ?_, ?_, ?_, rfl⟩)
      · show Sum.inr ((mF (mF (mRI V3 _ _) (256 + 8 * j) 6 _) (256 + 8 * j) 9 0).fI (256 + 8 * j) 6) = _
        rw [mF_no (Or.inr (by decide)), mF_at]
        show Sum.inr (V3.fI (256 + 8 * j) 6 + 1) = _
        rw [fe, qa1.2.2.2.2.2.2.1, nI_1]
      · refine hI.ch hj ?_ (fun i i9 i10 => ?_) ?_ ?_ (ok_add qb ok (Nat.le_refl _) (Or.inr ⟨rfl, rfl⟩) lt) qc mF_at (acyc_it q4 rfl) (hO j hj)
        · refine mAv.F (mAv.F (mAv.RI (mAv.tr (mAv.tr mAv.rf f1 (fun i z => ?_)) r4 (fun i z => ?_)) ?_) ?_) ?_
          · unfold wX11_tellNumbers at z; unfold wCh; omega
          · unfold wX11_remember at z; unfold wCh; omega
          · unfold wCh; omega
          · unfold wCh; omega
          · unfold wCh; omega
        · rw [mF_no (Or.inl (by omega)), mF_no (Or.inl (by omega))]
          show V3.fI 0 i = _
          rw [r3 i i9 i10, (f1.1 0 (by unfold wX11_tellNumbers; omega)).1]
        · obtain ⟨fc, cc, c1, c2, c3, c4⟩ := r2
          exact ⟨fc, cc, c1, c2, by rw [mF_no (Or.inl (by omega)), mF_no (Or.inl (by omega))]; exact c3, by rw [mF_no (Or.inl (by omega)), mF_no (Or.inl (by omega))]; exact c4⟩
        · obtain ⟨a0, a1, a2, a3, a4, a5, a6, a7, a8⟩ := qa1
          have fx : ∀ i, i ≠ 6 → i ≠ 9 → (mF (mF (mRI V3 (256 + 8 * j + 1) (va_cpy (V3.rI 12) (V3.rI (256 + 8 * j + 1)) 0 (5 * Qm (Q j)) 5)) (256 + 8 * j) 6 (nI (Qm (Q j)) + 1)) (256 + 8 * j) 9 0).fI (256 + 8 * j) i = V1.fI (256 + 8 * j) i := fun i h6 h9 => by
            rw [mF_no (Or.inr h9), mF_no (Or.inr h6)]
            show V3.fI (256 + 8 * j) i = _
            rw [fe]
          have ev : (mRI V3 (256 + 8 * j + 1) (va_cpy (V3.rI 12) (V3.rI (256 + 8 * j + 1)) 0 (5 * Qm (Q j)) 5)).fI (256 + 8 * j) 6 = nI (Qm (Q j)) := by
            show V3.fI (256 + 8 * j) 6 = _
            rw [fe, a6]
          show isQn (mF (mF (mRI V3 (256 + 8 * j + 1) (va_cpy (V3.rI 12) (V3.rI (256 + 8 * j + 1)) 0 (5 * Qm (Q j)) 5)) (256 + 8 * j) 6 ((mRI V3 (256 + 8 * j + 1) (va_cpy (V3.rI 12) (V3.rI (256 + 8 * j + 1)) 0 (5 * Qm (Q j)) 5)).fI (256 + 8 * j) 6 + 1)) (256 + 8 * j) 9 0) (256 + 8 * j) _
          rw [ev]
          refine ⟨by rw [fx 0 (by decide) (by decide), a0]; rfl, by rw [fx 1 (by decide) (by decide), a1]; rfl, by rw [fx 2 (by decide) (by decide), a2]; rfl, by rw [fx 3 (by decide) (by decide), a3]; rfl, by rw [fx 4 (by decide) (by decide), a4]; rfl, by rw [fx 5 (by decide) (by decide), a5]; rfl, ?_, fun y hy => ?_, fun y hy => ?_⟩
          · rw [mF_no (Or.inr (by decide)), mF_at, nI_1]
            rfl
          · show va_up V3.rI (256 + 8 * j + 1) _ (256 + 8 * j + 1) y = addD (Q j) (Qm (Q j)) x y
            have hy : y < 5 * (Qm (Q j) + 1) := hy
            rw [mUp_eq]
            unfold va_cpy addD
            by_cases cy : 5 * Qm (Q j) ≤ y ∧ y < 5 * Qm (Q j) + 5
            · rw [if_pos cy, if_pos cy, Nat.zero_add, r12]
              exact nw_five hx t1 _ (by omega)
            · rw [if_neg cy, if_neg cy, re]
              exact a7 y (by omega)
          · have hy : 5 * (Qm (Q j) + 1) ≤ y := hy
            show addD (Q j) (Qm (Q j)) x y = 0
            unfold addD
            rw [if_neg (by omega)]
            exact a8 y (by omega)
      · refine r1.mv (w := fun i => i = 256 + 8 * j ∨ i = 256 + 8 * j + 1) (mAv.F (mAv.F (mAv.RI mAv.rf (Or.inr rfl)) (Or.inl rfl)) (Or.inl rfl)) (by omega) (by omega) (by omega) (fun i _ _ => by omega)
    · rw [if_neg (fun y => lt (by
        have := i32lt.mp y
        rw [nI_toInt (by omega), nI_toInt (by omega)] at this
        omega))]
      refine mTo.th hT (Or.inr ⟨fun c => lt c.2, Or.inr (Or.inr rfl), I1.th, by show va_up Ln 3000 (Ln 3000 + 1) 3000 ≤ _; rw [up_3000]; exact Nat.le_refl _, up_3001 (Ln := Ln) (x := Ln 3000 + 1)⟩)
  · refine T_inl (y := y) (Ln := va_up Ln 3000 (Ln 3000 + 1)) (V := V1) (by rw [e2, hp]) ?_
    refine mTo.ret (Or.inr ⟨fun c => bad c.1, ?_, I1.th, by show va_up Ln 3000 (Ln 3000 + 1) 3000 ≤ _; rw [up_3000]; exact Nat.le_refl _, up_3001 (Ln := Ln) (x := Ln 3000 + 1)⟩)
    rcases hy with ey | ey
    · rw [ey]; exact Or.inl rfl
    · rw [ey]; exact Or.inr (Or.inl rfl)
theorem T_put {G : wkG} {F n j : Nat} {Q : Nat → qT} {Ln : Nat → Nat} {V : mV} {a b c d e : Int32} {x : Nat → Int32} (hF : 2 ^ 34 ≤ F) (hI : bST Ln V n Q) (hj : j < n) (hT : Ln 3000 < 5000) (hx : x = five a b c d e) : mTo (mL_put G F Ln (nI j) a b c d e V) (fun p => (itNew (Q j) (Qm (Q j)) x ∧ Qm (Q j) < mostN (Qk (Q j)) (Qs (Q j)) ∧ p.1 = Int32.toInt64 (nI (Qm (Q j) + 1)) ∧ bST p.2.1 p.2.2 n (va_up Q j (qIt (Q j) (Qm (Q j) + 1) (addD (Q j) (Qm (Q j)) x))) ∧ undS p.2.2 j (Q j) ∧ p.2.1 = Ln) ∨ (¬ (itNew (Q j) (Qm (Q j)) x ∧ Qm (Q j) < mostN (Qk (Q j)) (Qs (Q j))) ∧ (p.1 = -4000000000000000002 ∨ p.1 = -4000000000000000003 ∨ p.1 = -4000000000000000004) ∧ bAt Ln 1 n Q p.2.1 p.2.2)) := by
  unfold mL_put
  refine mTo.B (T_putI hF hI hj hT hx) (fun r L V1 _ h => ?_) (fun y L V1 _ h => ?_)
  · rcases h with ⟨h1, h2, h3, h4, h5, h6⟩ | ⟨_, hh, _⟩
    · cases h3
      exact mTo.ret (Or.inl ⟨h1, h2, rfl, h4, h5, h6⟩)
    · rcases hh with hh | hh | hh <;> cases hh
  · rcases h with ⟨_, _, h3, _⟩ | ⟨h0, hh, h2⟩
    · cases h3
    · rcases hh with hh | hh | hh
      · cases hh
        rw [if_neg (by decide), if_pos rfl]
        exact mTo.ret (Or.inr ⟨h0, Or.inl rfl, h2⟩)
      · cases hh
        rw [if_neg (by decide), if_neg (by decide), if_pos rfl]
        exact mTo.ret (Or.inr ⟨h0, Or.inr (Or.inl rfl), h2⟩)
      · cases hh
        rw [if_neg (by decide), if_neg (by decide), if_neg (by decide), if_pos rfl]
        exact mTo.ret (Or.inr ⟨h0, Or.inr (Or.inr rfl), h2⟩)
end
