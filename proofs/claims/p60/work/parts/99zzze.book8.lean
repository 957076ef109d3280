/-! THE BOOK: items told, claims tried, the typed row. -/
section
theorem bX.ty {Ln Ln1 : Nat → Nat} {V V1 : mV} {n g : Nat} {w : Nat → Prop} (h : bX Ln V n g) (a : mAv w V V1) (b : mAl w Ln Ln1) (w0 : ¬ w 0) (w9 : ¬ w 9) (w17 : ¬ w 17) (ht : ∃ ts, rowIs Ln1 V1 2048 ts) (ws : ∀ j, j < 12 → ¬ w (256 + 8 * j + 4) ∧ ¬ w (256 + 8 * j + 5)) (wc : ∀ z, z < 64 → ¬ w (1024 + z)) : bX Ln1 V1 n g := by
  obtain ⟨_, h2, ⟨fc, cc, c1, c2, c3, c4⟩, ⟨c, d1, d2, d3, d4, d5⟩, ⟨p, p1, p2⟩, ⟨e, e1, e2⟩, k, k1, k2⟩ := h
  have f0 := (a.1 0 w0).1
  have cl := a.2 w17
  refine ⟨ht, fun j hj => ?_, ⟨fc, cc, c1, c2, by rw [f0, c3], by rw [f0, c4]⟩, ⟨c, by rw [f0, d1], d2, fun i hi => ?_, fun i j hij hj => by rw [cl]; exact d4 i j hij hj, fun i hi => ?_⟩, ⟨p, by rw [f0, p1], p2⟩, ⟨e, by rw [f0, e1], e2.1, by rw [b 9 w9]; exact e2.2⟩, k, k1, by rw [b 9 w9, k2]⟩
  · obtain ⟨ys, y1⟩ := h2 j hj
    exact ⟨ys, y1.mv2 a b (ws j hj).1 (ws j hj).2⟩
  · obtain ⟨⟨z, z1, z2⟩, xs, x1⟩ := d3 i hi
    rw [cl]
    refine ⟨⟨z, z1, z2⟩, xs, ?_⟩
    rw [z2] at x1 ⊢
    exact x1.mv2 a b (by have := wc (4 * z + 1) (by omega); rw [show 1024 + 4 * z + 1 = 1024 + (4 * z + 1) by omega]; exact this) (by have := wc (4 * z + 2) (by omega); rw [show 1024 + 4 * z + 1 + 1 = 1024 + (4 * z + 2) by omega]; exact this)
  · obtain ⟨⟨z, z1, z2⟩, _⟩ := d3 i (by omega)
    obtain ⟨⟨j, j1, j2⟩, j3⟩ := d5 i hi
    rw [cl]
    rw [z2] at j1 j3 ⊢
    have fz := (a.1 (1024 + 4 * z) (wc (4 * z) (by omega))).1
    rw [fz]
    exact ⟨⟨j, j1, j2⟩, j3⟩
/-- nothing of the entries is touched -/
theorem bkIn.fr {Ln Ln1 : Nat → Nat} {V V1 : mV} {n : Nat} {Q : Nat → qT} {w : Nat → Prop} (h : bkIn Ln V n Q) (a : mAv w V V1) (b : mAl w Ln Ln1) (w0 : V1.fI 0 2 = V.fI 0 2) (we : ∀ i, 256 ≤ i → i < 352 → i % 8 ≤ 3 → ¬ w i) : bkIn Ln1 V1 n Q ∧ ∀ x, x < n → frs V Q x → frs V1 Q x := by
  obtain ⟨⟨q1, q2, q3, q4⟩, hS, hW⟩ := h
  have fe : ∀ j, j < 12 → V1.fI (256 + 8 * j) = V.fI (256 + 8 * j) := fun j hj => (a.1 _ (we _ (by omega) (by omega) (by omega))).1
  refine ⟨⟨⟨by rw [w0]; exact q1, q2, fun j hj => ?_, q4⟩, fun j hj h9 => ?_, fun j hj => ?_⟩, fun x hx hf => ?_⟩
  · obtain ⟨a', b', c'⟩ := q3 j hj
    exact ⟨a'.mv (fun i _ => by rw [fe j (by omega)]) (a.1 _ (we _ (by omega) (by omega) (by omega))).2.2.1, b', c'⟩
  · rw [fe j (by omega)] at h9 ⊢
    obtain ⟨y1, y2, y3, y4⟩ := hS j hj h9
    exact ⟨y1, y2, y3, y4.mv2 a b (we _ (by omega) (by omega) (by omega)) (we _ (by omega) (by omega) (by omega))⟩
  · obtain ⟨xs, hx⟩ := hW j hj
    exact ⟨xs, hx.mv2 a b (we _ (by omega) (by omega) (by omega)) (we _ (by omega) (by omega) (by omega))⟩
  · have := q2
    unfold frs at hf ⊢
    rw [fe x (by omega)]
    exact hf
theorem lk_scr {Ln : Nat → Nat} {V V1 : mV} {n : Nat} {Q : Nat → qT} {w : Nat → Prop} (h : bkIn Ln V n Q) (a : mAv w V V1) (hw : ∀ i, w i → (2 ≤ i ∧ i ≤ 8) ∨ (19 ≤ i ∧ i ≤ 90)) : lkP Ln V n Q Ln V1 := by
  have nw : ∀ i, 91 ≤ i → ¬ w i := fun i hi z => by have := hw i z; omega
  have x := h.fr a (mAl.rf (w := w)) (by rw [(a.1 0 (fun z => by have := hw 0 z; omega)).1]) (fun i h1 _ _ => nw i (by omega))
  refine ⟨⟨mAv.tr mAv.rf a (fun i z => by have := hw i z; unfold wRf; omega), mAl.rf, fun i hi j _ _ _ _ _ => by rw [(a.1 _ (nw (256 + 8 * i) (by omega))).1]⟩, x.1, x.2⟩
theorem T_place {F i c : Nat} {Ln : Nat → Nat} {V : mV} (hi : i < c) (hc : c < 2 ^ 31) : mX11_testPlace F Ln (nI i) (nI c) V = some (.inr (), Ln, V) := by
  unfold mX11_testPlace
  rw [if_neg (nI_nn (by omega)), if_pos (i32lt.mpr (by rw [nI_toInt (by omega), nI_toInt hc]; omega))]
theorem T_inr {α δ : Type} {o : Option (mO α)} {a : α} {Ln : Nat → Nat} {V : mV} {f : α → (Nat → Nat) → mV → Option δ} {g : String → (Nat → Nat) → mV → Option δ} {R : δ → Prop} (e : o = some (.inr a, Ln, V)) (k : mTo (f a Ln V) R) : mTo (mBT o f g) R := by
  rw [e]
  exact k
theorem T_item1 {G : wkG} {F n j i k : Nat} {Q : Nat → qT} {Ln : Nat → Nat} {V : mV} (hQ : bQ V n Q) (hj : j < n) (hi : i < Qm (Q j)) (hk : k < 5) : mTo (mL_item G F Ln (nI j) (nI i) (nI k) V) (fun p => p = (Int32.toInt64 (Qd (Q j) (5 * i + k)), Ln, V)) := by
  obtain ⟨q1, q2, q3, _⟩ := hQ
  obtain ⟨a, b, c⟩ := q3 j hj
  have m16 := b.m16
  unfold mL_item
  refine (T_wr (P := fun v L V1 => v = Qd (Q j) (5 * i + k) ∧ L = Ln ∧ V1 = V) ?_).mono (fun p ⟨v, e, h1, h2, h3⟩ => by rw [← h1, ← h2, ← h3, ← e])
  unfold mX11_item
  refine T_enB q1 q2 hj ?_
  rw [a.2.2.2.2.2.2.1]
  refine T_inr (T_place hi (by omega)) (T_inr (a := ()) (Ln := Ln) (V := V) ?_ ?_)
  · unfold mX11_testRange
    have e0 : (0 : Int32).toInt = 0 := rfl
    have e4 : (4 : Int32).toInt = 4 := rfl
    rw [if_neg (fun c => by
      have := i32lt.mp c
      rw [nI_toInt (by omega)] at this
      omega), if_pos (i32le.mpr (by
      rw [nI_toInt (by omega)]
      omega))]
  · refine mTo.N (T_X3_at a.2.2.2.2.2.2.1 m16 (show i < 2 ^ 20 by omega) hk) (fun v _ hv => mTo.ret ⟨v, rfl, ?_, rfl, rfl⟩)
    rw [hv, if_pos hi, a.2.2.2.2.2.2.2.1 _ (by omega)]
theorem T_entries {G : wkG} {F n : Nat} {V : mV} (h : V.fI 0 2 = nI n) : mL_entries G F V = some (Int32.toInt64 (nI n)) := by
  unfold mL_entries mX11_entries
  rw [h]
  rfl
/-- a claim is tried on an entry that has been looked at -/
theorem T_judgeAt {F n j r : Nat} {Q : Nat → qT} {Ln : Nat → Nat} {V : mV} {ts : List Int32} {w : Int32} (hF : 2 ^ 34 ≤ F) (hI : bkIn Ln V n Q) (hj : j < n) (hf : frs V Q j) (hr : 256 ≤ r) (ht : rowIs Ln V r ts) : mTo (mX4_judge F Ln (256 + 8 * j) r w V) (fun p => 0 ≤ p.1.toInt ∧ (p.1 = 0 ↔ if w = 0 then aNo (Q j) (bnd Q j) ts else aYs (Q j) (bnd Q j) ts) ∧ lkP Ln V n Q Ln p.2 ∧ mAv (wX4_judge (256 + 8 * j) r) V p.2) := by
  obtain ⟨v1, v2, v3, v4, v5, v6⟩ := frs_val hI hj hf
  have n12 := hI.1.2.1
  obtain ⟨p, e1, q⟩ := v6.2.2.2.2.2.2 F (256 + 8 * j) r Ln V ts w hF (by omega) (by omega) hr v4.1 v5 ht
  have e1' : mX4_judge F Ln (256 + 8 * j) r w V = some (p.1, p.2) := e1
  have nn := J_judge p.1 p.2 e1'
  have fr := NX4_judge e1'
  exact ⟨p, e1, nn, q, lk_scr hI fr (fun i z => by unfold wX4_judge at z; omega), fr⟩
theorem T_check {G : wkG} {F n j : Nat} {Q : Nat → qT} {Ln : Nat → Nat} {V : mV} {ts : List Int32} {w : Int32} (hF : 2 ^ 34 ≤ F) (hI : bkIn Ln V n Q) (hj : j < n) (ht : rowIs Ln V 2048 ts) : mTo (mL_check G F Ln (nI j) w V) (fun p => (∃ v : Int32, p.1 = Int32.toInt64 v ∧ 0 ≤ v.toInt ∧ (v = 0 ↔ if w = 0 then aNo (Q j) (bnd Q j) ts else aYs (Q j) (bnd Q j) ts)) ∧ lkP Ln V n Q p.2.1 p.2.2 ∧ frs p.2.2 Q j ∧ rowIs p.2.1 p.2.2 2048 ts) := by
  unfold mL_check
  refine (T_wr (P := fun v L V1 => (0 ≤ v.toInt ∧ (v = 0 ↔ if w = 0 then aNo (Q j) (bnd Q j) ts else aYs (Q j) (bnd Q j) ts)) ∧ lkP Ln V n Q L V1 ∧ frs V1 Q j ∧ rowIs L V1 2048 ts) ?_).mono (fun p ⟨v, e, h1, h2⟩ => ⟨⟨v, e, h1⟩, h2⟩)
  unfold mX11_check
  refine T_rfB hF hI hj (fun L V1 r i f g => ?_)
  have t1 := r.row ht (by unfold wRf; omega) (by unfold wRf; omega)
  refine mTo.W (T_judgeAt (w := w) hF i hj f (by decide) t1) (fun v V2 _ q => mTo.ret ⟨v, rfl, ?_⟩)
  obtain ⟨k1, k2, k3, _⟩ := q
  exact ⟨⟨k1, k2⟩, lkP.tr (show lkP Ln V n Q L V1 from ⟨r, i, g⟩) k3, k3.2.2 j hj f, k3.1.row t1 (by unfold wRf; omega) (by unfold wRf; omega)⟩
/-- the sum over the book -/
noncomputable def csQ (Q : Nat → qT) : Nat → Int64
  | 0 => 7
  | i + 1 => 31 * (31 * (31 * (31 * csQ Q i + Int32.toInt64 (bnd Q i)) + Int32.toInt64 (aTo (Q i) (bnd Q i))) + Int32.toInt64 (aRp (Q i) (bnd Q i))) + rwSum (aRw (Q i) (bnd Q i))
theorem T_checksum {G : wkG} {F n : Nat} {Q : Nat → qT} {Ln : Nat → Nat} {V : mV} (hF : 2 ^ 34 ≤ F) (hI : bkIn Ln V n Q) : mTo (mL_checksum G F Ln V) (fun p => p.1 = csQ Q n ∧ lkP Ln V n Q p.2.1 p.2.2) := by
  have n12 := hI.1.2.1
  unfold mL_checksum
  refine (T_wr (c := fun v => v) (P := fun v L V1 => v = csQ Q n ∧ lkP Ln V n Q L V1) ?_).mono (fun p ⟨v, e, h1, h2⟩ => ⟨by rw [e, h1], h2⟩)
  have go : ∀ k' i L (V1 : mV), n < i + k' → i ≤ n → lkP Ln V n Q L V1 → mTo (mX11_checksum_go F k' 0 L (csQ Q i) (nI i) V1) (fun p => ∃ v, p.1 = .inr v ∧ v = csQ Q n ∧ lkP Ln V n Q p.2.1 p.2.2) := by
    intro k'
    induction k' with
    | zero => intro i L V1 h1 h2; omega
    | succ k ih =>
      intro i L V1 h1 h2 h3
      rw [mX11_checksum_go, if_pos rfl]
      unfold mX11_checksum_b0
      refine mTo.le h3.2.1.1.1 rfl (by omega) (by omega) (fun z => mTo.ret ⟨_, rfl, by rw [show i = n by omega], h3⟩) (fun z => ?_)
      refine T_rfB hF h3.2.1 z (fun L2 V2 r i2 f g => mTo.lt (mTo.lt (mTo.lt ?_)))
      obtain ⟨v1, v2, v3, v4, v5, v6⟩ := frs_val i2 z f
      refine mTo.N (T_total (by omega) v3) (fun v _ hv => mTo.lt (mTo.lt ?_))
      subst hv
      rw [f.1, v1, v2, nI_1]
      exact ih (i + 1) L2 V2 (by omega) (by omega) (h3.tr ⟨r, i2, g⟩)
  unfold mX11_checksum mX11_checksum_s
  exact go F 0 Ln V (by omega) (Nat.zero_le _) (lkP.rf hI)
theorem T_rcopy {F r r2 : Nat} {Ln : Nat → Nat} {V : mV} {xs ys : List Int32} (hk : mK r = 9) (hr : rowIs Ln V r ys) (h2 : rowIs Ln V r2 xs) (ne : r ≠ r2) (ne2 : r + 1 ≠ r2) (ne3 : r2 + 1 ≠ r) : mTo (mX9_copy F Ln r r2 V) (fun p => rowIs p.2.1 p.2.2 r xs ∧ mAv (wX9_copy r r2) V p.2.2 ∧ mAl (wX9_copy r r2) Ln p.2.1) := by
  have n := h2.n
  obtain ⟨_, _, ⟨k, k6, kL⟩, _⟩ := hr
  obtain ⟨a1, a2, ⟨k2, k26, k2L⟩, a4⟩ := h2
  have p1 : 2 ^ k ≤ 2 ^ 6 := Nat.pow_le_pow_right (by decide) k6
  have p2 : 2 ^ k2 ≤ 2 ^ 6 := Nat.pow_le_pow_right (by decide) k26
  have q1 := Nat.pow_pos (n := k) (show 0 < 2 by decide)
  have q2 := Nat.pow_pos (n := k2) (show 0 < 2 by decide)
  have main : mTo (mX9_copy F Ln r r2 V) (fun p => rowIs p.2.1 p.2.2 r xs) := by
    unfold mX9_copy
    rw [a1, nI_clamp (by omega)]
    refine mTo.gd (fun z => z hk) (mTo.le (b := Ln (r + 1)) rfl rfl (by omega) (by omega) (fun z => ?_) (fun z => ?_))
    · refine mTo.gd (fun y => y ⟨nI_nn (by omega), by omega, z⟩) (mTo.ret ⟨mF_at, z, ⟨k, k6, kL⟩, fun i hi => ?_⟩)
      show va_up V.rI (r + 1) _ (r + 1) i = _
      rw [mUp_eq, cpy_at (by omega)]
      exact a4 i hi
    · have lt : k < k2 := by
        apply Classical.byContradiction
        intro c
        have := Nat.pow_le_pow_right (n := 2) (by decide) (show k2 ≤ k by omega)
        omega
      have dbl : 2 ^ (k + 1) ≤ 2 ^ k2 := Nat.pow_le_pow_right (by decide) lt
      rw [Nat.pow_succ] at dbl
      refine mTo.gd (fun y => y ⟨by omega, ⟨by omega, by omega⟩, nI_nn (by omega), by omega, ne⟩) (mTo.ret ⟨mF_at, ?_, ⟨k2, k26, ?_⟩, fun i hi => ?_⟩)
      · show xs.length ≤ va_up Ln (r + 1) (Ln (r2 + 1)) (r + 1)
        rw [mUp_eq]
        exact a2
      · show va_up Ln (r + 1) (Ln (r2 + 1)) (r + 1) = _
        rw [mUp_eq, k2L]
      · show va_up V.rI (r + 1) _ (r + 1) i = _
        rw [mUp_eq, cpy_at (by omega)]
        exact a4 i hi
  obtain ⟨p, e1, q⟩ := main
  have f := NX9_copy e1
  exact ⟨p, e1, q, f.1, f.2⟩
theorem T_th {α δ : Type} {e : String} {Ln : Nat → Nat} {V : mV} {f : α → (Nat → Nat) → mV → Option δ} {g : String → (Nat → Nat) → mV → Option δ} {R : δ → Prop} (h : Ln 3000 < 5000) (k : mTo (g e (va_up Ln 3000 (Ln 3000 + 1)) V) R) : mTo (mBT (mTh Ln e V) f g) R := by
  unfold mTh
  rw [if_pos h]
  exact k
theorem up_3000 {Ln : Nat → Nat} {x : Nat} : (va_up Ln 3000 x) 3000 = x := mUp_eq _ _ _
theorem al_3000 {Ln : Nat → Nat} {x : Nat} : mAl (fun a => a = 3000) Ln (va_up Ln 3000 x) := mAl.up mAl.rf rfl
theorem bST.th {Ln : Nat → Nat} {V : mV} {n x : Nat} {Q : Nat → qT} (h : bST Ln V n Q) : bST (va_up Ln 3000 x) V n Q := ⟨(h.1.fr (w := fun a => a = 3000) mAv.rf al_3000 rfl (fun i _ h2 _ c => by omega)).1, h.2.1.fr (w := fun a => a = 3000) mAv.rf al_3000 (by decide) (by decide) (by decide) ⟨by decide, by decide⟩ (fun j hj => ⟨by omega, by omega⟩) (fun z hz => by omega), h.2.2⟩
theorem rowIs.th {Ln : Nat → Nat} {V : mV} {r x : Nat} {xs : List Int32} (h : rowIs Ln V r xs) (hr : r + 1 ≠ 3000) : rowIs (va_up Ln 3000 x) V r xs := h.ln (mUp_ne _ _ hr)
theorem bST.ty {Ln Ln1 : Nat → Nat} {V V1 : mV} {n : Nat} {Q : Nat → qT} {w : Nat → Prop} (h : bST Ln V n Q) (a : mAv w V V1) (b : mAl w Ln Ln1) (hw : ∀ i, w i → i = 2048 ∨ i = 2049) (ht : ∃ ts, rowIs Ln1 V1 2048 ts) : bST Ln1 V1 n Q ∧ (∀ x, x < n → frs V Q x → frs V1 Q x) ∧ Ln1 3000 = Ln 3000 ∧ Ln1 3001 = Ln 3001 := by
  have nw : ∀ i, i ≠ 2048 → i ≠ 2049 → ¬ w i := fun i h1 h2 z => by have := hw i z; omega
  have x := h.1.fr a b (by rw [(a.1 0 (nw 0 (by decide) (by decide))).1]) (fun i _ _ _ => nw i (by omega) (by omega))
  exact ⟨⟨x.1, h.2.1.ty a b (nw 0 (by decide) (by decide)) (nw 9 (by decide) (by decide)) (nw 17 (by decide) (by decide)) ht (fun j hj => ⟨nw _ (by omega) (by omega), nw _ (by omega) (by omega)⟩) (fun z hz => nw _ (by omega) (by omega)), h.2.2⟩, x.2, b 3000 (nw _ (by decide) (by decide)), b 3001 (nw _ (by decide) (by decide))⟩
theorem T_borrow {G : wkG} {F n j : Nat} {Q : Nat → qT} {Ln : Nat → Nat} {V : mV} (hF : 2 ^ 34 ≤ F) (hI : bST Ln V n Q) (hj : j < n) (hT : Ln 3000 < 5000) : mTo (mL_borrow G F Ln (nI j) V) (fun p => bST p.2.1 p.2.2 n Q ∧ p.2.1 3000 ≤ Ln 3000 + 1 ∧ p.2.1 3001 = Ln 3001 ∧ frs p.2.2 Q j ∧ ((aRw (Q j) (bnd Q j)).length ≤ 64 ∧ p.1 = Int32.toInt64 (nI (aRw (Q j) (bnd Q j)).length) ∧ rowIs p.2.1 p.2.2 2048 (aRw (Q j) (bnd Q j)) ∨ 64 < (aRw (Q j) (bnd Q j)).length ∧ (aRw (Q j) (bnd Q j)).length ≤ 1024 ∧ p.1 = -4000000000000000002)) := by
  unfold mL_borrow mX11_borrow
  obtain ⟨hk, hx, ho⟩ := id hI
  have n12 := hk.1.2.1
  have ht0 := hx.1
  -- the first bind is looked through twice
  obtain ⟨p, e1, q1, q2, q3, q4, q5⟩ := T_refreshed hF hk hj
  obtain ⟨v, L, V1⟩ := p
  have q1 : v = .inr (256 + 8 * j) := q1
  subst q1
  have st : bST L V1 n Q := ⟨q3, hx.rf q2, ho⟩
  have th := q2.th
  obtain ⟨v1, v2, v3, v4, v5, v6⟩ := frs_val q3 hj q4
  have v3' : rowIs L V1 (256 + 8 * j + 2) (aRw (Q j) (bnd Q j)) := v3
  have n3 := v3'.n
  rw [show mX11_refreshed F Ln (nI j) V = some (.inr (256 + 8 * j), L, V1) from e1]
  show mTo (mBT (if V1.fI (256 + 8 * j + 2) 1 ≤ (64 : Int32) then _ else _) _ _) _
  rw [v3'.1]
  by_cases c : (aRw (Q j) (bnd Q j)).length ≤ 64
  · rw [if_pos (i32le.mpr (by rw [nI_toInt (by omega)]; exact Int.ofNat_le.mpr c))]
    obtain ⟨ts, t1⟩ := st.2.1.1
    obtain ⟨p2, e2, r1, r2, r3⟩ := T_rcopy (F := F) (r := 2048) (r2 := 256 + 8 * j + 2) (by decide) t1 v3' (by omega) (by omega) (by omega)
    have x := st.ty r2 r3 (fun i z => by unfold wX9_copy at z; omega) ⟨_, r1⟩
    have th : L 3000 = Ln 3000 ∧ L 3001 = Ln 3001 := th
    show mTo (mBT (mBA (mX9_copy F L 2048 (256 + 8 * j + 2) V1) _) _ _) _
    rw [e2]
    refine mTo.ret ⟨x.1, ?_, ?_, x.2.1 j hj q4, Or.inl ⟨c, ?_, r1⟩⟩
    · have := x.2.2.1
      show p2.2.1 3000 ≤ _
      omega
    · have := x.2.2.2
      show p2.2.1 3001 = _
      omega
    · show Int32.toInt64 (p2.2.2.fI 2048 1) = _
      rw [r1.1]
  · rw [if_neg (fun y => c (by
      have := i32le.mp y
      rw [nI_toInt (by omega)] at this
      exact Int.ofNat_le.mp this))]
    have th : L 3000 = Ln 3000 ∧ L 3001 = Ln 3001 := th
    refine T_th (by omega) ?_
    rw [if_neg (by decide), if_pos rfl]
    refine mTo.ret ⟨st.th, ?_, ?_, q4, Or.inr ⟨by omega, n3, rfl⟩⟩
    · show va_up L 3000 (L 3000 + 1) 3000 ≤ _
      rw [up_3000]
      omega
    · show va_up L 3000 (L 3000 + 1) 3001 = _
      rw [mUp_ne _ _ (by decide)]
      omega
end
