/-! THE BOOK: what is looked at. -/
section
def orgQ (Q : Nat → qT) (n : Nat) : Prop := ∀ j, j < n → Qo (Q j) < 0 ∨ ∃ o, o < n ∧ Qo (Q j) = nI o
def bC (Ln : Nat → Nat) (V : mV) (n : Nat) : Prop := ∃ c, V.fI 0 15 = nI c ∧ c ≤ 16 ∧ (∀ i, i < 16 → (∃ z, z < 16 ∧ V.cl i = 1024 + 4 * z) ∧ ∃ xs, rowIs Ln V (V.cl i + 1) xs) ∧ (∀ i j, i < j → j < 16 → V.cl i ≠ V.cl j) ∧ ∀ i, i < c → (∃ j, V.fI (V.cl i) 1 = nI j ∧ j < n) ∧ (V.fI (V.cl i) 2 = 0 ∨ V.fI (V.cl i) 2 = 1)
def bX (Ln : Nat → Nat) (V : mV) (n g : Nat) : Prop := (∃ ts, rowIs Ln V 2048 ts) ∧ (∀ j, j < 12 → ∃ ys, rowIs Ln V (256 + 8 * j + 4) ys) ∧ chS V ∧ bC Ln V n ∧ (∃ p, V.fI 0 13 = nI p ∧ p ≤ 6 ∧ p = g) ∧ (∃ c, V.fI 0 17 = nI c ∧ c ≤ 8192 ∧ 4 * c ≤ Ln 9) ∧ ∃ k, k ≤ 7 ∧ Ln 9 = 256 * 2 ^ k
/-- the whole book -/
def bST (Ln : Nat → Nat) (V : mV) (n : Nat) (Q : Nat → qT) : Prop := bkIn Ln V n Q ∧ bX Ln V n (Qs (Q 100)) ∧ orgQ Q n
theorem bX.fr {Ln Ln1 : Nat → Nat} {V V1 : mV} {n g : Nat} {w : Nat → Prop} (h : bX Ln V n g) (a : mAv w V V1) (b : mAl w Ln Ln1) (w0 : ¬ w 0) (w9 : ¬ w 9) (w17 : ¬ w 17) (wt : ¬ w 2048 ∧ ¬ w 2049) (ws : ∀ j, j < 12 → ¬ w (256 + 8 * j + 4) ∧ ¬ w (256 + 8 * j + 5)) (wc : ∀ z, z < 64 → ¬ w (1024 + z)) : bX Ln1 V1 n g := by
  obtain ⟨⟨ts, t1⟩, h2, ⟨fc, cc, c1, c2, c3, c4⟩, ⟨c, d1, d2, d3, d4, d5⟩, ⟨p, p1, p2⟩, ⟨e, e1, e2⟩, k, k1, k2⟩ := h
  have f0 := (a.1 0 w0).1
  have cl := a.2 w17
  refine ⟨⟨ts, t1.mv2 a b wt.1 wt.2⟩, fun j hj => ?_, ⟨fc, cc, c1, c2, by rw [f0, c3], by rw [f0, c4]⟩, ⟨c, by rw [f0, d1], d2, fun i hi => ?_, fun i j hij hj => by rw [cl]; exact d4 i j hij hj, fun i hi => ?_⟩, ⟨p, by rw [f0, p1], p2⟩, ⟨e, by rw [f0, e1], e2.1, by rw [b 9 w9]; exact e2.2⟩, k, k1, by rw [b 9 w9, k2]⟩
  · obtain ⟨ys, y1⟩ := h2 j hj
    exact ⟨ys, y1.mv2 a b (ws j hj).1 (ws j hj).2⟩
  · obtain ⟨⟨z, z1, z2⟩, xs, x1⟩ := d3 i hi
    rw [cl]
    refine ⟨⟨z, z1, z2⟩, xs, ?_⟩
    rw [z2] at x1 ⊢
    exact x1.mv2 a b (by have := wc (4 * z + 1) (by omega); rw [show 1024 + 4 * z + 1 = 1024 + (4 * z + 1) by omega]; exact this) (by have := wc (4 * z + 2) (by omega); rw [show 1024 + 4 * z + 1 + 1 = 1024 + (4 * z + 2) by omega]; exact this)
  · obtain ⟨⟨z, z1, z2⟩, _⟩ := d3 i (by omega)
    obtain ⟨⟨j, j1, j2⟩, j3⟩ := d5 i hi
    rw [cl]
    rw [z2] at j1 j3 ⊢
    have fz := (a.1 (1024 + 4 * z) (wc (4 * z) (by omega))).1
    rw [fz]
    exact ⟨⟨j, j1, j2⟩, j3⟩
theorem bX.rf {Ln Ln1 : Nat → Nat} {V V1 : mV} {n g : Nat} (h : bX Ln V n g) (r : rfR Ln V Ln1 V1) : bX Ln1 V1 n g := h.fr r.1 r.2.1 (by unfold wRf; omega) (by unfold wRf; omega) (by unfold wRf; omega) ⟨by unfold wRf; omega, by unfold wRf; omega⟩ (fun j hj => ⟨by unfold wRf; omega, by unfold wRf; omega⟩) (fun z hz => by unfold wRf; omega)
theorem rfR.row {Ln Ln1 : Nat → Nat} {V V1 : mV} {xs : List Int32} {r : Nat} (h : rfR Ln V Ln1 V1) (hr : rowIs Ln V r xs) (h1 : ¬ wRf r) (h2 : ¬ wRf (r + 1)) : rowIs Ln1 V1 r xs := hr.mv2 h.1 h.2.1 h1 h2
theorem rfR.th {Ln Ln1 : Nat → Nat} {V V1 : mV} (h : rfR Ln V Ln1 V1) : Ln1 3000 = Ln 3000 ∧ Ln1 3001 = Ln 3001 := ⟨h.2.1 3000 (by unfold wRf; omega), h.2.1 3001 (by unfold wRf; omega)⟩
theorem frs_val {Ln : Nat → Nat} {V : mV} {n j : Nat} {Q : Nat → qT} (h : bkIn Ln V n Q) (hj : j < n) (f : frs V Q j) : V.fI (256 + 8 * j) 11 = aRp (Q j) (bnd Q j) ∧ V.fI (256 + 8 * j) 12 = aTo (Q j) (bnd Q j) ∧ rowIs Ln V (256 + 8 * j + 2) (aRw (Q j) (bnd Q j)) ∧ isQn V (256 + 8 * j) (Q j) ∧ enQ V (256 + 8 * j) (Qs (Q j)) (Qm (Q j)) (bnd Q j) (Qd (Q j)) ∧ ansP (Qk (Q j)) (Qs (Q j)) (Qm (Q j)) (bnd Q j) (Qd (Q j)) (aRp (Q j) (bnd Q j)) (aTo (Q j) (bnd Q j)) (aRw (Q j) (bnd Q j)) (aYs (Q j) (bnd Q j)) (aNo (Q j) (bnd Q j)) := by
  have s := h.2.1 j hj f.2.1
  rw [f.2.2] at s
  have q := (h.1.2.2.1 j hj)
  exact ⟨s.2.1, s.2.2.1, s.2.2.2, q.1, q.1.en f.1, ansT_ok q.2.1 s.1⟩
theorem T_rfB {F n j : Nat} {Q : Nat → qT} {Ln : Nat → Nat} {V : mV} {δ : Type} {f : Nat → (Nat → Nat) → mV → Option δ} {g : String → (Nat → Nat) → mV → Option δ} {R : δ → Prop} (hF : 2 ^ 34 ≤ F) (hI : bkIn Ln V n Q) (hj : j < n) (k : ∀ L V1, rfR Ln V L V1 → bkIn L V1 n Q → frs V1 Q j → (∀ x, x < n → frs V Q x → frs V1 Q x) → mTo (f (256 + 8 * j) L V1) R) : mTo (mBT (mX11_refreshed F Ln (nI j) V) f g) R := by
  refine mTo.B (T_refreshed hF hI hj) (fun a L V1 _ q => ?_) (fun e L V1 _ q => ?_)
  · obtain ⟨q1, q2, q3, q4, q5⟩ := q
    have q1 := Sum.inr.inj q1
    rw [q1]
    exact k L V1 q2 q3 q4 q5
  · exact absurd q.1 (by intro c; cases c)
theorem T_enB {F n j : Nat} {Ln : Nat → Nat} {V : mV} {δ : Type} {f : Nat → (Nat → Nat) → mV → Option δ} {g : String → (Nat → Nat) → mV → Option δ} {R : δ → Prop} (h : V.fI 0 2 = nI n) (hn : n ≤ 12) (hj : j < n) (k : mTo (f (256 + 8 * j) Ln V) R) : mTo (mBT (mX11_entryAt F Ln (nI j) V) f g) R := by
  refine mTo.B (Q := fun r => r = (.inr (256 + 8 * j), Ln, V)) ⟨_, T_entryAt h hn hj, rfl⟩ (fun a L V' _ q => ?_) (fun e L V' _ q => ?_)
  · obtain ⟨qa, qb⟩ := Prod.mk.inj q
    obtain ⟨qb, qc⟩ := Prod.mk.inj qb
    rw [Sum.inr.inj qa, qb, qc]
    exact k
  · exact absurd (Prod.mk.inj q).1 (by intro c; cases c)
/-- a call that does not throw, as the law sees it -/
theorem T_wr {α β : Type} {o : Option (mO α)} {c : α → β} {g : String → (Nat → Nat) → mV → Option (β × (Nat → Nat) × mV)} {P : α → (Nat → Nat) → mV → Prop} (h : mTo o (fun p => ∃ v, p.1 = .inr v ∧ P v p.2.1 p.2.2)) : mTo (mBT o (fun v L V => some (c v, L, V)) g) (fun p => ∃ v, p.1 = c v ∧ P v p.2.1 p.2.2) := by
  refine mTo.B h (fun a L V _ q => ?_) (fun e L V _ q => ?_)
  · obtain ⟨v, q1, q2⟩ := q
    have q1 := Sum.inr.inj q1
    exact mTo.ret ⟨v, by rw [q1], q2⟩
  · obtain ⟨v, q1, _⟩ := q
    cases q1
def lkP (Ln : Nat → Nat) (V : mV) (n : Nat) (Q : Nat → qT) (L : Nat → Nat) (V1 : mV) : Prop := rfR Ln V L V1 ∧ bkIn L V1 n Q ∧ ∀ x, x < n → frs V Q x → frs V1 Q x
theorem lkP.rf {Ln : Nat → Nat} {V : mV} {n : Nat} {Q : Nat → qT} (h : bkIn Ln V n Q) : lkP Ln V n Q Ln V := ⟨rfR.rf, h, fun _ _ h => h⟩
theorem lkP.tr {L0 L1 L2 : Nat → Nat} {V0 V1 V2 : mV} {n : Nat} {Q : Nat → qT} (a : lkP L0 V0 n Q L1 V1) (b : lkP L1 V1 n Q L2 V2) : lkP L0 V0 n Q L2 V2 := ⟨a.1.tr b.1, b.2.1, fun x hx h => b.2.2 x hx (a.2.2 x hx h)⟩
theorem lkP.st {Ln L : Nat → Nat} {V V1 : mV} {n : Nat} {Q : Nat → qT} (h : bST Ln V n Q) (a : lkP Ln V n Q L V1) : bST L V1 n Q := ⟨a.2.1, h.2.1.rf a.1, h.2.2⟩
theorem T_total {F r : Nat} {Ln : Nat → Nat} {V : mV} {xs : List Int32} (hF : 2048 ≤ F) (h : rowIs Ln V r xs) : mTo (mX9_total F Ln r V) (fun v => v = xs.foldl (fun s x => (31 : Int64) * s + Int32.toInt64 x) 7) := by
  have n := h.n
  have hl := h.2.1
  have hL := h.L
  have go : ∀ k' i (s : Int64), xs.length < i + k' → i ≤ xs.length → s = (xs.take i).foldl (fun s x => (31 : Int64) * s + Int32.toInt64 x) 7 → mTo (mX9_total_go F k' 0 Ln r s (nI i) V) (fun v => v = xs.foldl (fun s x => (31 : Int64) * s + Int32.toInt64 x) 7) := by
    intro k'
    induction k' with
    | zero => intro i s h1 h2; omega
    | succ k ih =>
      intro i s h1 h2 h3
      rw [mX9_total_go, if_pos rfl]
      unfold mX9_total_b0
      refine mTo.le h.1 rfl (by omega) (by omega) (fun z => mTo.ret ?_) (fun z => mTo.ix rfl (by omega) (by omega) (mTo.lt (mTo.lt ?_)))
      · rw [h3, show i = xs.length by omega, List.take_length]
      · rw [nI_clamp (n := i) (by omega), h.2.2.2 i z, nI_1]
        refine ih (i + 1) _ (by omega) (by omega) ?_
        rw [List.take_succ_eq_append_getElem z, List.foldl_append, ← h3]
        show _ = (31 : Int64) * s + Int32.toInt64 xs[i]
        rw [List.getD_eq_getElem?_getD, List.getElem?_eq_getElem z]
        rfl
  unfold mX9_total mX9_total_s
  exact go F 0 7 (by omega) (Nat.zero_le _) rfl
def rwSum (xs : List Int32) : Int64 := xs.foldl (fun s x => (31 : Int64) * s + Int32.toInt64 x) 7
theorem rp_yn {q : qT} {b : Int32} (h : ansP (Qk q) (Qs q) (Qm q) b (Qd q) (aRp q b) (aTo q b) (aRw q b) (aYs q b) (aNo q b)) : ((aRp q b).toUInt32 % 65536).toInt32 = aRp q b := by
  rcases h.1 with e | e <;> rw [e] <;> decide
theorem T_answer {G : wkG} {F n j : Nat} {Q : Nat → qT} {Ln : Nat → Nat} {V : mV} (hF : 2 ^ 34 ≤ F) (hI : bkIn Ln V n Q) (hj : j < n) : mTo (mL_answer G F Ln (nI j) V) (fun p => p.1 = Int32.toInt64 (aRp (Q j) (bnd Q j)) ∧ lkP Ln V n Q p.2.1 p.2.2 ∧ frs p.2.2 Q j) := by
  unfold mL_answer
  refine (T_wr (P := fun v L V1 => v = aRp (Q j) (bnd Q j) ∧ lkP Ln V n Q L V1 ∧ frs V1 Q j) ?_).mono (fun p ⟨v, e, h1, h2⟩ => ⟨by rw [e, h1], h2⟩)
  unfold mX11_answer
  refine T_rfB hF hI hj (fun L V1 r i f g => ?_)
  obtain ⟨v1, v2, v3, v4, v5, v6⟩ := frs_val i hj f
  rw [v1]
  exact mTo.gd (fun z => z (rp_yn v6)) (mTo.ret ⟨_, rfl, rfl, ⟨r, i, g⟩, f⟩)
theorem T_number {G : wkG} {F n j : Nat} {Q : Nat → qT} {Ln : Nat → Nat} {V : mV} (hF : 2 ^ 34 ≤ F) (hI : bkIn Ln V n Q) (hj : j < n) : mTo (mL_number G F Ln (nI j) V) (fun p => p.1 = Int32.toInt64 (aTo (Q j) (bnd Q j)) ∧ lkP Ln V n Q p.2.1 p.2.2 ∧ frs p.2.2 Q j) := by
  unfold mL_number
  refine (T_wr (P := fun v L V1 => v = aTo (Q j) (bnd Q j) ∧ lkP Ln V n Q L V1 ∧ frs V1 Q j) ?_).mono (fun p ⟨v, e, h1, h2⟩ => ⟨by rw [e, h1], h2⟩)
  unfold mX11_number
  refine T_rfB hF hI hj (fun L V1 r i f g => ?_)
  obtain ⟨v1, v2, v3, v4, v5, v6⟩ := frs_val i hj f
  exact mTo.ret ⟨_, rfl, v2, ⟨r, i, g⟩, f⟩
theorem T_boundOf {G : wkG} {F n j : Nat} {Q : Nat → qT} {Ln : Nat → Nat} {V : mV} (hF : 2 ^ 34 ≤ F) (hI : bkIn Ln V n Q) (hj : j < n) : mTo (mL_boundOf G F Ln (nI j) V) (fun p => p.1 = Int32.toInt64 (bnd Q j) ∧ lkP Ln V n Q p.2.1 p.2.2 ∧ frs p.2.2 Q j) := by
  unfold mL_boundOf
  refine (T_wr (P := fun v L V1 => v = bnd Q j ∧ lkP Ln V n Q L V1 ∧ frs V1 Q j) ?_).mono (fun p ⟨v, e, h1, h2⟩ => ⟨by rw [e, h1], h2⟩)
  unfold mX11_boundOf
  refine T_rfB hF hI hj (fun L V1 r i f g => ?_)
  exact mTo.ret ⟨_, rfl, f.1, ⟨r, i, g⟩, f⟩
theorem T_length {G : wkG} {F n j : Nat} {Q : Nat → qT} {Ln : Nat → Nat} {V : mV} (hF : 2 ^ 34 ≤ F) (hI : bkIn Ln V n Q) (hj : j < n) : mTo (mL_length G F Ln (nI j) V) (fun p => p.1 = Int32.toInt64 (nI (aRw (Q j) (bnd Q j)).length) ∧ lkP Ln V n Q p.2.1 p.2.2 ∧ frs p.2.2 Q j ∧ (aRw (Q j) (bnd Q j)).length ≤ 1024) := by
  unfold mL_length
  refine (T_wr (P := fun v L V1 => v = nI (aRw (Q j) (bnd Q j)).length ∧ lkP Ln V n Q L V1 ∧ frs V1 Q j ∧ (aRw (Q j) (bnd Q j)).length ≤ 1024) ?_).mono (fun p ⟨v, e, h1, h2⟩ => ⟨by rw [e, h1], h2⟩)
  unfold mX11_length
  refine T_rfB hF hI hj (fun L V1 r i f g => ?_)
  obtain ⟨v1, v2, v3, v4, v5, v6⟩ := frs_val i hj f
  exact mTo.ret ⟨_, rfl, v3.1, ⟨r, i, g⟩, f, v3.n⟩
theorem T_rowSum {G : wkG} {F n j : Nat} {Q : Nat → qT} {Ln : Nat → Nat} {V : mV} (hF : 2 ^ 34 ≤ F) (hI : bkIn Ln V n Q) (hj : j < n) : mTo (mL_rowSum G F Ln (nI j) V) (fun p => p.1 = rwSum (aRw (Q j) (bnd Q j)) ∧ lkP Ln V n Q p.2.1 p.2.2 ∧ frs p.2.2 Q j) := by
  unfold mL_rowSum
  refine (T_wr (c := fun v => v) (P := fun v L V1 => v = rwSum (aRw (Q j) (bnd Q j)) ∧ lkP Ln V n Q L V1 ∧ frs V1 Q j) ?_).mono (fun p ⟨v, e, h1, h2⟩ => ⟨by rw [e, h1], h2⟩)
  unfold mX11_rowSum
  refine T_rfB hF hI hj (fun L V1 r i f g => ?_)
  obtain ⟨v1, v2, v3, v4, v5, v6⟩ := frs_val i hj f
  exact mTo.N (T_total (by omega) v3) (fun v _ hv => mTo.ret ⟨v, rfl, hv, ⟨r, i, g⟩, f⟩)
theorem kd_c : ∀ k, k < 12 → ∀ F, mJ0_charAt_5068e F (nI k) = some (Int32.ofNat ((["m", "f", "p", "l", "s", "d", "n", "r", "g", "w", "a", "x"].map fun s => s.toList.head!.toNat).getD k 0)) := by
  intro k hk F
  rcases (show k = 0 ∨ k = 1 ∨ k = 2 ∨ k = 3 ∨ k = 4 ∨ k = 5 ∨ k = 6 ∨ k = 7 ∨ k = 8 ∨ k = 9 ∨ k = 10 ∨ k = 11 by omega) with e | e | e | e | e | e | e | e | e | e | e | e <;> subst e <;> rfl
/-- the letter of a kind -/
def ltK (k : Nat) : Nat := [109, 102, 112, 108, 115, 100, 110, 114, 103, 119, 97, 120].getD k 0
theorem kd_l {k F : Nat} (hk : k < 12) : mJ0_charAt_5068e F (nI k) = some (nI (ltK k)) := by
  rw [kd_c k hk F]
  have : ∀ k, k < 12 → Int32.ofNat ((["m", "f", "p", "l", "s", "d", "n", "r", "g", "w", "a", "x"].map fun s => s.toList.head!.toNat).getD k 0) = nI (ltK k) := by decide
  rw [this k hk]
theorem ltK_b : ∀ k, k < 12 → ltK k < 128 ∧ 0 < ltK k := by decide
theorem T_kindOf {G : wkG} {F n j : Nat} {Q : Nat → qT} {Ln : Nat → Nat} {V : mV} (hQ : bQ V n Q) (hj : j < n) : mTo (mL_kindOf G F Ln (nI j) V) (fun p => p = (Int32.toInt64 (nI (ltK (Qk (Q j)))), Ln, V)) := by
  obtain ⟨q1, q2, q3, _⟩ := hQ
  obtain ⟨a, b, c⟩ := q3 j hj
  unfold mL_kindOf
  refine (T_wr (P := fun v L V1 => v = nI (ltK (Qk (Q j))) ∧ L = Ln ∧ V1 = V) ?_).mono (fun p ⟨v, e, h1, h2, h3⟩ => by rw [← h1, ← h2, ← h3, ← e])
  unfold mX11_kindOf
  refine T_enB q1 q2 hj ?_
  rw [a.1]
  exact mTo.so (kd_l b.1) (mTo.gd (fun z => z (u16 _ (ltK_b _ b.1).1)) (mTo.ret ⟨_, rfl, rfl, rfl, rfl⟩))
theorem T_sizeOf {G : wkG} {F n j : Nat} {Q : Nat → qT} {Ln : Nat → Nat} {V : mV} (hQ : bQ V n Q) (hj : j < n) : mTo (mL_sizeOf G F Ln (nI j) V) (fun p => p = (Int32.toInt64 (nI (Qs (Q j))), Ln, V)) := by
  obtain ⟨q1, q2, q3, _⟩ := hQ
  obtain ⟨a, b, c⟩ := q3 j hj
  unfold mL_sizeOf
  refine (T_wr (P := fun v L V1 => v = nI (Qs (Q j)) ∧ L = Ln ∧ V1 = V) ?_).mono (fun p ⟨v, e, h1, h2, h3⟩ => by rw [← h1, ← h2, ← h3, ← e])
  unfold mX11_sizeOf
  exact T_enB q1 q2 hj (mTo.ret ⟨_, rfl, a.2.1, rfl, rfl⟩)
theorem T_items {G : wkG} {F n j : Nat} {Q : Nat → qT} {Ln : Nat → Nat} {V : mV} (hQ : bQ V n Q) (hj : j < n) : mTo (mL_items G F Ln (nI j) V) (fun p => p = (Int32.toInt64 (nI (Qm (Q j))), Ln, V)) := by
  obtain ⟨q1, q2, q3, _⟩ := hQ
  obtain ⟨a, b, c⟩ := q3 j hj
  unfold mL_items
  refine (T_wr (P := fun v L V1 => v = nI (Qm (Q j)) ∧ L = Ln ∧ V1 = V) ?_).mono (fun p ⟨v, e, h1, h2, h3⟩ => by rw [← h1, ← h2, ← h3, ← e])
  unfold mX11_items
  exact T_enB q1 q2 hj (mTo.ret ⟨_, rfl, a.2.2.2.2.2.2.1, rfl, rfl⟩)
end
