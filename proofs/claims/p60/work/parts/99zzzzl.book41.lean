/-! REDUCTIONS: a flow becomes inequalities. -/
section
theorem exQ_c {q : qT} {x x' : Nat → Int32} (h : ∀ c, c < 5 → x c = x' c) : exQ q x = exQ q x' := by
  have : addD q (Qm q) x = addD q (Qm q) x' := funext (fun y => by
    unfold addD
    by_cases z : 5 * Qm q ≤ y ∧ y < 5 * Qm q + 5
    · rw [if_pos z, if_pos z, h _ (by omega)]
    · rw [if_neg z, if_neg z])
  unfold exQ
  rw [this]
def bcI (A B : Nat → Nat) (v : Nat) (sg : Int32) (c : Nat) : Int32 := if A c = v then sg else if B c = v then -sg else 0
def balX (m : Nat) (A B : Nat → Nat) (v : Nat) (sg lim : Int32) (c : Nat) : Int32 := if c = 4 then lim else if c < m then bcI A B v sg c else 0
theorem T_addBal {F e s m b v : Nat} {d : Nat → Int32} {A B : Nat → Nat} {V : mV} {q : qT} {sg lim : Int32} (hF : 64 ≤ F) (he : 256 ≤ e) (he2 : e < 540) (hm : m ≤ 4) (hs : s ≤ 9) (hv : v < s) (hq : enQ V e s m (nI b) d) (hd : ∀ i, i < m → d (5 * i) = nI (A i) ∧ d (5 * i + 1) = nI (B i) ∧ A i < s ∧ B i < s ∧ A i ≠ B i) (hQ : isQn V 544 q) (h15 : Qm q ≤ 15) : mTo (mX4_addBalance F e 544 (nI v) sg lim V) (fun p => isQn p.2 544 (exQ q (balX m A B v sg lim)) ∧ mAv (fun i => i = 544 ∨ i = 545) V p.2) := by
  have go : ∀ k' i V3, m < i + k' → i ≤ m → enQ V3 e s m (nI b) d → isQn V3 544 (exQ q (fun c => if c < i then bcI A B v sg c else 0)) → mAv (fun i => i = 544 ∨ i = 545) V V3 → mTo (mX4_addBalance_go F k' 0 e 544 (nI v) sg lim (nI (Qm q)) (nI i) V3) (fun p => isQn p.2 544 (exQ q (balX m A B v sg lim)) ∧ mAv (fun i => i = 544 ∨ i = 545) V p.2) := by
    intro k'
    induction k' with
    | zero => intro i V3 h1 h2; omega
    | succ k' ih =>
      intro i V3 k1 k2 q3 d3 f3
      rw [mX4_addBalance_go, if_pos rfl]
      unfold mX4_addBalance_b0
      refine mTo.le q3.2.1 rfl (by omega) (by omega) (fun y => ?_) (fun y => ?_)
      · have ei : i = m := by omega
        subst ei
        refine mTo.W (T_addToX (F := F) (c := 4) (m := Qm q) (v := lim) d3 rfl h15 (by decide)) (fun _ V4 _ h => mTo.ret ?_)
        obtain ⟨g1, g2⟩ := h
        have g2 : mAv (fun i => i = 544 ∨ i = 545) V3 V4 := g2
        refine ⟨?_, mAv.tr f3 g2 (fun _ z => z)⟩
        have g1 : isQn V4 544 (exQ q (va_up (fun c => if c < i then bcI A B v sg c else 0) 4 ((if 4 < i then bcI A B v sg 4 else 0) + lim))) := g1
        rw [exQ_c (x' := balX i A B v sg lim) (fun c hc => by
          unfold balX
          by_cases c4 : c = 4
          · rw [c4, mUp_eq, if_neg (by omega), if_pos rfl, Int32.zero_add]
          · rw [mUp_ne _ _ c4, if_neg c4])] at g1
        exact g1
      · obtain ⟨x0, x1, xa, xb, xne⟩ := hd i y
        have nx : ∀ V4, isQn V4 544 (exQ q (fun c => if c < i + 1 then bcI A B v sg c else 0)) → mAv (fun i => i = 544 ∨ i = 545) V3 V4 → mTo (mLt (nI (i + 1)) fun x43 => (mX4_addBalance_go F k' 0 e 544 (nI v) sg lim (nI (Qm q)) (x43) V4)) (fun p => isQn p.2 544 (exQ q (balX m A B v sg lim)) ∧ mAv (fun i => i = 544 ∨ i = 545) V p.2) := fun V4 h1 h2 => mTo.lt (ih (i + 1) V4 (by omega) (by omega) (q3.mv h2 (by omega) (by omega)) h1 (mAv.tr f3 h2 (fun _ z => z)))
        have up : ∀ t V4, bcI A B v sg i = t → isQn V4 544 (exQ q (va_up (fun c => if c < i then bcI A B v sg c else 0) i ((if i < i then bcI A B v sg i else 0) + t))) → isQn V4 544 (exQ q (fun c => if c < i + 1 then bcI A B v sg c else 0)) := fun t V4 et h => by
          rw [exQ_c (x' := fun c => if c < i + 1 then bcI A B v sg c else 0) (fun c hc => by
            by_cases ci : c = i
            · rw [ci, mUp_eq, if_neg (Nat.lt_irrefl i), if_pos (Nat.lt_succ_self i), Int32.zero_add, et]
            · rw [mUp_ne _ _ ci]
              by_cases z : c < i
              · rw [if_pos z, if_pos (by omega)]
              · rw [if_neg z, if_neg (by omega)])] at h
          exact h
        rw [nI_1]
        refine T_iN (T_item q3.2.1 (by omega) y (show 0 < 5 by decide) rfl ((q3.2.2.2 _ (by omega)).trans x0)) ?_
        refine mTo.eqI rfl rfl (by omega) (by omega) (fun ea => ?_) (fun na => ?_)
        · refine mTo.W (T_addToX (F := F) (c := i) (m := Qm q) (v := sg) d3 rfl h15 (by omega)) (fun _ V4 _ h => ?_)
          obtain ⟨g1, g2⟩ := h
          have g2 : mAv (fun i => i = 544 ∨ i = 545) V3 V4 := g2
          have g1 := up sg V4 (by unfold bcI; rw [if_pos ea]) g1
          have q4 := q3.mv g2 (by omega) (by omega)
          refine T_iN (T_item q4.2.1 (by omega) y (show 1 < 5 by decide) rfl ((q4.2.2.2 _ (by omega)).trans x1)) ?_
          refine mTo.eqI rfl rfl (by omega) (by omega) (fun eb => absurd (ea.trans eb.symm) xne) (fun _ => nx V4 g1 g2)
        · refine T_iN (T_item q3.2.1 (by omega) y (show 1 < 5 by decide) rfl ((q3.2.2.2 _ (by omega)).trans x1)) ?_
          refine mTo.eqI rfl rfl (by omega) (by omega) (fun eb => ?_) (fun nb => ?_)
          · refine mTo.W (T_addToX (F := F) (c := i) (m := Qm q) (v := -sg) d3 rfl h15 (by omega)) (fun _ V4 _ h => ?_)
            obtain ⟨g1, g2⟩ := h
            have g2 : mAv (fun i => i = 544 ∨ i = 545) V3 V4 := g2
            exact nx V4 (up (-sg) V4 (by unfold bcI; rw [if_neg na, if_pos eb]) g1) g2
          · refine nx V3 ?_ mAv.rf
            rw [exQ_c (x' := fun c => if c < i then bcI A B v sg c else 0) (fun c hc => by
              by_cases ci : c = i
              · rw [ci, if_pos (Nat.lt_succ_self i), if_neg (Nat.lt_irrefl i)]
                unfold bcI
                rw [if_neg na, if_neg nb]
              · by_cases z : c < i
                · rw [if_pos z, if_pos (by omega)]
                · rw [if_neg z, if_neg (by omega)])]
            exact d3
  unfold mX4_addBalance mX4_addBalance_s
  rw [hQ.2.2.2.2.2.2.1]
  refine mTo.lt (mTo.W (T_addItem hQ h15) (fun _ V1 _ h => ?_))
  obtain ⟨g1, g2⟩ := h
  have g1 : isQn V1 544 (exQ q (five 0 0 0 0 0)) := g1
  have g2 : mAv (fun i => i = 544 ∨ i = 545) V V1 := g2
  rw [exQ_c (x' := fun c => if c < 0 then bcI A B v sg c else 0) (fun c hc => by
    rw [if_neg (Nat.not_lt_zero _)]
    rcases (show c = 0 ∨ c = 1 ∨ c = 2 ∨ c = 3 ∨ c = 4 by omega) with e | e | e | e | e <;> subst e <;> rfl)] at g1
  exact go F 0 V1 (by omega) (Nat.zero_le _) (hq.mv g2 (by omega) (by omega)) g1 g2
/-- the row i of the inequalities that a flow becomes -/
def liN (y m b : Nat) (A B C : Nat → Nat) (i : Nat) : Nat → Int32 := if i < m then (fun c => if c = 4 then nI (C i) else if c = i then 1 else 0) else if i < m + 2 * y then balX m A B ((i - m) / 2 + 1) (if (i - m) % 2 = 0 then -1 else 1) 0 else if i = m + 2 * y then balX m A B 0 1 (nI b) else balX m A B 0 (-1) (-nI b)
def lnQ (y m b : Nat) (A B C : Nat → Nat) : qT := ((3, m, m + 2 * y + 2, fun w => if w < 5 * (m + 2 * y + 2) then liN y m b A B C (w / 5) (w % 5) else 0), 40, -1, 0, -1)
theorem ln_at {y m b i c : Nat} {A B C : Nat → Nat} (hi : i < m + 2 * y + 2) (hc : c < 5) : Qd (lnQ y m b A B C) (5 * i + c) = liN y m b A B C i c := by
  show (if 5 * i + c < 5 * (m + 2 * y + 2) then liN y m b A B C ((5 * i + c) / 5) ((5 * i + c) % 5) else 0) = _
  rw [if_pos (by omega), show (5 * i + c) / 5 = i by omega, show (5 * i + c) % 5 = c by omega]
theorem ln_tr {y m b : Nat} {A B C : Nat → Nat} : trQ (lnQ y m b A B C) 40 (m + 2 * y + 2) = lnQ y m b A B C := by
  have : (fun w => if w < 5 * (m + 2 * y + 2) then Qd (lnQ y m b A B C) w else 0) = Qd (lnQ y m b A B C) := funext (fun w => by
    by_cases c : w < 5 * (m + 2 * y + 2)
    · rw [if_pos c]
    · rw [if_neg c]
      exact (if_neg c).symm)
  show ((3, m, m + 2 * y + 2, fun w => if w < 5 * (m + 2 * y + 2) then Qd (lnQ y m b A B C) w else 0), 40, -1, 0, -1) = _
  rw [this]
  rfl
theorem T_cFlow {F e y m b : Nat} {d : Nat → Int32} {A B C : Nat → Nat} {V : mV} (hF : 2 ^ 22 ≤ F) (he : 256 ≤ e) (he2 : e < 540) (hy : y ≤ 5) (hm : m ≤ 10) (hq : enQ V e (y + 2) m (nI b) d) (hd : qF d m y A B C) : mTo (mX4_carriesFlows F e 544 V) (fun p => (p.1 = 1 ∧ 1 ≤ m ∧ m ≤ 4 ∧ m + 2 * y + 2 ≤ 12 ∧ isQn p.2 544 (lnQ y m b A B C)) ∨ p.1 = 0) := by
  unfold mX4_carriesFlows mX4_carriesFlows_s
  refine mTo.lt (mTo.lt ?_)
  rw [hq.2.1, hq.1, nI_sub2, show (2 : Int32) = nI 2 from rfl, nI_mulC, nI_add, nI_add]
  refine mTo.ltI (b := 1) rfl rfl (by omega) (by decide) (fun _ => mTo.ret (Or.inr rfl)) (fun m1 => ?_)
  rw [if_neg (by decide), show wkTab 1 ((3 : Int32)).toNatClampNeg = nI 4 from rfl]
  refine mTo.ltI rfl rfl (by decide) (by omega) (fun _ => mTo.ret (Or.inr rfl)) (fun m4 => ?_)
  rw [if_neg (by decide), show wkTab 4 ((3 : Int32)).toNatClampNeg = nI 12 from rfl]
  refine mTo.le rfl rfl (by omega) (by decide) (fun M12 => ?_) (fun _ => mTo.ret (Or.inr rfl))
  rw [if_neg (by decide), show wkTab 3 ((3 : Int32)).toNatClampNeg = 40 from rfl]
  have hd5 : ∀ i, i < m → d (5 * i) = nI (A i) ∧ d (5 * i + 1) = nI (B i) ∧ A i < y + 2 ∧ B i < y + 2 ∧ A i ≠ B i := fun i hi => ⟨(hd i hi).1, (hd i hi).2.1, (hd i hi).2.2.2.1, (hd i hi).2.2.2.2.1, (hd i hi).2.2.2.2.2.1⟩
  refine mTo.W (T_begin3 (F := F) (e := 544) (k := 3) (s := m) (b := 40) (V := V)) (fun _ V2 _ h => ?_)
  obtain ⟨b1, _, b3⟩ := h
  have b1 : isQn V2 544 (newQ 3 m 40) := b1
  have b3 : mAv (fun i => i = 544) V V2 := b3
  have hq2 := hq.mv b3 (by omega) (by omega)
  obtain ⟨dq, hdq⟩ : ∃ dq, dq = lnQ y m b A B C := ⟨_, rfl⟩
  have row : ∀ i (x : Nat → Int32), i < m + 2 * y + 2 → x = liN y m b A B C i → exQ (trQ dq 40 i) x = trQ dq 40 (i + 1) := fun i x hi ex => exQ_tr (fun c hc => by rw [hdq, ln_at hi hc, ex])
  have go1 : ∀ k' v V3, y + 2 < v + k' → 1 ≤ v → v ≤ y + 1 → enQ V3 e (y + 2) m (nI b) d → isQn V3 544 (trQ dq 40 (m + 2 * (v - 1))) → mTo (mX4_carriesFlows_go F k' 1 e 544 0 (nI v) V3) (fun p => (p.1 = 1 ∧ 1 ≤ m ∧ m ≤ 4 ∧ m + 2 * y + 2 ≤ 12 ∧ isQn p.2 544 (lnQ y m b A B C)) ∨ p.1 = 0) := by
    intro k'
    induction k' with
    | zero => intro v V3 h1 h2 h3; omega
    | succ k' ih =>
      intro v V3 k1 k2 k3 q3 d3
      rw [mX4_carriesFlows_go, if_neg (by decide), if_pos rfl]
      unfold mX4_carriesFlows_b1
      have es : V3.fI e 1 - (1 : Int32) = nI (y + 1) := by rw [q3.1, show y + 2 = (y + 1) + 1 from rfl, nI_pred]
      refine mTo.le es rfl (by omega) (by omega) (fun z => ?_) (fun z => ?_)
      · have ev : v = y + 1 := by omega
        rw [ev, Nat.add_sub_cancel] at d3
        rw [q3.2.2.1]
        refine mTo.W (T_addBal (v := 0) (by omega) he he2 m4 (by omega) (by omega) q3 hd5 d3 (show m + 2 * y ≤ 15 by omega)) (fun _ V4 _ h => ?_)
        obtain ⟨g1, g2⟩ := h
        have g1 : isQn V4 544 (exQ (trQ dq 40 (m + 2 * y)) (balX m A B 0 1 (nI b))) := g1
        have g2 : mAv (fun i => i = 544 ∨ i = 545) V3 V4 := g2
        rw [row _ _ (by omega) (by unfold liN; rw [if_neg (by omega), if_neg (by omega), if_pos rfl])] at g1
        have q4 := q3.mv g2 (by omega) (by omega)
        rw [q4.2.2.1]
        refine mTo.W (T_addBal (v := 0) (by omega) he he2 m4 (by omega) (by omega) q4 hd5 g1 (show m + 2 * y + 1 ≤ 15 by omega)) (fun _ V5 _ h => mTo.ret (Or.inl ⟨rfl, m1, m4, M12, ?_⟩))
        obtain ⟨g3, g4⟩ := h
        have g3 : isQn V5 544 (exQ (trQ dq 40 (m + 2 * y + 1)) (balX m A B 0 (-1) (-nI b))) := g3
        rw [row _ _ (by omega) (by unfold liN; rw [if_neg (by omega), if_neg (by omega), if_neg (by omega)]), hdq, ln_tr] at g3
        exact g3
      · refine mTo.W (T_addBal (by omega) he he2 m4 (by omega) (by omega) q3 hd5 d3 (show m + 2 * (v - 1) ≤ 15 by omega)) (fun _ V4 _ h => ?_)
        obtain ⟨g1, g2⟩ := h
        have g1 : isQn V4 544 (exQ (trQ dq 40 (m + 2 * (v - 1))) (balX m A B v (-1) 0)) := g1
        have g2 : mAv (fun i => i = 544 ∨ i = 545) V3 V4 := g2
        rw [row _ _ (by omega) (by unfold liN; rw [if_neg (by omega), if_pos (by omega), show (m + 2 * (v - 1) - m) / 2 + 1 = v by omega, if_pos (by omega)])] at g1
        have q4 := q3.mv g2 (by omega) (by omega)
        refine mTo.W (T_addBal (by omega) he he2 m4 (by omega) (by omega) q4 hd5 g1 (show m + 2 * (v - 1) + 1 ≤ 15 by omega)) (fun _ V5 _ h => ?_)
        obtain ⟨g3, g4⟩ := h
        have g3 : isQn V5 544 (exQ (trQ dq 40 (m + 2 * (v - 1) + 1)) (balX m A B v 1 0)) := g3
        have g4 : mAv (fun i => i = 544 ∨ i = 545) V4 V5 := g4
        rw [row _ _ (by omega) (by unfold liN; rw [if_neg (by omega), if_pos (by omega), show (m + 2 * (v - 1) + 1 - m) / 2 + 1 = v by omega, if_neg (by omega)]), show m + 2 * (v - 1) + 1 + 1 = m + 2 * (v + 1 - 1) by omega] at g3
        rw [nI_1]
        exact mTo.lt (ih (v + 1) V5 (by omega) (by omega) (by omega) (q4.mv g4 (by omega) (by omega)) g3)
  have go0 : ∀ k' i V3, m + y + 3 < i + k' → i ≤ m → enQ V3 e (y + 2) m (nI b) d → isQn V3 544 (trQ dq 40 i) → mTo (mX4_carriesFlows_go F k' 0 e 544 (nI m) (nI i) V3) (fun p => (p.1 = 1 ∧ 1 ≤ m ∧ m ≤ 4 ∧ m + 2 * y + 2 ≤ 12 ∧ isQn p.2 544 (lnQ y m b A B C)) ∨ p.1 = 0) := by
    intro k'
    induction k' with
    | zero => intro i V3 h1 h2; omega
    | succ k' ih =>
      intro i V3 k1 k2 q3 d3
      rw [mX4_carriesFlows_go, if_pos rfl]
      unfold mX4_carriesFlows_b0
      refine mTo.le rfl rfl (by omega) (by omega) (fun z => ?_) (fun z => ?_)
      · have ei : i = m := by omega
        subst ei
        exact go1 k' 1 V3 (by omega) (by omega) (by omega) q3 d3
      · refine mTo.W (T_addItem d3 (show i ≤ 15 by omega)) (fun _ V4 _ h => ?_)
        obtain ⟨g1, g2⟩ := h
        have g1 : isQn V4 544 (exQ (trQ dq 40 i) (five 0 0 0 0 0)) := g1
        have g2 : mAv (fun i => i = 544 ∨ i = 545) V3 V4 := g2
        refine mTo.W (T_addToX (F := F) (c := i) (m := i) (v := 1) g1 rfl (show i ≤ 15 by omega) (by omega)) (fun _ V5 _ h => ?_)
        obtain ⟨g3, g4⟩ := h
        have g3 : isQn V5 544 (exQ (trQ dq 40 i) (va_up (five 0 0 0 0 0) i (five 0 0 0 0 0 i + 1))) := g3
        have g4 : mAv (fun i => i = 544 ∨ i = 545) V4 V5 := g4
        have q4 := (q3.mv g2 (by omega) (by omega)).mv g4 (by omega) (by omega)
        refine T_iN (T_item q4.2.1 (by omega) z (show 2 < 5 by decide) rfl ((q4.2.2.2 _ (by omega)).trans (hd i z).2.2.1)) ?_
        refine mTo.W (T_addToX (F := F) (c := 4) (m := i) (v := nI (C i)) g3 rfl (show i ≤ 15 by omega) (by omega)) (fun _ V6 _ h => ?_)
        obtain ⟨g5, g6⟩ := h
        have g6 : mAv (fun i => i = 544 ∨ i = 545) V5 V6 := g6
        have g5 : isQn V6 544 (exQ (trQ dq 40 i) (va_up (va_up (five 0 0 0 0 0) i (five 0 0 0 0 0 i + 1)) 4 ((va_up (five 0 0 0 0 0) i (five 0 0 0 0 0 i + 1)) 4 + nI (C i)))) := g5
        have five0 : ∀ c, c < 5 → five 0 0 0 0 0 c = (0 : Int32) := fun c hc => by
          rcases (show c = 0 ∨ c = 1 ∨ c = 2 ∨ c = 3 ∨ c = 4 by omega) with e | e | e | e | e <;> subst e <;> rfl
        rw [exQ_c (x' := liN y m b A B C i) (fun c hc => by
          unfold liN
          rw [if_pos z]
          by_cases c4 : c = 4
          · rw [c4, mUp_eq, mUp_ne _ _ (show (4 : Nat) ≠ i by omega), five0 4 (by decide), Int32.zero_add, if_pos rfl]
          · rw [mUp_ne _ _ c4, if_neg c4]
            by_cases ci : c = i
            · rw [ci, mUp_eq, five0 i (by omega), if_pos rfl]
              rfl
            · rw [mUp_ne _ _ ci, if_neg ci, five0 c hc]), row _ _ (by omega) rfl] at g5
        rw [nI_1]
        exact mTo.lt (ih (i + 1) V6 (by omega) (by omega) (q4.mv g6 (by omega) (by omega)) g5)
  refine go0 F 0 V2 (by omega) (Nat.zero_le _) hq2 ?_
  rw [hdq]
  exact b1
end
