/-! THE PURE PART, games: plays, and what is won by one way at each node (no machine in it). -/
section
def wins (w : Nat → Nat) (i : Nat) (p : Nat → Nat) : Prop := ∃ c, c % 2 = i ∧ (∀ N, ∃ n, N ≤ n ∧ w (p n) = c) ∧ ∃ N, ∀ n, N ≤ n → w (p n) ≤ c
theorem wins.sh {w : Nat → Nat} {i k : Nat} {p : Nat → Nat} (h : wins w i (fun n => p (n + k))) : wins w i p := by
  obtain ⟨c, h1, h2, N, h3⟩ := h
  refine ⟨c, h1, fun M => ?_, N + k, fun n hn => ?_⟩
  · obtain ⟨n, n1, n2⟩ := h2 M
    exact ⟨n + k, by omega, n2⟩
  · have this : w (p (n - k + k)) ≤ c := h3 (n - k) (by omega)
    rw [Nat.sub_add_cancel (by omega)] at this
    exact this
theorem wins.no {w : Nat → Nat} {p : Nat → Nat} (h0 : wins w 0 p) (h1 : wins w 1 p) : False := by
  obtain ⟨c, a1, a2, N, a3⟩ := h0
  obtain ⟨d, b1, b2, M, b3⟩ := h1
  obtain ⟨n, n1, n2⟩ := a2 M
  obtain ⟨m, m1, m2⟩ := b2 N
  have := b3 n n1
  have := a3 m m1
  have e : c = d := by omega
  omega
def ply (own W : Nat → Nat) (i : Nat) (X : Nat → Prop) (σ p : Nat → Nat) : Prop := ∀ n, X (p n) ∧ (W (p n)).testBit (p (n + 1)) = true ∧ (own (p n) = i → p (n + 1) = σ (p n))
/-- within S the player i wins from X, by one way at each node -/
def WinS (own w W : Nat → Nat) (S X : Nat → Prop) (i : Nat) : Prop := (∀ v, X v → S v) ∧ ∃ σ : Nat → Nat, (∀ v, X v → own v = i → (W v).testBit (σ v) = true ∧ X (σ v)) ∧ (∀ v, X v → own v ≠ i → ∀ u, S u → (W v).testBit u = true → X u) ∧ ∀ p, ply own W i X σ p → wins w i p
theorem WinS.em {own w W : Nat → Nat} {S X : Nat → Prop} {i : Nat} (h : ∀ v, ¬ X v) : WinS own w W S X i := ⟨fun v hv => absurd hv (h v), fun _ => 0, fun v hv => absurd hv (h v), fun v hv => absurd hv (h v), fun p hp => absurd (hp 0).1 (h _)⟩
theorem WinS.eqv {own w W : Nat → Nat} {S S' X X' : Nat → Prop} {i : Nat} (h : WinS own w W S X i) (e1 : ∀ v, S v ↔ S' v) (e2 : ∀ v, X v ↔ X' v) : WinS own w W S' X' i := by
  have : S = S' := funext fun v => propext (e1 v)
  have : X = X' := funext fun v => propext (e2 v)
  subst_vars
  exact h
/-- who is won by the one is not won by the other -/
theorem WinS.no {own w W : Nat → Nat} {S X Y : Nat → Prop} {v : Nat} (ho : ∀ v, S v → own v = 0 ∨ own v = 1) (h0 : WinS own w W S X 0) (h1 : WinS own w W S Y 1) (hx : X v) (hy : Y v) : False := by
  obtain ⟨a1, σ, a2, a3, a4⟩ := h0
  obtain ⟨b1, τ, b2, b3, b4⟩ := h1
  have step : ∀ u, X u → Y u → X (if own u = 0 then σ u else τ u) ∧ Y (if own u = 0 then σ u else τ u) ∧ (W u).testBit (if own u = 0 then σ u else τ u) = true := fun u ux uy => by
    by_cases e : own u = 0
    · rw [if_pos e]
      obtain ⟨c1, c2⟩ := a2 u ux e
      exact ⟨c2, b3 u uy (by omega) _ (a1 _ c2) c1, c1⟩
    · rw [if_neg e]
      have e1 : own u = 1 := (ho u (a1 u ux)).resolve_left e
      obtain ⟨c1, c2⟩ := b2 u uy e1
      exact ⟨a3 u ux e _ (b1 _ c2) c1, c2, c1⟩
  let p : Nat → Nat := fun n => Nat.rec v (fun _ u => if own u = 0 then σ u else τ u) n
  have hp : ∀ n, X (p n) ∧ Y (p n) := fun n => by
    induction n with
    | zero => exact ⟨hx, hy⟩
    | succ n ih =>
      obtain ⟨s1, s2, _⟩ := step (p n) ih.1 ih.2
      exact ⟨s1, s2⟩
  have nx : ∀ n, p (n + 1) = if own (p n) = 0 then σ (p n) else τ (p n) := fun n => rfl
  refine wins.no (a4 p fun n => ⟨(hp n).1, ?_, fun e => ?_⟩) (b4 p fun n => ⟨(hp n).2, ?_, fun e => ?_⟩)
  · rw [nx]
    exact (step _ (hp n).1 (hp n).2).2.2
  · rw [nx, if_pos e]
  · rw [nx]
    exact (step _ (hp n).1 (hp n).2).2.2
  · rw [nx, if_neg (by omega)]
/-- D is drawn to G within S by the player i: ranks; what is not drawn can stay -/
def drawn (own W : Nat → Nat) (S G D : Nat → Prop) (i : Nat) (d : Nat → Nat) : Prop := (∀ v, G v → D v) ∧ (∀ v, D v → S v) ∧ (∀ v, D v → ¬ G v → own v = i → ∃ u, (W v).testBit u = true ∧ D u ∧ d u < d v) ∧ (∀ v, D v → ¬ G v → own v ≠ i → ∀ u, S u → (W v).testBit u = true → D u ∧ d u < d v) ∧ (∀ v, S v → ¬ D v → own v = i → ∀ u, D u → (W v).testBit u = true → False) ∧ ∀ v, S v → ¬ D v → own v ≠ i → ∃ u, (W v).testBit u = true ∧ S u ∧ ¬ D u
def lds (W : Nat → Nat) (S : Nat → Prop) : Prop := ∀ v, S v → ∃ u, (W v).testBit u = true ∧ S u
theorem drawn.rest {own W : Nat → Nat} {S G D : Nat → Prop} {i : Nat} {d : Nat → Nat} (h : drawn own W S G D i d) (hl : lds W S) : lds W (fun v => S v ∧ ¬ D v) := fun v hv => by
  obtain ⟨h1, h2, h3, h4, h5, h6⟩ := h
  by_cases e : own v = i
  · obtain ⟨u, u1, u2⟩ := hl v hv.1
    exact ⟨u, u1, u2, fun z => h5 v hv.1 hv.2 e u z u1⟩
  · exact h6 v hv.1 hv.2 e
theorem win_all {own w W : Nat → Nat} {S G D : Nat → Prop} {i c : Nat} {d : Nat → Nat} (hl : lds W S) (hG : drawn own W S G D i d) (hc : c % 2 = i) (hw : ∀ v, S v → w v ≤ c) (hg : ∀ v, G v → w v = c) (hR : WinS own w W (fun v => S v ∧ ¬ D v) (fun v => S v ∧ ¬ D v) i) : WinS own w W S S i := by
  obtain ⟨h1, h2, h3, h4, h5, h6⟩ := hG
  obtain ⟨_, σ, r2, r3, r4⟩ := hR
  have pick : ∀ v, ∃ u, D v → own v = i → (W v).testBit u = true ∧ S u ∧ (¬ G v → D u ∧ d u < d v) := fun v => by
    by_cases e : D v ∧ own v = i
    · by_cases g : G v
      · obtain ⟨u, u1, u2⟩ := hl v (h2 v e.1)
        exact ⟨u, fun _ _ => ⟨u1, u2, fun z => absurd g z⟩⟩
      · obtain ⟨u, u1, u2, u3⟩ := h3 v e.1 g e.2
        exact ⟨u, fun _ _ => ⟨u1, h2 u u2, fun _ => ⟨u2, u3⟩⟩⟩
    · exact ⟨0, fun a b => absurd ⟨a, b⟩ e⟩
  have ex : ∃ τ : Nat → Nat, ∀ v, (D v → own v = i → (W v).testBit (τ v) = true ∧ S (τ v) ∧ (¬ G v → D (τ v) ∧ d (τ v) < d v)) ∧ (¬ D v → τ v = σ v) := by
    have dec : ∀ v, ∃ u, (D v → own v = i → (W v).testBit u = true ∧ S u ∧ (¬ G v → D u ∧ d u < d v)) ∧ (¬ D v → u = σ v) := fun v => by
      by_cases e : D v
      · obtain ⟨u, hu⟩ := pick v
        exact ⟨u, hu, fun z => absurd e z⟩
      · exact ⟨σ v, fun z => absurd z e, fun _ => rfl⟩
    exact ⟨fun v => (dec v).choose, fun v => (dec v).choose_spec⟩
  obtain ⟨τ, hτ⟩ := ex
  refine ⟨fun v h => h, τ, fun v hv e => ?_, fun v _ _ u hu _ => hu, fun p hp => ?_⟩
  · by_cases g : D v
    · obtain ⟨a, b, _⟩ := (hτ v).1 g e
      exact ⟨a, b⟩
    · rw [(hτ v).2 g]
      obtain ⟨a, b⟩ := r2 v ⟨hv, g⟩ e
      exact ⟨a, b.1⟩
  · by_cases inf : ∀ N, ∃ n, N ≤ n ∧ D (p n)
    · have hit : ∀ k n, d (p n) < k → D (p n) → ∃ m, n ≤ m ∧ G (p m) := by
        intro k
        induction k with
        | zero => intro n h; omega
        | succ k ih =>
          intro n hk hD
          by_cases g : G (p n)
          · exact ⟨n, Nat.le_refl _, g⟩
          · obtain ⟨p1, p2, p3⟩ := hp n
            have : D (p (n + 1)) ∧ d (p (n + 1)) < d (p n) := by
              by_cases e : own (p n) = i
              · rw [p3 e]
                exact ((hτ _).1 hD e).2.2 g
              · exact h4 _ hD g e _ (hp (n + 1)).1 p2
            obtain ⟨m, m1, m2⟩ := ih (n + 1) (by omega) this.1
            exact ⟨m, by omega, m2⟩
      refine ⟨c, hc, fun N => ?_, 0, fun n _ => hw _ (hp n).1⟩
      obtain ⟨n, n1, n2⟩ := inf N
      obtain ⟨m, m1, m2⟩ := hit _ n (Nat.lt_succ_self _) n2
      exact ⟨m, by omega, hg _ m2⟩
    · have : ∃ N, ∀ n, N ≤ n → ¬ D (p n) := Classical.byContradiction fun z => inf fun N => Classical.byContradiction fun y => z ⟨N, fun n hn hD => y ⟨n, hn, hD⟩⟩
      obtain ⟨N, hN⟩ := this
      refine wins.sh (k := N) (r4 _ fun n => ?_)
      have q := hp (n + N)
      refine ⟨⟨q.1, hN _ (by omega)⟩, ?_, fun e => ?_⟩
      · have := q.2.1
        rw [show n + N + 1 = n + 1 + N by omega] at this
        exact this
      · have := q.2.2 e
        rw [show n + N + 1 = n + 1 + N by omega, (hτ _).2 (hN _ (by omega))] at this
        exact this
theorem win_in {own w W : Nat → Nat} {S G D Z : Nat → Prop} {i j : Nat} {d : Nat → Nat} (hij : i ≠ j) (ho : ∀ v, S v → own v = i ∨ own v = j) (hG : drawn own W S G D j d) (hZ : WinS own w W (fun v => S v ∧ ¬ D v) Z i) : WinS own w W S Z i := by
  obtain ⟨h1, h2, h3, h4, h5, h6⟩ := hG
  obtain ⟨r1, σ, r2, r3, r4⟩ := hZ
  refine ⟨fun v hv => (r1 v hv).1, σ, r2, fun v hv e u hu hw => ?_, r4⟩
  have ej : own v = j := (ho v (r1 v hv).1).resolve_left e
  exact r3 v hv e u ⟨hu, fun z => h5 v (r1 v hv).1 (r1 v hv).2 ej u z hw⟩ hw
theorem win_more {own w W : Nat → Nat} {S A GA L D Y : Nat → Prop} {i j : Nat} {dA d : Nat → Nat} (hij : i ≠ j) (ho : ∀ v, S v → own v = i ∨ own v = j) (hA : drawn own W S GA A i dA) (hL : WinS own w W (fun v => S v ∧ ¬ A v) L j) (hD : drawn own W S L D j d) (hY : WinS own w W (fun v => S v ∧ ¬ D v) Y j) : WinS own w W S (fun v => D v ∨ Y v) j := by
  obtain ⟨a1, a2, a3, a4, a5, a6⟩ := hA
  obtain ⟨l1, σ, l2, l3, l4⟩ := hL
  obtain ⟨h1, h2, h3, h4, h5, h6⟩ := hD
  obtain ⟨y1, τ, y2, y3, y4⟩ := hY
  have ex : ∃ ρ : Nat → Nat, ∀ v, (L v → ρ v = σ v) ∧ (D v → ¬ L v → own v = j → (W v).testBit (ρ v) = true ∧ D (ρ v) ∧ d (ρ v) < d v) ∧ (¬ D v → ρ v = τ v) := by
    have dec : ∀ v, ∃ u, (L v → u = σ v) ∧ (D v → ¬ L v → own v = j → (W v).testBit u = true ∧ D u ∧ d u < d v) ∧ (¬ D v → u = τ v) := fun v => by
      by_cases e : L v
      · exact ⟨σ v, fun _ => rfl, fun _ z => absurd e z, fun z => absurd (h1 v e) z⟩
      · by_cases g : D v
        · by_cases o : own v = j
          · obtain ⟨u, u1, u2, u3⟩ := h3 v g e o
            exact ⟨u, fun z => absurd z e, fun _ _ _ => ⟨u1, u2, u3⟩, fun z => absurd g z⟩
          · exact ⟨0, fun z => absurd z e, fun _ _ z => absurd z o, fun z => absurd g z⟩
        · exact ⟨τ v, fun z => absurd z e, fun z => absurd z g, fun _ => rfl⟩
    exact ⟨fun v => (dec v).choose, fun v => (dec v).choose_spec⟩
  obtain ⟨ρ, hρ⟩ := ex
  have inS : ∀ v, D v ∨ Y v → S v := fun v hv => hv.elim (h2 v) (fun z => (y1 v z).1)
  have closL : ∀ v, L v → own v ≠ j → ∀ u, S u → (W v).testBit u = true → L u := fun v hv e u hu hw => by
    have ei : own v = i := (ho v (l1 v hv).1).resolve_right e
    exact l3 v hv e u ⟨hu, fun z => a5 v (l1 v hv).1 (l1 v hv).2 ei u z hw⟩ hw
  refine ⟨inS, ρ, fun v hv e => ?_, fun v hv e u hu hw => ?_, fun p hp => ?_⟩
  · by_cases l : L v
    · rw [(hρ v).1 l]
      obtain ⟨x, y⟩ := l2 v l e
      exact ⟨x, Or.inl (h1 _ y)⟩
    · by_cases g : D v
      · obtain ⟨x, y, _⟩ := (hρ v).2.1 g l e
        exact ⟨x, Or.inl y⟩
      · rw [(hρ v).2.2 g]
        obtain ⟨x, y⟩ := y2 v (hv.resolve_left g) e
        exact ⟨x, Or.inr y⟩
  · by_cases l : L v
    · exact Or.inl (h1 u (closL v l e u hu hw))
    · by_cases g : D v
      · exact Or.inl (h4 v g l e u hu hw).1
      · by_cases g2 : D u
        · exact Or.inl g2
        · exact Or.inr (y3 v (hv.resolve_left g) e u ⟨hu, g2⟩ hw)
  · have viaL : ∀ n, L (p n) → wins w j p := fun n hn => by
      have stay : ∀ k, L (p (k + n)) := fun k => by
        induction k with
        | zero =>
          rw [Nat.zero_add]
          exact hn
        | succ k ih =>
          obtain ⟨q1, q2, q3⟩ := hp (k + n)
          rw [show k + 1 + n = k + n + 1 by omega]
          by_cases e : own (p (k + n)) = j
          · rw [q3 e, (hρ _).1 ih]
            exact (l2 _ ih e).2
          · exact closL _ ih e _ (inS _ (hp (k + n + 1)).1) q2
      refine wins.sh (k := n) (l4 _ fun k => ⟨stay k, ?_, fun e => ?_⟩)
      · have := (hp (k + n)).2.1
        rw [show k + n + 1 = k + 1 + n by omega] at this
        exact this
      · have := (hp (k + n)).2.2 e
        rw [show k + n + 1 = k + 1 + n by omega, (hρ _).1 (stay k)] at this
        exact this
    have viaD : ∀ k n, d (p n) < k → D (p n) → wins w j p := by
      intro k
      induction k with
      | zero => intro n h; omega
      | succ k ih =>
        intro n hk hD
        by_cases l : L (p n)
        · exact viaL n l
        · obtain ⟨q1, q2, q3⟩ := hp n
          have : D (p (n + 1)) ∧ d (p (n + 1)) < d (p n) := by
            by_cases e : own (p n) = j
            · rw [q3 e]
              exact ((hρ _).2.1 hD l e).2
            · exact h4 _ hD l e _ (inS _ (hp (n + 1)).1) q2
          exact ih (n + 1) (by omega) this.1
    by_cases some_ : ∃ n, D (p n)
    · obtain ⟨n, hn⟩ := some_
      exact viaD _ n (Nat.lt_succ_self _) hn
    · have nD : ∀ n, ¬ D (p n) := fun n z => some_ ⟨n, z⟩
      refine y4 p fun n => ⟨(hp n).1.resolve_left (nD n), (hp n).2.1, fun e => ?_⟩
      rw [(hp n).2.2 e, (hρ _).2.2 (nD n)]
end
