/-! THE PURE PART, inequalities: one exchange, in whole numbers; the division leaves nothing. -/
section
/-- a table over the columns a: what stands in it by the base rl -/
def tbD (a : Nat → Nat → Int) (R C : Nat) (T : Nat → Nat → Int) (rl cl : Nat → Nat) (lo : Int) : Prop := lo = det R (fun j => a (rl j)) ∧ (∀ r c, r < R → c ≤ C → T r c = det R (upC (fun j => a (rl j)) r (a (cl c)))) ∧ ∀ c i, c ≤ C → i < R → lo * a (cl c) i = dsz R (fun k => T k c * a (rl k) i)
def exT (T : Nat → Nat → Int) (lo : Int) (row col r c : Nat) : Int := if r = row then (if c = col then lo else T row c) else if c = col then -T r col else (T row col * T r c - T r col * T row c).tdiv lo
def exL (f : Nat → Nat) (k v : Nat) (j : Nat) : Nat := if j = k then v else f j
theorem dsz_neg {f : Nat → Int} : ∀ n, dsz n (fun i => -f i) = -dsz n f
  | 0 => rfl
  | n + 1 => by
    rw [dsz, dsz, dsz_neg n]
    omega
theorem exch_ok {a : Nat → Nat → Int} {R C : Nat} {T : Nat → Nat → Int} {rl cl : Nat → Nat} {lo : Int} {row col : Nat} (h : tbD a R C T rl cl lo) (h0 : lo ≠ 0) (hr : row < R) (hc : col < C) (hb : T row col ≠ 0) : tbD a R C (exT T lo row col) (exL rl row (cl col)) (exL cl col (rl row)) (T row col) ∧ ∀ r c, r < R → c ≤ C → r ≠ row → c ≠ col → lo * exT T lo row col r c = T row col * T r c - T r col * T row c := by
  obtain ⟨h1, h2, h3⟩ := h
  obtain ⟨B, hB⟩ : ∃ B : Nat → Nat → Int, B = fun j => a (rl j) := ⟨_, rfl⟩
  have Bk : ∀ j, B j = a (rl j) := fun j => by rw [hB]
  rw [← hB] at h1 h2
  obtain ⟨u, hu⟩ : ∃ u, u = a (cl col) := ⟨_, rfl⟩
  -- the new base
  have nb : ∀ j i, a (exL rl row (cl col) j) i = upC B row u j i := fun j i => by
    unfold exL upC
    by_cases e : j = row
    · rw [if_pos e, if_pos e, hu]
    · rw [if_neg e, if_neg e, Bk]
  have nbr : ∀ (r : Nat) (v : Nat → Int), det R (upC (fun j => a (exL rl row (cl col) j)) r v) = det R (upC (upC B row u) r v) := fun r v => det_c R (fun j i _ _ => by
    show (if j = r then v i else a (exL rl row (cl col) j) i) = if j = r then v i else upC B row u j i
    rw [nb])
  have by_ : T row col = det R (upC B row u) := by rw [h2 row col hr (by omega), hu]
  have ncl : ∀ c, c ≠ col → exL cl col (rl row) c = cl c := fun c hc => if_neg hc
  have exact_ : ∀ r c, r < R → c ≤ C → r ≠ row → c ≠ col → lo * det R (upC (upC B row u) r (a (cl c))) = T row col * T r c - T r col * T row c := fun r c hr' hc' h4 h5 => by
    have := det_two (M := B) (p := row) (r := r) (u := u) (v := a (cl c)) hr hr' (fun y => h4 y.symm) (fun i hi => by
      rw [← h1, h3 c i hc' hi]
      refine dsz_congr R (fun k hk => ?_)
      rw [h2 k c hk hc', Bk])
    rw [h1, this, by_, h2 r c hr' hc', h2 r col hr' (by omega), h2 row c hr hc', ← hu]
    generalize det R (upC B row (a (cl c))) = x
    generalize det R (upC B r u) = y
    grind
  have tab : ∀ r c, r < R → c ≤ C → exT T lo row col r c = det R (upC (upC B row u) r (a (exL cl col (rl row) c))) := fun r c hr' hc' => by
    unfold exT
    by_cases e : r = row
    · rw [if_pos e, e]
      have q : ∀ v : Nat → Int, det R (upC (upC B row u) row v) = det R (upC B row v) := fun v => det_c R (fun j i _ _ => by
        unfold upC
        by_cases f : j = row
        · rw [if_pos f, if_pos f]
        · rw [if_neg f, if_neg f, if_neg f])
      rw [q]
      by_cases f : c = col
      · rw [if_pos f, f, h1]
        refine det_c R (fun j i _ _ => ?_)
        unfold upC exL
        rw [if_pos rfl]
        by_cases g : j = row
        · rw [if_pos g, g, Bk]
        · rw [if_neg g]
      · rw [if_neg f, ncl c f]
        exact h2 row c hr hc'
    · rw [if_neg e]
      by_cases f : c = col
      · rw [if_pos f, f]
        -- u and the old column exchanged
        have two := det_two (M := B) (p := row) (r := r) (u := u) (v := B row) hr hr' (fun y => e y.symm) (fun i hi => by
          rw [dsz_1 (o := row) R hr (fun k hk hn => by
            rw [det_eq (M := upC B k (B row)) hk hr hn (fun i _ => by
              unfold upC
              rw [if_pos rfl, if_neg (fun y => hn y.symm)]), Int.zero_mul])]
          congr 1
          exact det_c R (fun j i _ _ => by
            unfold upC
            by_cases g : j = row
            · rw [if_pos g, g]
            · rw [if_neg g]))
        have z1 : det R (upC B r (B row)) = 0 := det_eq (a := r) (b := row) hr' hr e (fun i _ => by
          unfold upC
          rw [if_pos rfl, if_neg (fun y => e y.symm)])
        have z2 : det R (upC B row (B row)) = det R B := det_c R (fun j i _ _ => by
          unfold upC
          by_cases g : j = row
          · rw [if_pos g, g]
          · rw [if_neg g])
        rw [z1, z2, Int.mul_zero, Int.zero_sub, ← Int.mul_neg, ← h1] at two
        have two := Int.eq_of_mul_eq_mul_left h0 two
        have : exL cl col (rl row) col = rl row := if_pos rfl
        rw [this, ← Bk, two, h2 r col hr' (by omega), hu]
      · rw [if_neg f, ncl c f, ← exact_ r c hr' hc' e f, Int.mul_tdiv_cancel_left _ h0]
  refine ⟨⟨?_, fun r c hr' hc' => ?_, fun c i hc' hi => ?_⟩, fun r c hr' hc' h4 h5 => ?_⟩
  · rw [by_]
    exact det_c R (fun j i _ _ => (nb j i).symm)
  · rw [nbr]
    exact tab r c hr' hc'
  · -- the new rows make the column
    have nbk : ∀ k, a (exL rl row (cl col) k) i = if k = row then u i else B k i := fun k => nb k i
    have mc := h3 col i (by omega) hi
    rw [← hu] at mc
    have mc : lo * u i = dsz R (fun k => T k col * B k i) := by
      rw [mc]
      exact dsz_congr R (fun k _ => by rw [Bk])
    have sum : ∀ g : Nat → Int, dsz R (fun k => exT T lo row col k c * a (exL rl row (cl col) k) i) = dsz R (fun k => if k = row then exT T lo row col row c * u i else exT T lo row col k c * B k i) := fun _ => dsz_congr R (fun k hk => by
      rw [nbk k]
      by_cases e : k = row
      · rw [if_pos e, if_pos e, e]
      · rw [if_neg e, if_neg e])
    rw [sum (fun _ => 0), dsz_upd R hr]
    by_cases f : c = col
    · subst f
      have e1 : exL cl c (rl row) c = rl row := if_pos rfl
      have e2 : exT T lo row c row c = lo := by
        unfold exT
        rw [if_pos rfl, if_pos rfl]
      have e3 : dsz R (fun k => exT T lo row c k c * B k i) - exT T lo row c row c * B row i = -(dsz R (fun k => T k c * B k i) - T row c * B row i) := by
        have s1 := dsz_upd (f := fun k => exT T lo row c k c * B k i) (o := row) (x := 0) R hr
        have s2 := dsz_upd (f := fun k => -(T k c * B k i)) (o := row) (x := 0) R hr
        have s3 : dsz R (fun k => if k = row then 0 else exT T lo row c k c * B k i) = dsz R (fun k => if k = row then 0 else -(T k c * B k i)) := dsz_congr R (fun k hk => by
          by_cases g : k = row
          · rw [if_pos g, if_pos g]
          · rw [if_neg g, if_neg g]
            unfold exT
            rw [if_neg g, if_pos rfl, Int.neg_mul])
        rw [s3, s2, dsz_neg] at s1
        omega
      rw [e1, e2, ← Bk]
      rw [e2] at e3
      rw [e2] at *
      omega
    · rw [ncl c f]
      refine Int.eq_of_mul_eq_mul_left h0 ?_
      have e2 : exT T lo row col row c = T row c := by
        unfold exT
        rw [if_pos rfl, if_neg f]
      have s1 : lo * (dsz R (fun k => exT T lo row col k c * B k i) - exT T lo row col row c * B row i) = T row col * (dsz R (fun k => T k c * B k i) - T row c * B row i) - T row c * (dsz R (fun k => T k col * B k i) - T row col * B row i) := by
        have t1 := dsz_upd (f := fun k => exT T lo row col k c * B k i) (o := row) (x := 0) R hr
        have t2 := dsz_upd (f := fun k => T k c * B k i) (o := row) (x := 0) R hr
        have t3 := dsz_upd (f := fun k => T k col * B k i) (o := row) (x := 0) R hr
        have t4 : lo * dsz R (fun k => if k = row then 0 else exT T lo row col k c * B k i) = T row col * dsz R (fun k => if k = row then 0 else T k c * B k i) - T row c * dsz R (fun k => if k = row then 0 else T k col * B k i) := by
          rw [← dsz_mul, ← dsz_mul, Int.mul_comm (T row c), ← dsz_sub]
          refine dsz_congr R (fun k hk => ?_)
          show lo * (if k = row then 0 else exT T lo row col k c * B k i) = T row col * (if k = row then 0 else T k c * B k i) - (if k = row then 0 else T k col * B k i) * T row c
          by_cases g : k = row
          · rw [if_pos g, if_pos g, if_pos g]
            omega
          · rw [if_neg g, if_neg g, if_neg g, ← Int.mul_assoc, tab k c hk hc', ncl c f, exact_ k c hk hc' g f]
            generalize T row col = x
            generalize T k c = y
            generalize T k col = z
            generalize T row c = w
            generalize B k i = v
            grind
        have t1 : dsz R (fun k => if k = row then 0 else exT T lo row col k c * B k i) = dsz R (fun k => exT T lo row col k c * B k i) - exT T lo row col row c * B row i := by omega
        have t2 : dsz R (fun k => if k = row then 0 else T k c * B k i) = dsz R (fun k => T k c * B k i) - T row c * B row i := by omega
        have t3 : dsz R (fun k => if k = row then 0 else T k col * B k i) = dsz R (fun k => T k col * B k i) - T row col * B row i := by omega
        rw [t1, t2, t3] at t4
        exact t4
      have m2 : lo * a (cl c) i = dsz R (fun k => T k c * B k i) := by
        rw [h3 c i hc' hi]
        exact dsz_congr R (fun k _ => by rw [Bk])
      rw [← m2, ← mc] at s1
      rw [Int.mul_add, s1, e2]
      generalize T row col = x
      generalize T row c = y
      generalize a (cl c) i = z
      generalize B row i = w
      generalize u i = v
      grind
  · rw [tab r c hr' hc', ncl c h5]
    exact exact_ r c hr' hc' h4 h5
end
