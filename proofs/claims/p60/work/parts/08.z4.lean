section
/-- the throws of the class: the links of the exception's class, of its text and of its maker, its name, its text -/
def wkThr : List (Nat × Nat × Nat × String × String) := [(79, 81, 83, "java/lang/IllegalArgumentException", "no such kind, size or bound"), (90, 92, 94, "java/lang/IllegalStateException", "the book is full"), (90, 122, 94, "java/lang/IllegalStateException", "no more items"), (79, 150, 83, "java/lang/IllegalArgumentException", "the kind cannot have this bound"), (79, 161, 83, "java/lang/IllegalArgumentException", "plus is -20 to 20"), (166, 168, 170, "java/lang/UnsupportedOperationException", "leaning would go round"), (166, 174, 170, "java/lang/UnsupportedOperationException", "it leans on nothing"), (79, 176, 83, "java/lang/IllegalArgumentException", "no such kind"), (166, 182, 170, "java/lang/UnsupportedOperationException", "it cannot be carried over"), (197, 199, 201, "java/util/NoSuchElementException", "nothing to undo"), (197, 219, 201, "java/util/NoSuchElementException", "it came from none"), (90, 342, 94, "java/lang/IllegalStateException", "there are 6 persons"), (90, 344, 94, "java/lang/IllegalStateException", "the typed row is full"), (166, 360, 170, "java/lang/UnsupportedOperationException", "the row is too long"), (166, 370, 170, "java/lang/UnsupportedOperationException", "it did not come so from another one"), (166, 376, 170, "java/lang/UnsupportedOperationException", "nothing can be brought back"), (386, 388, 390, "java/lang/IndexOutOfBoundsException", "no such person"), (90, 398, 94, "java/lang/IllegalStateException", "16 claims stand"), (386, 472, 390, "java/lang/IndexOutOfBoundsException", "no such entry"), (197, 474, 201, "java/util/NoSuchElementException", "no such place"), (79, 476, 83, "java/lang/IllegalArgumentException", "a number is out of range"), (79, 484, 83, "java/lang/IllegalArgumentException", "a number is not as its kind tells"), (166, 489, 170, "java/lang/UnsupportedOperationException", "another item is between these two")]
abbrev wkUp : List String := ["java/lang/RuntimeException", "java/lang/Exception"]
/-- what a throw reads: the words of its class and of those above (the maker of java/util/NoSuchElementException names its super by another entry) -/
def wtW (e : Nat × Nat × Nat × String × String) : List Cond := if e.2.2.2.1 = "java/util/NoSuchElementException" then wtAt "Witnessworks" e.2.2.1 e.2.2.2.1 wkUp else vx_atS "Witnessworks" e.2.2.1 e.2.2.2.1 wkUp
def wkExA (g : wkG) : Prop := ∀ (A : Nat → Prop) (U : State) (H : Heap), wkRo g A U H → vx_Zq Bundle.tN "UNASSIGNED_STACK" Bundle.steD A U H ∧ vx_Zq Bundle.tN "SUPPRESSED_SENTINEL" Bundle.listD A U H ∧ ∀ e ∈ wkThr, va_Nw (.classLink "Witnessworks" e.1 e.2.2.2.1) U ∧ va_Nw (.initialized e.2.2.2.1) U ∧ (∃ sa : Nat, vk_R "Witnessworks" e.2.1 e.2.2.2.2 sa U) ∧ ∀ w ∈ wtW e, w.before #[] U = true
theorem wkThr_fit : ∀ e ∈ wkThr, Bundle.fit e.2.2.2.1 = true := by decide +kernel
theorem wkUp_fit : ∀ n ∈ wkUp, Bundle.fit n = true := by decide +kernel
theorem wkThr_ot : ∀ e ∈ wkThr, ∀ w ∈ Cond.classLink "Witnessworks" e.1 e.2.2.2.1 :: Cond.initialized e.2.2.2.1 :: wtW e, vx_ot w = true := by decide +kernel
def wkMetX (l : Launch) (g : wkG) (y : MethodName) (ws : List Cond) (d k n : Nat) (as : List Value) (S : wPS) (Post : Option Value → wPS → Prop) (PX : String → wPS → Prop) : Prop :=
  ∀ (D : va_G) (cy : Nat → ClassId) (sz : Nat), vx_Met l y ws { frames := d, cells := k, slots := n, locals := 80 * d }
    (va_Pc as (fun U => U.heap.size = sz ∧ va_P D vwCl (va_pl S.L (wkF cy S)) U.heap ∧ va_K D vwCl (wkTys cy) U ∧ va_D (fun _ => True) (va_pl S.L (wkF cy S)) ∧ wkNw U ∧ wkRo g (va_A (va_pl S.L (wkF cy S)) sz) U U.heap))
    (fun _ u oc t => (∃ (v : Option Value) (S' : wPS), oc = .returned v ∧ Post v S' ∧ va_P D vwCl (va_pl S'.L (wkF cy S')) t.heap ∧ va_D (va_A (va_pl S.L (wkF cy S)) sz) (va_pl S'.L (wkF cy S'))) ∧ va_F (va_A (va_pl S.L (wkF cy S)) sz) u t)
    (fun E u t => (∃ S' : wPS, PX E S' ∧ va_P D vwCl (va_pl S'.L (wkF cy S')) t.heap ∧ va_D (va_A (va_pl S.L (wkF cy S)) sz) (va_pl S'.L (wkF cy S'))) ∧ va_F (va_A (va_pl S.L (wkF cy S)) sz) u t)
    k n (va_A (va_pl S.L (wkF cy S)) sz)
/-- an exception that comes back from a call goes on to the caller -/
def wkEndX (l : Launch) (X : wkX) (cc : ByteArray) (nL : Nat) (k n : Nat) (PX : String → wPS → Prop) : Prop := match X with
  | (p, e, R, s, m, args, below, meth, c, Q, D, A, cy, g) =>
    ∀ (cells slots pc : Nat) (S : wPS) (ls : Array Slot) (rest : List Value) (E : String) (ce : Cell) (q : Addr) (H : Heap) (locs : List Loc), va_P D vwCl (va_pl S.L (wkF cy S)) H → va_D A (va_pl S.L (wkF cy S)) → va_S A s.heap H locs → PX E S → cells ≤ k → slots ≤ n → H[q]? = some ce → ce.vm = .none → s.vm.findClass E = some ce.cls → vx_W p l e R s m args below meth c H locs cells slots Q (F0 m pc ls rest) q
/-- the throws of the method itself -/
def wkEndT (l : Launch) (X : wkX) (cc : ByteArray) (nL : Nat) (k n : Nat) (PX : String → wPS → Prop) : Prop :=
  ∀ (cells slots pc : Nat) (S : wPS) (lv : wkLv) (rest : List Value) (x : Nat × Nat × Nat × String × String), x ∈ wkThr → (rest.map fun v => v.category).sum ≤ 8 →
    ((decode cc pc = .ok (.new x.1, 3) ∧ decode cc (pc + 3) = .ok (.dup, 1) ∧ decode cc (pc + 4) = .ok (.ldc x.2.1, 2) ∧ decode cc (pc + 6) = .ok (.invokespecial x.2.2.1, 3) ∧ decode cc (pc + 9) = .ok (.athrow, 1)) ∨
     (decode cc pc = .ok (.new x.1, 3) ∧ decode cc (pc + 3) = .ok (.dup, 1) ∧ decode cc (pc + 4) = .ok (.ldc_w x.2.1, 3) ∧ decode cc (pc + 7) = .ok (.invokespecial x.2.2.1, 3) ∧ decode cc (pc + 10) = .ok (.athrow, 1))) →
    PX x.2.2.2.1 S → cells + 1 ≤ k → slots + 6 ≤ n → wkGo l X nL cells slots pc S lv rest
set_option maxHeartbeats 2000000 in
theorem wkMetX_of {l : Launch} {g : wkG} {y : MethodName} {ws ws' : List Cond} {d k n : Nat} {as : List Value} {S : wPS} {Post : Option Value → wPS → Prop} {PX : String → wPS → Prop} {cc : ByteArray} {maxL : Nat} {ret : Option FieldType}
    (hy : plainName y.cls = true) (hw : ws = Cond.code y cc maxL ret :: ws') (hlen : (lg_sl as).length ≤ maxL) (how : y.cls = "Witnessworks") (hex : wkExA g) (hlt : l.stackTraces = false) (hd6 : 6 ≤ d)
    (body : ∀ X : wkX, wkXg X = g → wkC X cc y.cls maxL ws → wkRm X d k n → wkEnd l X cc maxL ret k n Post → wkEndX l X cc maxL k n PX → wkEndT l X cc maxL k n PX → wkGo l X maxL 0 0 0 S (wkEnt as maxL) []) : wkMetX l g y ws d k n as S Post PX := by
  intro D cy sz
  refine vx_ofW (cc := cc) (maxL := maxL) (ret := ret) hy hw ?_
  intro p e s m args below meth c s₁ B hml htab hv
  obtain ⟨rfl, hz, hP, hK, hD, hNw, hG⟩ := hv
  have hts := atoms_spec (ws := ws) B.pre
  have hown : s.vm.findClass y.cls = some m.cls := findClass_of_methodNamed B.named
  have hA : ∀ q : Nat, s.heap.size ≤ q → va_A (va_pl S.L (wkF cy S)) sz q := fun q hq => Or.inr (by omega)
  have hout : ∀ (pc : Nat), ∀ x ∈ c.exceptionTable.toList, covers x pc = false := fun pc x hx => (htab x hx).elim
  have h := body (p, e, { frames := d, cells := k, slots := n, locals := 80 * d }, s, m, as.toArray, below, meth, c, vx_MQ below (fun _ u oc t => (∃ (v : Option Value) (S' : wPS), oc = .returned v ∧ Post v S' ∧ va_P D vwCl (va_pl S'.L (wkF cy S')) t.heap ∧ va_D (va_A (va_pl S.L (wkF cy S)) sz) (va_pl S'.L (wkF cy S'))) ∧ va_F (va_A (va_pl S.L (wkF cy S)) sz) u t) (fun E u t => (∃ S' : wPS, PX E S' ∧ va_P D vwCl (va_pl S'.L (wkF cy S')) t.heap ∧ va_D (va_A (va_pl S.L (wkF cy S)) sz) (va_pl S'.L (wkF cy S'))) ∧ va_F (va_A (va_pl S.L (wkF cy S)) sz) u t) as.toArray s k n (va_A (va_pl S.L (wkF cy S)) sz), D, va_A (va_pl S.L (wkF cy S)) sz, cy, g) rfl
    ⟨⟨B.exec, B.bytes, hml, hown, hts⟩, hK, hA, hNw, hG⟩ rfl ?_ ?_ ?_
  · rw [lg_entry_eq]
    exact h s.heap [] _ hP hD.self va_S.rf (wkEnt_ok hlen)
  · have hr := B.returns
    unfold wkEnd
    split
    · intro cells slots pc S' lv h1 h2 hd hp H locs ls hP hD hS hl
      exact vx_ret (W.widen h1 h2 (W.vret B.exec B.bytes hr (fun t ht _ => ⟨⟨none, S', rfl, hp, by rw [ht]; exact hP, hD⟩, hS.F ht⟩) hS.2.2 hd B.notSynchronized))
    · intro cells slots pc S' lv x h1 h2 hd hp H locs ls hP hD hS hl
      exact vx_ret (W.widen h1 h2 (W.lret B.exec B.bytes hr (fun t ht _ => ⟨⟨some (.long x), S', rfl, hp, by rw [ht]; exact hP, hD⟩, hS.F ht⟩) hS.2.2 hd B.notSynchronized))
    · intro cells slots pc S' lv x h1 h2 hd hp H locs ls hP hD hS hl
      exact vx_ret (W.widen h1 h2 (W.iret B.exec B.bytes hr (fun t ht _ => ⟨⟨some (.int x), S', rfl, hp, by rw [ht]; exact hP, hD⟩, hS.F ht⟩) hS.2.2 hd B.notSynchronized))
    · intro cells slots pc S' lv x h1 h2 hd hn hp H locs ls hP hD hS hl
      exact vx_ret (W.widen h1 h2 (W.zret B.exec B.bytes hr hn (fun t ht _ => ⟨⟨some (.int x), S', rfl, hp, by rw [ht]; exact hP, hD⟩, hS.F ht⟩) hS.2.2 hd B.notSynchronized))
    · intro cells slots pc S' lv x h1 h2 hd hn hp H locs ls hP hD hS hl
      exact vx_ret (W.widen h1 h2 (W.zret B.exec B.bytes hr hn (fun t ht _ => ⟨⟨some (.int x), S', rfl, hp, by rw [ht]; exact hP, hD⟩, hS.F ht⟩) hS.2.2 hd B.notSynchronized))
    · intro cells slots pc S' lv x h1 h2 hd hn hp H locs ls hP hD hS hl
      exact vx_ret (W.widen h1 h2 (W.zret B.exec B.bytes hr hn (fun t ht _ => ⟨⟨some (.int x), S', rfl, hp, by rw [ht]; exact hP, hD⟩, hS.F ht⟩) hS.2.2 hd B.notSynchronized))
    · intro cells slots pc S' lv a h1 h2 hd hp H locs ls hP hD hS hl
      exact vx_ret (W.widen h1 h2 (W.aret B.exec B.bytes hr (Or.inl ⟨_, rfl⟩) (Or.inr ⟨_, rfl⟩) (fun t ht _ => ⟨⟨some (.ref a), S', rfl, hp, by rw [ht]; exact hP, hD⟩, hS.F ht⟩) hS.2.2 hd B.notSynchronized))
    · intro cells slots pc S' lv a h1 h2 hd hp H locs ls hP hD hS hl
      exact vx_ret (W.widen h1 h2 (W.aret B.exec B.bytes hr (Or.inr ⟨_, rfl⟩) (Or.inr ⟨_, rfl⟩) (fun t ht _ => ⟨⟨some (.ref a), S', rfl, hp, by rw [ht]; exact hP, hD⟩, hS.F ht⟩) hS.2.2 hd B.notSynchronized))
    · trivial
  · intro cells slots pc S' ls rest E ce q H locs hP hD hS hp h1 h2 hce hcv hcl
    exact vx_out (hout pc) B.notSynchronized hce hcv hcl (fun t ht _ => ⟨⟨S', hp, by rw [ht]; exact hP, hD⟩, hS.F ht⟩) hS.2.2 h1 h2
  · intro cells slots pc S' lv rest x hx hcat hdec hp h1 h2 H locs ls hP hD hS hl
    obtain ⟨hU, hN, hall⟩ := hex _ _ _ hG
    obtain ⟨w1, w2, ⟨sa, w3⟩, w4⟩ := hall x hx
    have hot := wkThr_ot x hx
    have hat : ∀ w ∈ wtW x, w.before as.toArray s = true := fun w hw => vx_ot_at (State.WarmedH.refl s) rfl (hot w (List.mem_cons_of_mem _ (List.mem_cons_of_mem _ hw))) (w4 w hw)
    have hq : ∀ t : State, s.vm.Alike t.vm → H.size ≤ t.heap.size → (∀ q : Nat, q < H.size → t.heap[q]? = H[q]?) → (∃ S'' : wPS, PX x.2.2.2.1 S'' ∧ va_P D vwCl (va_pl S''.L (wkF cy S'')) t.heap ∧ va_D (va_A (va_pl S.L (wkF cy S)) sz) (va_pl S''.L (wkF cy S''))) ∧ va_F (va_A (va_pl S.L (wkF cy S)) sz) s t :=
      fun t _ hz hk => ⟨⟨S', hp, hP.kept (fun j y hj => hk y.1 ((hP j y hj).lt)), hD⟩, Nat.le_trans hS.1 hz, fun q hq1 hq2 => (hk q (Nat.lt_of_lt_of_le hq1 hS.1)).trans (hS.2.1 q hq1 hq2)⟩
    have hown' : s.vm.findClass "Witnessworks" = some m.cls := how ▸ hown
    by_cases hns : x.2.2.2.1 = "java/util/NoSuchElementException"
    · have ew : wtW x = wtAt "Witnessworks" x.2.2.1 x.2.2.2.1 wkUp := if_pos hns
      rw [ew] at hat hot
      rcases hdec with ⟨d0, d3, d4, d6, d9⟩ | ⟨d0, d3, d4, d6, d9⟩
      · exact wt_throwS B.exec B.bytes hlt hown' (wkThr_fit x hx) wkUp_fit (va_Nw.use rfl w1) (va_Nw.use rfl w2) w3 hat hot hU hN hS (hl.1.trans hml.symm) d0 d3 d4 d6 d9 (hout _) hd6 (by show _ + (13 * 3 + 43) ≤ 80 * d; omega) (Nat.le_trans h1 (Nat.le_refl _)) (Nat.le_trans h2 (Nat.le_refl _)) B.notSynchronized hq hS.2.2 h1 h2
      · exact wt_throwSW B.exec B.bytes hlt hown' (wkThr_fit x hx) wkUp_fit (va_Nw.use rfl w1) (va_Nw.use rfl w2) w3 hat hot hU hN hS (hl.1.trans hml.symm) d0 d3 d4 d6 d9 (hout _) hd6 (by show _ + (13 * 3 + 43) ≤ 80 * d; omega) (Nat.le_trans h1 (Nat.le_refl _)) (Nat.le_trans h2 (Nat.le_refl _)) B.notSynchronized hq hS.2.2 h1 h2
    · have ew : wtW x = vx_atS "Witnessworks" x.2.2.1 x.2.2.2.1 wkUp := if_neg hns
      rw [ew] at hat hot
      rcases hdec with ⟨d0, d3, d4, d6, d9⟩ | ⟨d0, d3, d4, d6, d9⟩
      · exact vx_throwS B.exec B.bytes hlt hown' (wkThr_fit x hx) wkUp_fit (va_Nw.use rfl w1) (va_Nw.use rfl w2) w3 hat hot hU hN hS (hl.1.trans hml.symm) d0 d3 d4 d6 d9 (hout _) hd6 (by show _ + (13 * 3 + 43) ≤ 80 * d; omega) (Nat.le_trans h1 (Nat.le_refl _)) (Nat.le_trans h2 (Nat.le_refl _)) B.notSynchronized hq hS.2.2 h1 h2
      · exact vx_throwSW B.exec B.bytes hlt hown' (wkThr_fit x hx) wkUp_fit (va_Nw.use rfl w1) (va_Nw.use rfl w2) w3 hat hot hU hN hS (hl.1.trans hml.symm) d0 d3 d4 d6 d9 (hout _) hd6 (by show _ + (13 * 3 + 43) ≤ 80 * d; omega) (Nat.le_trans h1 (Nat.le_refl _)) (Nat.le_trans h2 (Nat.le_refl _)) B.notSynchronized hq hS.2.2 h1 h2
variable {l : Launch} {X : wkX} {cc : ByteArray} {own : String} {nL : Nat} {Ts : List Cond} {cells slots pc : Nat} {S : wPS} {lv : wkLv} {st rest : List Value}
theorem wk_backX {p : Program} {e : Env} {R : Room} {s : State} {m : MethodId} {args : Array Value} {below : List Frame} {meth : Method} {c : Code} {Q : State → Prop} {D : va_G} {A : Nat → Prop} {cy : Nat → ClassId} {g : wkG} {H : Heap} {locs : List Loc} {ls : Array Slot} {k0 n0 : Nat} {as : Array Value} {Post : Option Value → wPS → Prop} {PX : String → wPS → Prop}
    (hA : ∀ q : Nat, s.heap.size ≤ q → A q) (hD : va_D A (va_pl S.L (wkF cy S))) (hS : va_S A s.heap H locs) (hl : wkLok ls nL lv)
    (hrun : vx_Run p l e R s m args below meth c H locs cells slots k0 n0 (F0 m pc ls st) rest ((fun _ u oc t => (∃ (v : Option Value) (S' : wPS), oc = .returned v ∧ Post v S' ∧ va_P D vwCl (va_pl S'.L (wkF cy S')) t.heap ∧ va_D (va_A (va_pl S.L (wkF cy S)) H.size) (va_pl S'.L (wkF cy S'))) ∧ va_F (va_A (va_pl S.L (wkF cy S)) H.size) u t : Array Value → State → Outcome → State → Prop) as)
      (fun E u t => (∃ S' : wPS, PX E S' ∧ va_P D vwCl (va_pl S'.L (wkF cy S')) t.heap ∧ va_D (va_A (va_pl S.L (wkF cy S)) H.size) (va_pl S'.L (wkF cy S'))) ∧ va_F (va_A (va_pl S.L (wkF cy S)) H.size) u t) (va_A (va_pl S.L (wkF cy S)) H.size))
    (kk : ∀ (v : Option Value) (S' : wPS), Post v S' → wkGo l (p, e, R, s, m, args, below, meth, c, Q, D, A, cy, g) nL (cells + k0) (slots + n0) (pc + 3) S' lv (v.toList ++ rest))
    (kx : ∀ (S' : wPS) (E : String) (ce : Cell) (q : Addr) (H1 : Heap) (locs1 : List Loc), PX E S' → va_P D vwCl (va_pl S'.L (wkF cy S')) H1 → va_D A (va_pl S'.L (wkF cy S')) → va_S A s.heap H1 locs1 → H1[q]? = some ce → ce.vm = .none → s.vm.findClass E = some ce.cls → vx_W p l e R s m args below meth c H1 locs1 (cells + k0) (slots + n0) Q (F0 m pc ls rest) q) : W p l e R s m args below meth c H locs cells slots Q (F0 m pc ls st) := by
  intro T hT X1
  have hfree : ∀ q : Nat, va_A (va_pl S.L (wkF cy S)) H.size q → A q := by
    rintro q (⟨j, x, h⟩ | h)
    · exact hD.2 j _ h
    · exact hA q (Nat.le_trans hS.1 h)
  rcases hrun T hT X1 with ⟨v, st₀, t, T', L, h0, X', hLoc, e1, e2, ⟨⟨v', S', hv, hp, hP1, hD1⟩, hz, hk⟩, stp⟩ | ⟨q, st₀, t, T', L, E, ce, h0, X', hLoc, e1, e2, ⟨⟨S', hp, hP1, hD1⟩, hz, hk⟩, hce, hcv, hcl, stp⟩
  · cases hv
    rw [h0] at hz hk
    obtain ⟨t2, a1, b1⟩ := kk v S' hp T'.heap (locs ++ L) ls (by rw [e1]; exact hP1) (hD1.weaken (fun _ _ _ h => hfree _ h))
      ⟨Nat.le_trans hS.1 (by rw [e1]; exact hz), fun q h1 h2 => by rw [e1, hk q (Nat.lt_of_lt_of_le h1 hS.1) (fun z => h2 (hfree q z))]; exact hS.2.1 q h1 h2, fun q hq => by
        rcases List.mem_append.mp hq with h | h
        · exact hS.2.2 q h
        · exact hfree _ (hLoc q h)⟩ hl T' rfl X'
    exact ⟨t2, stp t2 a1, b1⟩
  · rw [h0] at hz hk
    obtain ⟨t2, a1, b1⟩ := kx S' E ce q T'.heap (locs ++ L) hp (by rw [e1]; exact hP1) (hD1.weaken (fun _ _ _ h => hfree _ h))
      ⟨Nat.le_trans hS.1 (by rw [e1]; exact hz), fun q h1 h2 => by rw [e1, hk q (Nat.lt_of_lt_of_le h1 hS.1) (fun z => h2 (hfree q z))]; exact hS.2.1 q h1 h2, fun q hq => by
        rcases List.mem_append.mp hq with h | h
        · exact hS.2.2 q h
        · exact hfree _ (hLoc q h)⟩ (by rw [e1]; exact hce) hcv hcl T' rfl X'
    exact ⟨t2, stp.trans a1, b1⟩
set_option maxHeartbeats 1000000 in
theorem wk_callVX (C : wkC X cc own nL Ts) {d k n : Nat} (hR : wkRm X d k n) {y : MethodName} {bytes : ByteArray} {maxL d0 k0 n0 b index cnt ci N : Nat} {ret : Option FieldType} {ws ws' : List Cond} {As : List Value} {T : u_T} {fs : List Value} {Post : Option Value → wPS → Prop} {PX QX : String → wPS → Prop} (EX : wkEndX l X cc nL k n QX)
    (hM : wkMetX l (wkXg X) y ws d0 k0 n0 (.ref b :: As) S Post PX) (hw : ws = Cond.code y bytes maxL ret :: ws') (hg : GoodIn Ts (wsV own index y.cls y ws)) (hd0 : d0 + 1 ≤ d) (hmax : maxL ≤ 60)
    (hL : b ∈ S.L) (he : ∀ cy : Nat → ClassId, wkF cy S b = .inr (ci, fs)) (hc : vwCl[ci]? = some (y.cls, T, N)) (hpl : y.cls ≠ "java/lang/invoke/MethodHandle" ∧ y.cls ≠ "java/lang/invoke/VarHandle" ∧ (parseMethodDescriptor y.desc).map (fun d => d.parameters.length) = some cnt)
    (hn : As.length = cnt) (hst : st = As.reverse ++ .ref b :: rest) (hcat : (rest.map fun v => v.category).sum ≤ 8) (hk : cells + k0 ≤ k) (hs : slots + n0 ≤ n) (hd : decode cc pc = .ok (.invokevirtual index, 3)) (hpx : ∀ (E : String) (S' : wPS), PX E S' → QX E S')
    (kk : ∀ (v : Option Value) (S' : wPS), Post v S' → wkGo l X nL (cells + k0) (slots + n0) (pc + 3) S' lv (v.toList ++ rest)) : wkGo l X nL cells slots pc S lv st := by
  obtain ⟨p, e, R, s, m, args, below, meth, c, Q, D, A, cy, g⟩ := X
  intro H locs ls hP hD hS hl
  obtain ⟨⟨hx, hb, hml, hown, hts⟩, hK, hA, hNw, hG⟩ := C
  have hR : R = { frames := d, cells := k, slots := n, locals := 80 * d } := hR
  subst hR
  subst hst
  obtain ⟨q, -, hq⟩ := wkAt hL (he cy)
  refine wk_backX (as := (Value.ref b :: As).toArray) hA hD hS hl (vx_runV (As := As) (rest := rest) ⟨hx, hb, hml, hown, hts⟩ (hM D cy H.size) (cwV cnt hts hg hw rfl rfl ⟨rfl, hpl⟩ ⟨hd0, ?_⟩) ⟨wk_blind, va_recv hK hP hc hq, fun U hU hW => ⟨rfl, by rw [hU], by rw [hU]; exact hP, va_K.moved hW.alike hK, hD.weaken (fun _ _ _ _ => trivial), wkNw.warm hW hNw, wkRo.call hG hS hD hW hU⟩⟩ rfl hn hl.1 rfl (lv_room hcat) hd ⟨hk, hs⟩) kk
    (fun S' E ce q H1 locs1 hp hP1 hD1 hS1 hce hcv hcl => EX _ _ pc S' ls rest E ce q H1 locs1 hP1 hD1 hS1 (hpx E S' hp) hk hs hce hcv hcl)
  show 8 + (maxL + 11) + 80 * d0 ≤ 80 * d
  omega
set_option maxHeartbeats 1000000 in
theorem wk_callWX (C : wkC X cc own nL Ts) {d k n : Nat} (hR : wkRm X d k n) {y : MethodName} {bytes : ByteArray} {maxL d0 k0 n0 index cnt : Nat} {ret : Option FieldType} {ws ws' : List Cond} {As : List Value} {Post : Option Value → wPS → Prop} {PX QX : String → wPS → Prop} (EX : wkEndX l X cc nL k n QX)
    (hM : wkMetX l (wkXg X) y ws d0 k0 n0 As S Post PX) (hw : ws = Cond.code y bytes maxL ret :: ws') (hg : GoodIn Ts (va_wsS own index y ws)) (hd0 : d0 + 1 ≤ d) (hmax : maxL ≤ 60)
    (hpl : y.cls ≠ "java/lang/invoke/MethodHandle" ∧ y.cls ≠ "java/lang/invoke/VarHandle" ∧ (parseMethodDescriptor y.desc).map (fun d => d.parameters.length) = some cnt)
    (hn : As.length = cnt) (hst : st = As.reverse ++ rest) (hcat : (rest.map fun v => v.category).sum ≤ 8) (hk : cells + k0 ≤ k) (hs : slots + n0 ≤ n) (hd : decode cc pc = .ok (.invokestatic index, 3)) (hpx : ∀ (E : String) (S' : wPS), PX E S' → QX E S')
    (kk : ∀ (v : Option Value) (S' : wPS), Post v S' → wkGo l X nL (cells + k0) (slots + n0) (pc + 3) S' lv (v.toList ++ rest)) : wkGo l X nL cells slots pc S lv st := by
  obtain ⟨p, e, R, s, m, args, below, meth, c, Q, D, A, cy, g⟩ := X
  intro H locs ls hP hD hS hl
  obtain ⟨⟨hx, hb, hml, hown, hts⟩, hK, hA, hNw, hG⟩ := C
  have hR : R = { frames := d, cells := k, slots := n, locals := 80 * d } := hR
  subst hR
  subst hst
  refine wk_backX (as := As.toArray) hA hD hS hl (vx_runS (As := As) (rest := rest) ⟨hx, hb, hml, hown, hts⟩ (hM D cy H.size) (va_cwS cnt hts hg hw rfl rfl hpl ⟨hd0, ?_⟩) ⟨wk_blind, fun U hU hW => ⟨rfl, by rw [hU], by rw [hU]; exact hP, va_K.moved hW.alike hK, hD.weaken (fun _ _ _ _ => trivial), wkNw.warm hW hNw, wkRo.call hG hS hD hW hU⟩⟩ rfl hn hl.1 rfl (lv_room hcat) hd ⟨hk, hs⟩) kk
    (fun S' E ce q H1 locs1 hp hP1 hD1 hS1 hce hcv hcl => EX _ _ pc S' ls rest E ce q H1 locs1 hP1 hD1 hS1 (hpx E S' hp) hk hs hce hcv hcl)
  show 8 + (maxL + 11) + 80 * d0 ≤ 80 * d
  omega
end
