section
/-- an array of arrays of a type can be made (named by the printed rows below; no kit has it: REPORT, TRANSLATOR 3) -/
def va_AOA (ty : FieldType) (U : State) : Prop := (Cond.arrayOver (.array ty)).before #[] U = true
theorem va_AOA.use {ty : FieldType} {A : Array Value} {U : State} (h : va_AOA ty U) : (Cond.arrayOver (.array ty)).before A U = true := h
end
/-! ===== BEGIN new T[n][m]: the outer array a place, the inner ones among the pooled ===== -/
/-- f, but v at every address of l -/
def vr_up {α : Type} (f : Nat → α) (l : List Nat) (v : α) : Nat → α := fun a => if a ∈ l then v else f a
theorem vr_up_in {α : Type} {f : Nat → α} {l : List Nat} {v : α} {a : Nat} (h : a ∈ l) : vr_up f l v a = v := if_pos h
theorem vr_up_ne {α : Type} {f : Nat → α} {l : List Nat} {v : α} {a : Nat} (h : a ∉ l) : vr_up f l v a = f a := if_neg h
theorem vr_rows {L l : List Nat} {f : Nat → va_E} {e : va_E} (h : ∀ a, a ∈ l → a ∉ L) : va_pl L f ++ l.map (fun a => (a, e)) = va_pl (L ++ l) (vr_up f l e) := by
  unfold va_pl
  rw [List.map_append]
  congr 1
  · apply List.map_congr_left
    intro a ha
    rw [vr_up_ne (fun q => h a q ha)]
  · apply List.map_congr_left
    intro a ha
    rw [vr_up_in ha]
theorem vr_lay {X rows : va_W} {x : Nat × va_E} {pl : va_W} {D : va_G} {cl : List vw_C} {H : Heap} (hP : va_P D cl (((X ++ pl) ++ [x]) ++ rows) H) : va_P D cl ((X ++ [x]) ++ (pl ++ rows)) H := by
  rw [List.append_assoc (X ++ pl)] at hP
  have h := va_P.swap hP
  rw [← List.append_assoc X] at h
  have h2 := va_P.swap h
  rw [List.append_assoc (X ++ [x])] at h2
  exact h2
theorem vr_layD {X rows : va_W} {x : Nat × va_E} {pl : va_W} {A : Nat → Prop} (hD : va_D A (((X ++ pl) ++ [x]) ++ rows)) : va_D A ((X ++ [x]) ++ (pl ++ rows)) := by
  rw [List.append_assoc (X ++ pl)] at hD
  have h := va_D.swap hD
  rw [← List.append_assoc X] at h
  have h2 := va_D.swap h
  rw [List.append_assoc (X ++ [x])] at h2
  exact h2
theorem vr_outer (c : ClassId) (N h0 : Nat) : ∀ i : Nat, Jvm.Free.Multi.outerC c N h0 i = arrV c N (fun j => va_rf (if j < i then some (h0 + 1 + j) else none))
  | 0 => by
    show ({ cls := c, slots := Array.replicate N .null, vm := .none } : Cell) = _
    rw [arrV_new]
    refine congrArg (arrV c N) (funext fun j => ?_)
    simp [va_rf]
  | i + 1 => by
    show (Jvm.Free.Multi.outerC c N h0 i).setSlot i (.ref (h0 + 1 + i)) = _
    rw [vr_outer c N h0 i, arrV_store]
    refine congrArg (arrV c N) (funext fun j => ?_)
    by_cases e : j = i
    · subst e
      simp [updV, va_rf]
    · by_cases h : j < i
      · simp [updV, e, h, Nat.lt_succ_of_lt h]
      · simp [updV, e, h, show ¬ j < i + 1 by omega]
section VGM
variable {p : Program} {l : Launch} {e : Env} {R : Room} {s : State} {m : MethodId} {args : Array Value} {below : List Frame} {meth : Method} {c : Code} {H : Heap} {locs : List Loc} {cells slots : Nat} {Q : State → Prop}
variable {cc : ByteArray} {pc : Nat} {ls : Array Slot} {rest : List Value} {D : va_G} {cl : List vw_C} {A : Nat → Prop} {a : Nat} {tys : List (ClassId × FieldType)} {ws : va_W} {H0 : Heap}
theorem va_mna {X : va_W} {L : List Nat} {f : Nat → va_E} {cc : ByteArray} (hexec : p.tables.exec = Jvm.exec) (hb : c.code = cc) {own : String} {index : Nat} {ty : FieldType} {cy : ClassId} (hown : s.vm.findClass own = some m.cls) (hclink : (Cond.classLink own index ("[" ++ (FieldType.array ty).toString)).before args s = true) (hover : va_AOA ty s) (harr : (Cond.arrayClass ty).before args s = true) (hcy : s.vm.findClass (FieldType.array ty).toString = some cy)
    (hK : va_K D cl tys s) (hP : va_P D cl (X ++ va_pl L f) H) (hD : va_D A (X ++ va_pl L f)) (hS : va_S A H0 H locs) (hA : ∀ q, H0.size ≤ q → A q) {n k : Int32} {N' K' : Nat} {z : vp_A} (hn : ¬ n < 0) (hk : ¬ k < 0) (hN : n.toNatClampNeg = N') (hM : k.toNatClampNeg = K')
    (hb1 : N' * 4 ≤ 536870912) (hb2 : K' * componentBytes ty ≤ 536870912) (hb3 : K' ≤ 536870912) (hdf : fits ty (defaultValue ty) = true) (hdd : (defaultValue ty).isDefault = true) (hcells : cells + (1 + N') ≤ R.cells) (hslots : slots + (N' + N' * K') ≤ R.slots) (hz : ∀ c : ClassId, Jvm.Free.Multi.innerC c K' (defaultValue ty) = vp_cell c z) (hdg : decode cc pc = .ok (.multianewarray index 2, 4))
    (kk : ∀ (q : Nat) (r : Nat → Nat) (cA : ClassId) (H1 : Heap), (∀ i j : Nat, i < N' → j < N' → r i = r j → i = j) → (∀ i : Nat, i < N' → r i ∉ L) → va_K D cl (tys ++ [(cA, .array ty)]) s →
      va_P D cl ((X ++ [(q, .inl (cA, N', .inr (.inr (.inr (.inr (fun i => if i < N' then some (r i) else none))))))]) ++ va_pl (L ++ (List.range N').map r) (vr_up f ((List.range N').map r) (.inl (cy, z)))) H1 → va_D A ((X ++ [(q, .inl (cA, N', .inr (.inr (.inr (.inr (fun i => if i < N' then some (r i) else none))))))]) ++ va_pl (L ++ (List.range N').map r) (vr_up f ((List.range N').map r) (.inl (cy, z)))) → va_S A H0 H1 locs →
      W p l e R s m args below meth c H1 locs (cells + 1 + N') (slots + N' + N' * K') Q (F0 m (pc + 4) ls (.ref q :: rest))) : W p l e R s m args below meth c H locs cells slots Q (F0 m pc ls (.int k :: .int n :: rest)) := by
  subst hN
  subst hM
  intro T hT Xs
  obtain ⟨vm₁, cA, comp, -, fA, fC, hO, -, X', step⟩ := Xs.multianewarray2F hexec hown hclink (va_AOA.use hover) harr (g := F0 m pc ls (.int k :: .int n :: rest)) rfl (by rw [hb]; exact hdg) rfl hn hk hb1 hb2 hb3 hdf hdd hcells hslots
  have ec : some cy = some comp := hcy.symm.trans fC
  cases ec
  generalize hF : Jvm.Free.Multi.fill (T.setVm vm₁) cA cy n.toNatClampNeg k.toNatClampNeg (defaultValue ty) n.toNatClampNeg = F at X' step
  have hTh : (T.setVm vm₁).heap = H := hT
  obtain ⟨f1, f2, -, -⟩ := Jvm.Free.Multi.fill_facts (T.setVm vm₁) cA cy n.toNatClampNeg k.toNatClampNeg (defaultValue ty) n.toNatClampNeg
  rw [hF, hTh] at f1 f2
  have hold : ∀ x : Nat, x < H.size → F.heap[x]? = H[x]? := fun x hx => by
    have := Jvm.Free.Multi.fill_old (T.setVm vm₁) cA cy n.toNatClampNeg k.toNatClampNeg (defaultValue ty) (a := x) (by rw [hTh]; exact hx) n.toNatClampNeg
    rw [hF, hTh] at this
    exact this
  have hrow : ∀ j : Nat, j < n.toNatClampNeg → F.heap[H.size + 1 + j]? = some (vp_cell cy z) := fun j hj => by
    have := Jvm.Free.Multi.fill_inner (T.setVm vm₁) cA cy n.toNatClampNeg k.toNatClampNeg (defaultValue ty) n.toNatClampNeg j hj
    rw [hF, hTh, hz] at this
    exact this
  have hout : Jvm.Free.Multi.outerC cA n.toNatClampNeg H.size n.toNatClampNeg = vp_cell cA (n.toNatClampNeg, .inr (.inr (.inr (.inr (fun i => if i < n.toNatClampNeg then some (H.size + 1 + i) else none))))) := by
    rw [vp_cell_q]
    exact vr_outer cA n.toNatClampNeg H.size n.toNatClampNeg
  rw [hout] at f2
  have hlt : ∀ a, a ∈ L → a < H.size := fun a ha => by
    obtain ⟨k9, hk9⟩ := va_pl_get (X := X) (f := f) ha
    exact (hP k9 _ hk9).lt
  have hnl : ∀ i : Nat, i < n.toNatClampNeg → H.size + 1 + i ∉ L := fun i _ h => by
    have := hlt _ h
    omega
  have hnm : ∀ a, a ∈ (List.range n.toNatClampNeg).map (fun i => H.size + 1 + i) → a ∉ L := fun a ha h => by
    obtain ⟨i, -, rfl⟩ := List.mem_map.mp ha
    have := hlt _ h
    omega
  have hP0 : va_P D cl (X ++ va_pl L f) F.heap := hP.kept (fun k9 x hx => hold x.1 ((hP k9 x hx).lt))
  have hP1 : va_P D cl ((X ++ va_pl L f) ++ [(H.size, .inl (cA, n.toNatClampNeg, .inr (.inr (.inr (.inr (fun i => if i < n.toNatClampNeg then some (H.size + 1 + i) else none))))))]) F.heap := hP0.app (fun k9 x hx => by
    have h0 : k9 < 1 := (List.getElem?_eq_some_iff.mp hx).1
    rw [show k9 = 0 by omega] at hx
    cases hx
    exact f2)
  have hP2 : va_P D cl (((X ++ va_pl L f) ++ [(H.size, .inl (cA, n.toNatClampNeg, .inr (.inr (.inr (.inr (fun i => if i < n.toNatClampNeg then some (H.size + 1 + i) else none))))))]) ++ ((List.range n.toNatClampNeg).map (fun i => H.size + 1 + i)).map (fun a => (a, .inl (cy, z)))) F.heap := hP1.app (fun k9 x hx => by
    obtain ⟨a, ha, rfl⟩ := List.mem_map.mp (List.mem_of_getElem? hx)
    obtain ⟨i, hi, rfl⟩ := List.mem_map.mp ha
    exact hrow i (List.mem_range.mp hi))
  have hD2 : va_D A (((X ++ va_pl L f) ++ [(H.size, .inl (cA, n.toNatClampNeg, .inr (.inr (.inr (.inr (fun i => if i < n.toNatClampNeg then some (H.size + 1 + i) else none))))))]) ++ ((List.range n.toNatClampNeg).map (fun i => H.size + 1 + i)).map (fun a => (a, .inl (cy, z)))) := by
    have hD1 := hD.push (e := .inl (cA, n.toNatClampNeg, .inr (.inr (.inr (.inr (fun i => if i < n.toNatClampNeg then some (H.size + 1 + i) else none)))))) hP rfl (hA _ hS.1)
    generalize hW1 : (X ++ va_pl L f) ++ [(H.size, .inl (cA, n.toNatClampNeg, .inr (.inr (.inr (.inr (fun i => if i < n.toNatClampNeg then some (H.size + 1 + i) else none))))))] = W1 at hD1 hP1 ⊢
    have hle : ∀ (k9 : Nat) (x : Nat × va_E), W1[k9]? = some x → x.1 ≤ H.size := fun k9 x hx => by
      rw [← hW1] at hx
      by_cases hl : k9 < (X ++ va_pl L f).length
      · rw [List.getElem?_append_left hl] at hx
        exact Nat.le_of_lt ((hP k9 x hx).lt)
      · rw [List.getElem?_append_right (by omega)] at hx
        have h0 : k9 - (X ++ va_pl L f).length < 1 := (List.getElem?_eq_some_iff.mp hx).1
        rw [show k9 - (X ++ va_pl L f).length = 0 by omega] at hx
        cases hx
        exact Nat.le_refl _
    have hr : ∀ (k9 : Nat) (x : Nat × va_E), (((List.range n.toNatClampNeg).map (fun i => H.size + 1 + i)).map (fun a => ((a, .inl (cy, z)) : Nat × va_E)))[k9]? = some x → x.1 = H.size + 1 + k9 := fun k9 x hx => by
      rw [List.getElem?_map, List.getElem?_map] at hx
      by_cases h9 : k9 < n.toNatClampNeg
      · rw [List.getElem?_range h9] at hx
        cases hx
        rfl
      · have hn0 : (List.range n.toNatClampNeg)[k9]? = none := List.getElem?_eq_none (by rw [List.length_range]; omega)
        rw [hn0] at hx
        cases hx
    refine ⟨fun i j x y hi hj hxy => ?_, fun k9 x hx => ?_⟩
    · by_cases h1 : i < W1.length <;> by_cases h2 : j < W1.length
      · rw [List.getElem?_append_left h1] at hi
        rw [List.getElem?_append_left h2] at hj
        exact hD1.1 i j x y hi hj hxy
      · rw [List.getElem?_append_left h1] at hi
        rw [List.getElem?_append_right (by omega)] at hj
        have := hle _ _ hi
        have := hr _ _ hj
        omega
      · rw [List.getElem?_append_right (by omega)] at hi
        rw [List.getElem?_append_left h2] at hj
        have := hle _ _ hj
        have := hr _ _ hi
        omega
      · rw [List.getElem?_append_right (by omega)] at hi hj
        have := hr _ _ hi
        have := hr _ _ hj
        omega
    · by_cases h1 : k9 < W1.length
      · rw [List.getElem?_append_left h1] at hx
        exact hD1.2 k9 x hx
      · rw [List.getElem?_append_right (by omega)] at hx
        have := hr _ _ hx
        exact hA _ (by have := hS.1; omega)
  have hAr : ArrOfT s cA (.array ty) := fun N9 z9 => by
    obtain ⟨-, k9, hk9, cm9, hkk9⟩ := (hO 0 0 0).1
    exact ⟨(fun q hq => by cases hq), k9, hk9, cm9, hkk9⟩
  have hK2 : va_K D cl (tys ++ [(cA, .array ty)]) s := ⟨hK.1, fun k9 x hx => by
    by_cases hl : k9 < tys.length
    · rw [List.getElem?_append_left hl] at hx
      exact hK.2 k9 x hx
    · rw [List.getElem?_append_right (by omega)] at hx
      have h0 : k9 - tys.length < 1 := (List.getElem?_eq_some_iff.mp hx).1
      rw [show k9 - tys.length = 0 by omega] at hx
      cases hx
      exact ⟨hAr, fA⟩⟩
  obtain ⟨t, a1, b1⟩ := kk H.size (fun i => H.size + 1 + i) cA F.heap (fun i j _ _ h => by have h9 : H.size + 1 + i = H.size + 1 + j := h; omega) hnl hK2 (by rw [← vr_rows hnm]; exact vr_lay hP2) (by rw [← vr_rows hnm]; exact vr_layD hD2) ⟨by rw [f1]; have := hS.1; omega, fun x h1 h2 => (hold x (Nat.lt_of_lt_of_le h1 hS.1)).trans (hS.2.1 x h1 h2), hS.2.2⟩ F rfl X'
  refine ⟨t, step t ?_, b1⟩
  have e : T.heap.size = H.size := by rw [hT]
  rw [e]
  exact a1
end VGM
/-! ===== END ===== -/
section
/-- nothing is asked of a pool while it is being made -/
def wkTT (_S : wPS) : Prop := True
/-- the method that walks is a constructor -/
def wkIni (X : wkX) : Prop := match X with
  | (_, _, _, _, _, _, _, meth, _, _, _, _, _, _) => meth.name = "<init>"
/-- arrays of references that can be made -/
def wkMk (g : wkG) : Prop := ∀ (A : Nat → Prop) (U : State) (H : Heap), wkRo g A U H → va_AO "Witnessworks$Entry" U ∧ va_AO "Witnessworks$Claim" U ∧ va_AOA .int U ∧ va_AOA .long U
theorem wkExt_newO {S S1 : wPS} {q kd : Nat} (e : S1 = wnO S q kd) (hq : ¬ q ∈ S.L) : wkExt S S1 ∧ wkIs S1 q kd := by
  subst e
  refine ⟨fun a k ha => ⟨List.mem_append_left _ ha.1, ?_⟩, List.mem_append_right _ (List.mem_singleton.mpr rfl), va_up_self ..⟩
  have : a ≠ q := fun z => hq (z ▸ ha.1)
  exact (va_up_ne S.K kd this).trans ha.2
theorem wkExt_newI {S S1 : wPS} {q kd z : Nat} {f : Nat → Int32} (e : S1 = wnI S q kd z f) (hq : ¬ q ∈ S.L) : wkExt S S1 ∧ wkIs S1 q kd := by
  subst e
  refine ⟨fun a k ha => ⟨List.mem_append_left _ ha.1, ?_⟩, List.mem_append_right _ (List.mem_singleton.mpr rfl), va_up_self ..⟩
  have : a ≠ q := fun z => hq (z ▸ ha.1)
  exact (va_up_ne S.K kd this).trans ha.2
theorem wkExt_newJ {S S1 : wPS} {q z : Nat} {f : Nat → Int64} (e : S1 = wnJ S q z f) (hq : ¬ q ∈ S.L) : wkExt S S1 ∧ wkIs S1 q 14 := by
  subst e
  refine ⟨fun a k ha => ⟨List.mem_append_left _ ha.1, ?_⟩, List.mem_append_right _ (List.mem_singleton.mpr rfl), va_up_self ..⟩
  have : a ≠ q := fun z => hq (z ▸ ha.1)
  exact (va_up_ne S.K 14 this).trans ha.2
theorem wkExt_newA {S S1 : wPS} {q kd z : Nat} {f : Nat → Option Nat} (e : S1 = wnA S q kd z f) (hq : ¬ q ∈ S.L) : wkExt S S1 ∧ wkIs S1 q kd := by
  subst e
  refine ⟨fun a k ha => ⟨List.mem_append_left _ ha.1, ?_⟩, List.mem_append_right _ (List.mem_singleton.mpr rfl), va_up_self ..⟩
  have : a ≠ q := fun z => hq (z ▸ ha.1)
  exact (va_up_ne S.K kd this).trans ha.2
/-- a table of z rows, each of m numbers -/
abbrev wnT (S : wPS) (q ko ki z m : Nat) (Rw : List Nat) (r : Nat → Nat) : wPS := (q :: (S.L ++ Rw), va_up (vr_up S.K Rw ki) q ko, S.fI, S.fJ, S.fA, va_up (vr_up S.len Rw m) q z, vr_up S.rI Rw (fun _ => 0), vr_up S.rJ Rw (fun _ => 0), va_up S.rA q (fun i => if i < z then some (r i) else none))
theorem wkExt_newT {S S1 : wPS} {q ko ki z m : Nat} {Rw : List Nat} {r : Nat → Nat} (e : S1 = wnT S q ko ki z m Rw r) (hq : ¬ q ∈ S.L) (hr : ∀ a, a ∈ Rw → ¬ a ∈ S.L) : wkExt S S1 ∧ wkIs S1 q ko := by
  subst e
  refine ⟨fun a k ha => ⟨List.mem_cons_of_mem _ (List.mem_append_left _ ha.1), ?_⟩, List.mem_cons_self, va_up_self ..⟩
  have h1 : a ≠ q := fun z => hq (z ▸ ha.1)
  have h2 : a ∉ Rw := fun z => hr a z ha.1
  exact (va_up_ne _ ko h1).trans ((vr_up_ne h2).trans ha.2)
theorem wkCons {M : List Nat} {f : Nat → va_E} {q : Nat} {e : va_E} (h : ¬ q ∈ M) : ([] ++ [(q, e)]) ++ va_pl M f = va_pl (q :: M) (va_up f q e) := by
  show (q, e) :: va_pl M f = (q, va_up f q e q) :: va_pl M (va_up f q e)
  rw [va_up_self]
  congr 1
  apply List.map_congr_left
  intro b hb
  have : b ≠ q := fun z => h (z ▸ hb)
  rw [va_up_ne f e this]
theorem wkNotHead {A : Nat → Prop} {M : List Nat} {f : Nat → va_E} {q : Nat} {e : va_E} (h : va_D A (([] ++ [(q, e)]) ++ va_pl M f)) : ¬ q ∈ M := by
  intro hq
  obtain ⟨i, hi⟩ := List.getElem?_of_mem (show (q, f q) ∈ va_pl M f from List.mem_map.mpr ⟨q, hq, rfl⟩)
  have h2 : (([] ++ [(q, e)]) ++ va_pl M f)[i + 1]? = some (q, f q) := hi
  have := h.1 0 (i + 1) _ _ rfl h2 rfl
  omega
theorem wNwT_I (cy : Nat → ClassId) (S : wPS) (q z m : Nat) (Rw : List Nat) (r : Nat → Nat) (b : Nat) : va_up (vr_up (wkF cy S) Rw (.inl (cy 1, m, .inl (fun _ => 0)))) q (.inl (cy 5, z, .inr (.inr (.inr (.inr (fun i => if i < z then some (r i) else none)))))) b = wkF cy (wnT S q 17 13 z m Rw r) b := by
  by_cases hb : b = q
  · subst hb
    simp [wkF, va_up, wPS.K, wPS.len, wPS.rA]
  · by_cases hr : b ∈ Rw
    · simp [wkF, va_up, vr_up, hb, hr, wPS.K, wPS.len, wPS.rI, wPS.rJ]
    · simp [wkF, va_up, vr_up, hb, hr, wPS.K, wPS.fI, wPS.fJ, wPS.fA, wPS.len, wPS.rI, wPS.rJ, wPS.rA]
theorem wNwT_J (cy : Nat → ClassId) (S : wPS) (q z m : Nat) (Rw : List Nat) (r : Nat → Nat) (b : Nat) : va_up (vr_up (wkF cy S) Rw (.inl (cy 2, m, .inr (.inl (fun _ => 0))))) q (.inl (cy 6, z, .inr (.inr (.inr (.inr (fun i => if i < z then some (r i) else none)))))) b = wkF cy (wnT S q 18 14 z m Rw r) b := by
  by_cases hb : b = q
  · subst hb
    simp [wkF, va_up, wPS.K, wPS.len, wPS.rA]
  · by_cases hr : b ∈ Rw
    · simp [wkF, va_up, vr_up, hb, hr, wPS.K, wPS.len, wPS.rI, wPS.rJ]
    · simp [wkF, va_up, vr_up, hb, hr, wPS.K, wPS.fI, wPS.fJ, wPS.fA, wPS.len, wPS.rI, wPS.rJ, wPS.rA]
variable {l : Launch} {X : wkX} {cc : ByteArray} {own : String} {nL : Nat} {Ts : List Cond} {cells slots pc : Nat} {S : wPS} {lv : wkLv} {st rest : List Value}
theorem wk_newO (C : wkC X cc own nL Ts) {d k n : Nat} (hR : wkRm X d k n) {index ci N kd : Nat} {Cn : String} {T : u_T} {fs : List Value} (hin : ∀ w ∈ u_ws Cn T N, w ∈ Ts) (hcl : Cond.classLink own index Cn ∈ Ts) (hinst : Cond.instantiable Cn N ∈ Ts) (hini : Cond.initialized Cn ∈ Ts) (hc : vwCl[ci]? = some (Cn, T, N)) {ty0 : Nat → FieldType} (hty : ∀ k, k < N → parseFieldDescriptor (T k).2.2.1 = some (ty0 k)) (hfs : ∀ j, j < N → defaultValue (ty0 j) = vp_V fs j)
    (hN : ∀ (cy : Nat → ClassId) (S : wPS) (a b : Nat), va_up (wkF cy S) a (.inr (ci, fs)) b = wkF cy (wnO S a kd) b) (hk : cells + 1 ≤ k) (hs : slots + N ≤ n) (hd : decode cc pc = .ok (.new index, 3))
    (kk : ∀ q : Nat, ¬ q ∈ S.L → wkGo l X nL (cells + 1) (slots + N) (pc + 3) (wnO S q kd) lv (.ref q :: rest)) : wkGo l X nL cells slots pc S lv rest := by
  obtain ⟨p, e, R, s, m, args, below, meth, c, Q, D, A, cy, g⟩ := X
  intro H locs ls hP hD hS hl
  obtain ⟨⟨hx, hb, hml, hown, hts⟩, hK, hA, hNw, hG⟩ := C
  have hR : R = { frames := d, cells := k, slots := n, locals := 80 * d } := hR
  subst hR
  refine va_new hx hb hts hin ty0 hty hown (hts _ hcl) (hts _ hinst) (hts _ hini) hK hP hD hS hA hc hfs hk hs hd (fun q H1 hP1 hD1 hS1 => ?_)
  have hq := wkNot hD1
  rw [va_pl_push hq, va_pl_congr (hN cy S q)] at hP1 hD1
  exact kk q hq H1 locs ls hP1 hD1 hS1 hl
theorem wk_newC (C : wkC X cc own nL Ts) {d k n : Nat} (hR : wkRm X d k n) {m : Int32} (hw : Cond.arrayClass .char ∈ Ts) (hm : ¬ m < 0) (hc : cells + 1 ≤ k) (hs : slots + m.toNatClampNeg ≤ n) (hb8 : m.toNatClampNeg * 8 ≤ 536870912) (hd : decode cc pc = .ok (.newarray .char, 2))
    (kk : ∀ q : Nat, ¬ q ∈ S.L → wkGo l X nL (cells + 1) (slots + m.toNatClampNeg) (pc + 2) (wnI S q 12 m.toNatClampNeg (fun _ => 0)) lv (.ref q :: rest)) : wkGo l X nL cells slots pc S lv (.int m :: rest) := by
  obtain ⟨p, e, R, s, m0, args, below, meth, c, Q, D, A, cy, g⟩ := X
  intro H locs ls hP hD hS hl
  obtain ⟨⟨hx, hb, hml, hown, hts⟩, hK, hA, hNw, hG⟩ := C
  have hR : R = { frames := d, cells := k, slots := n, locals := 80 * d } := hR
  subst hR
  refine va_newa (atype := .char) (ty := .char) hx hb (hts _ hw) rfl hK hP hD hS hA (a0 := (m.toNatClampNeg, .inl fun _ => 0)) (fun cA => rfl) hm rfl (by show m.toNatClampNeg * 2 ≤ 536870912; omega) hc hs hd (fun q cA H1 hK1 hP1 hD1 hS1 => ?_)
  have hcy : cA = cy 0 := Option.some.inj ((hK1.2 7 _ rfl).2.symm.trans (hK.2 0 _ rfl).2)
  subst hcy
  have hq := wkNot hD1
  rw [va_pl_push hq, va_pl_congr (wNw_12 cy S q m.toNatClampNeg (fun _ => 0))] at hP1 hD1
  exact kk q hq H1 locs ls hP1 hD1 hS1 hl
theorem wk_newJ (C : wkC X cc own nL Ts) {d k n : Nat} (hR : wkRm X d k n) {m : Int32} (hw : Cond.arrayClass .long ∈ Ts) (hm : ¬ m < 0) (hc : cells + 1 ≤ k) (hs : slots + m.toNatClampNeg ≤ n) (hb8 : m.toNatClampNeg * 8 ≤ 536870912) (hd : decode cc pc = .ok (.newarray .long, 2))
    (kk : ∀ q : Nat, ¬ q ∈ S.L → wkGo l X nL (cells + 1) (slots + m.toNatClampNeg) (pc + 2) (wnJ S q m.toNatClampNeg (fun _ => 0)) lv (.ref q :: rest)) : wkGo l X nL cells slots pc S lv (.int m :: rest) := by
  obtain ⟨p, e, R, s, m0, args, below, meth, c, Q, D, A, cy, g⟩ := X
  intro H locs ls hP hD hS hl
  obtain ⟨⟨hx, hb, hml, hown, hts⟩, hK, hA, hNw, hG⟩ := C
  have hR : R = { frames := d, cells := k, slots := n, locals := 80 * d } := hR
  subst hR
  refine va_newa (atype := .long) (ty := .long) hx hb (hts _ hw) rfl hK hP hD hS hA (a0 := (m.toNatClampNeg, .inr (.inl fun _ => 0))) (fun cA => rfl) hm rfl (by show m.toNatClampNeg * 8 ≤ 536870912; omega) hc hs hd (fun q cA H1 hK1 hP1 hD1 hS1 => ?_)
  have hcy : cA = cy 2 := Option.some.inj ((hK1.2 7 _ rfl).2.symm.trans (hK.2 2 _ rfl).2)
  subst hcy
  have hq := wkNot hD1
  rw [va_pl_push hq, va_pl_congr (wNw_14 cy S q m.toNatClampNeg (fun _ => 0))] at hP1 hD1
  exact kk q hq H1 locs ls hP1 hD1 hS1 hl
theorem wk_anewEntry (C : wkC X cc own nL Ts) {d k n : Nat} (hR : wkRm X d k n) (hmk : wkMk (wkXg X)) {index : Nat} {m : Int32} (hcl : Cond.classLink own index "Witnessworks$Entry" ∈ Ts) (hm : ¬ m < 0) (hc : cells + 1 ≤ k) (hs : slots + m.toNatClampNeg ≤ n) (hb4 : m.toNatClampNeg * 4 ≤ 536870912) (hd : decode cc pc = .ok (.anewarray index, 3))
    (kk : ∀ q : Nat, ¬ q ∈ S.L → wkGo l X nL (cells + 1) (slots + m.toNatClampNeg) (pc + 3) (wnA S q 16 m.toNatClampNeg (fun _ => none)) lv (.ref q :: rest)) : wkGo l X nL cells slots pc S lv (.int m :: rest) := by
  obtain ⟨p, e, R, s, m0, args, below, meth, c, Q, D, A, cy, g⟩ := X
  intro H locs ls hP hD hS hl
  obtain ⟨⟨hx, hb, hml, hown, hts⟩, hK, hA, hNw, hG⟩ := C
  have hR : R = { frames := d, cells := k, slots := n, locals := 80 * d } := hR
  subst hR
  refine va_newq hx hb hown (hts _ hcl) (hmk A s s.heap hG).1 hK hP hD hS hA hm rfl hb4 hc hs hd (fun q cA H1 hK1 hP1 hD1 hS1 => ?_)
  obtain ⟨-, -, -, -, -, f1⟩ := (hK1.2 7 _ rfl).2
  obtain ⟨-, -, -, -, -, f2⟩ := (hK.2 4 _ rfl).2
  have hcy : cA = cy 4 := Option.some.inj (f1.symm.trans f2)
  subst hcy
  have hq := wkNot hD1
  rw [va_pl_push hq, va_pl_congr (wNw_16 cy S q m.toNatClampNeg (fun _ => none))] at hP1 hD1
  exact kk q hq H1 locs ls hP1 hD1 hS1 hl
theorem wk_anewClaim (C : wkC X cc own nL Ts) {d k n : Nat} (hR : wkRm X d k n) (hmk : wkMk (wkXg X)) {index : Nat} {m : Int32} (hcl : Cond.classLink own index "Witnessworks$Claim" ∈ Ts) (hm : ¬ m < 0) (hc : cells + 1 ≤ k) (hs : slots + m.toNatClampNeg ≤ n) (hb4 : m.toNatClampNeg * 4 ≤ 536870912) (hd : decode cc pc = .ok (.anewarray index, 3))
    (kk : ∀ q : Nat, ¬ q ∈ S.L → wkGo l X nL (cells + 1) (slots + m.toNatClampNeg) (pc + 3) (wnA S q 15 m.toNatClampNeg (fun _ => none)) lv (.ref q :: rest)) : wkGo l X nL cells slots pc S lv (.int m :: rest) := by
  obtain ⟨p, e, R, s, m0, args, below, meth, c, Q, D, A, cy, g⟩ := X
  intro H locs ls hP hD hS hl
  obtain ⟨⟨hx, hb, hml, hown, hts⟩, hK, hA, hNw, hG⟩ := C
  have hR : R = { frames := d, cells := k, slots := n, locals := 80 * d } := hR
  subst hR
  refine va_newq hx hb hown (hts _ hcl) (hmk A s s.heap hG).2.1 hK hP hD hS hA hm rfl hb4 hc hs hd (fun q cA H1 hK1 hP1 hD1 hS1 => ?_)
  obtain ⟨-, -, -, -, -, f1⟩ := (hK1.2 7 _ rfl).2
  obtain ⟨-, -, -, -, -, f2⟩ := (hK.2 3 _ rfl).2
  have hcy : cA = cy 3 := Option.some.inj (f1.symm.trans f2)
  subst hcy
  have hq := wkNot hD1
  rw [va_pl_push hq, va_pl_congr (wNw_15 cy S q m.toNatClampNeg (fun _ => none))] at hP1 hD1
  exact kk q hq H1 locs ls hP1 hD1 hS1 hl
theorem wk_mnaI (C : wkC X cc own nL Ts) {d k n : Nat} (hR : wkRm X d k n) (hmk : wkMk (wkXg X)) {index : Nat} {a b : Int32} (hcl : Cond.classLink own index "[[I" ∈ Ts) (hw : Cond.arrayClass .int ∈ Ts) (ha : ¬ a < 0) (hb0 : ¬ b < 0) (hb1 : a.toNatClampNeg * 4 ≤ 536870912) (hb2 : b.toNatClampNeg * 8 ≤ 536870912) (hc : cells + (1 + a.toNatClampNeg) ≤ k) (hs : slots + (a.toNatClampNeg + a.toNatClampNeg * b.toNatClampNeg) ≤ n) (hd : decode cc pc = .ok (.multianewarray index 2, 4))
    (kk : ∀ (q : Nat) (r : Nat → Nat), (∀ i j : Nat, i < a.toNatClampNeg → j < a.toNatClampNeg → r i = r j → i = j) → (∀ i : Nat, i < a.toNatClampNeg → ¬ r i ∈ S.L) → ¬ q ∈ S.L ++ (List.range a.toNatClampNeg).map r → wkGo l X nL (cells + 1 + a.toNatClampNeg) (slots + a.toNatClampNeg + a.toNatClampNeg * b.toNatClampNeg) (pc + 4) (wnT S q 17 13 a.toNatClampNeg b.toNatClampNeg ((List.range a.toNatClampNeg).map r) r) lv (.ref q :: rest)) : wkGo l X nL cells slots pc S lv (.int b :: .int a :: rest) := by
  obtain ⟨p, e, R, s, m, args, below, meth, c, Q, D, A, cy, g⟩ := X
  intro H locs ls hP hD hS hl
  obtain ⟨⟨hx, hb, hml, hown, hts⟩, hK, hA, hNw, hG⟩ := C
  have hR : R = { frames := d, cells := k, slots := n, locals := 80 * d } := hR
  subst hR
  refine va_mna (X := []) (L := S.L) (f := wkF cy S) (ty := .int) (cy := cy 1) (z := (b.toNatClampNeg, .inl (fun _ => 0))) hx hb hown (show (Cond.classLink own index ("[" ++ (FieldType.array .int).toString)).before args s = true from hts _ hcl) (hmk A s s.heap hG).2.2.1 (hts _ hw) (hK.2 1 _ rfl).2 hK hP hD hS hA ha hb0 rfl rfl hb1 (by show b.toNatClampNeg * 4 ≤ 536870912; omega) (by omega) rfl rfl hc hs (fun cA => by
    show ({ cls := cA, slots := Array.replicate _ _, vm := .none } : Cell) = _
    rw [arrV_new]
    rfl) hd (fun q r cA H1 hi hr hK1 hP1 hD1 hS1 => ?_)
  have hcy : cA = cy 5 := Option.some.inj ((hK1.2 7 _ rfl).2.symm.trans (hK.2 5 _ rfl).2)
  subst hcy
  have hq := wkNotHead hD1
  rw [wkCons hq, va_pl_congr (wNwT_I cy S q a.toNatClampNeg b.toNatClampNeg ((List.range a.toNatClampNeg).map r) r)] at hP1 hD1
  exact kk q r hi hr hq H1 locs ls hP1 hD1 hS1 hl
theorem wk_mnaJ (C : wkC X cc own nL Ts) {d k n : Nat} (hR : wkRm X d k n) (hmk : wkMk (wkXg X)) {index : Nat} {a b : Int32} (hcl : Cond.classLink own index "[[J" ∈ Ts) (hw : Cond.arrayClass .long ∈ Ts) (ha : ¬ a < 0) (hb0 : ¬ b < 0) (hb1 : a.toNatClampNeg * 4 ≤ 536870912) (hb2 : b.toNatClampNeg * 8 ≤ 536870912) (hc : cells + (1 + a.toNatClampNeg) ≤ k) (hs : slots + (a.toNatClampNeg + a.toNatClampNeg * b.toNatClampNeg) ≤ n) (hd : decode cc pc = .ok (.multianewarray index 2, 4))
    (kk : ∀ (q : Nat) (r : Nat → Nat), (∀ i j : Nat, i < a.toNatClampNeg → j < a.toNatClampNeg → r i = r j → i = j) → (∀ i : Nat, i < a.toNatClampNeg → ¬ r i ∈ S.L) → ¬ q ∈ S.L ++ (List.range a.toNatClampNeg).map r → wkGo l X nL (cells + 1 + a.toNatClampNeg) (slots + a.toNatClampNeg + a.toNatClampNeg * b.toNatClampNeg) (pc + 4) (wnT S q 18 14 a.toNatClampNeg b.toNatClampNeg ((List.range a.toNatClampNeg).map r) r) lv (.ref q :: rest)) : wkGo l X nL cells slots pc S lv (.int b :: .int a :: rest) := by
  obtain ⟨p, e, R, s, m, args, below, meth, c, Q, D, A, cy, g⟩ := X
  intro H locs ls hP hD hS hl
  obtain ⟨⟨hx, hb, hml, hown, hts⟩, hK, hA, hNw, hG⟩ := C
  have hR : R = { frames := d, cells := k, slots := n, locals := 80 * d } := hR
  subst hR
  refine va_mna (X := []) (L := S.L) (f := wkF cy S) (ty := .long) (cy := cy 2) (z := (b.toNatClampNeg, .inr (.inl (fun _ => 0)))) hx hb hown (show (Cond.classLink own index ("[" ++ (FieldType.array .long).toString)).before args s = true from hts _ hcl) (hmk A s s.heap hG).2.2.2 (hts _ hw) (hK.2 2 _ rfl).2 hK hP hD hS hA ha hb0 rfl rfl hb1 (by show b.toNatClampNeg * 8 ≤ 536870912; omega) (by omega) rfl rfl hc hs (fun cA => by
    show ({ cls := cA, slots := Array.replicate _ _, vm := .none } : Cell) = _
    rw [arrV_new]
    rfl) hd (fun q r cA H1 hi hr hK1 hP1 hD1 hS1 => ?_)
  have hcy : cA = cy 6 := Option.some.inj ((hK1.2 7 _ rfl).2.symm.trans (hK.2 6 _ rfl).2)
  subst hcy
  have hq := wkNotHead hD1
  rw [wkCons hq, va_pl_congr (wNwT_J cy S q a.toNatClampNeg b.toNatClampNeg ((List.range a.toNatClampNeg).map r) r)] at hP1 hD1
  exact kk q r hi hr hq H1 locs ls hP1 hD1 hS1 hl
theorem wk_aastEntry (C : wkC X cc own nL Ts) {a v : Nat} {i : Int32} {S' : wPS} (hL : a ∈ S.L) (hk : S.K a = 16) (hin : vp_in i (S.len a)) (hLv : v ∈ S.L) (hkv : S.K v = 3) (hS' : wuRef S a i v = S') (hd : decode cc pc = .ok (.aastore, 1)) (k : wkGo l X nL cells slots (pc + 1) S' lv rest) : wkGo l X nL cells slots pc S lv (.ref v :: .int i :: .ref a :: rest) := by
  obtain ⟨p, e, R, s, m, args, below, meth, c, Q, D, A, cy, g⟩ := X
  intro H locs ls hP hD hS hl
  obtain ⟨⟨hx, hb, hml, hown, hts⟩, hK, hA, hNw, hG⟩ := C
  subst hS'
  obtain ⟨q, hq0, hq⟩ := wkAt hL (wAt_16 cy S hk)
  obtain ⟨qv, -, hqv⟩ := wkAt hLv (wAt_3 cy S hkv)
  have hset := wkSet hD hL hq0 (wSt_16 cy S hk (va_up (S.rA a) i.toNatClampNeg (some v))) rfl
  refine va_astq hx hb hK hP hD hS q 4 qv 5 hq rfl hqv rfl hin hd (fun H1 locs1 hP1 hD1 hS1 => ?_)
  rw [hset] at hP1 hD1
  exact k H1 locs1 ls hP1 hD1 hS1 hl
theorem wk_putF (C : wkC X cc own nL Ts) (hI : wkIni X) {a index ci N : Nat} {Cn ref : String} {T : u_T} {fs : List Value} (hin : ∀ w ∈ u_ws Cn T N, w ∈ Ts) (hL : a ∈ S.L) (he : ∀ cy : Nat → ClassId, wkF cy S a = .inr (ci, fs)) (hc : vwCl[ci]? = some (Cn, T, N)) (j : Nat) (hj : j < N) (hlink : Cond.fieldLink own index ref (T j).2.1 (T j).2.2.1 ∈ Ts) (href : ref = (T j).1) {ty0 : Nat → FieldType} (hty : ∀ k, k < N → parseFieldDescriptor (T k).2.2.1 = some (ty0 k)) (hnm : ∀ a, a < N → ∀ b, b < N → a ≠ b → (T a).2.1 ≠ (T b).2.1) (hfin : (T j).2.2.2 = true) (hdecl : (T j).1 = own) {ty : FieldType} {v : Value} (hpd : parseFieldDescriptor (T j).2.2.1 = some ty) (hn : narrow ty v = v) (hfit : fits ty v = true) (hlen : j < fs.length) {S' : wPS} (hS' : ∀ (cy : Nat → ClassId) (b : Nat), va_up (wkF cy S) a (.inr (ci, fs.set j v)) b = wkF cy S' b) (hL' : S'.L = S.L) (hd : decode cc pc = .ok (.putfield index, 3)) (k : wkGo l X nL cells slots (pc + 3) S' lv rest) : wkGo l X nL cells slots pc S lv (v :: .ref a :: rest) := by
  obtain ⟨p, e, R, s, m, args, below, meth, c, Q, D, A, cy, g⟩ := X
  intro H locs ls hP hD hS hl
  obtain ⟨⟨hx, hb, hml, hown, hts⟩, hK, hA, hNw, hG⟩ := C
  have hI : meth.name = "<init>" := hI
  obtain ⟨q, hq0, hq⟩ := wkAt hL (he cy)
  have hset := wkSet hD hL hq0 (hS' cy) hL'
  refine va_putF hx hb hts hin ty0 hty hnm hown hK hP hD hS q hq hc j hj (hts _ hlink) (fun x h => by rw [href]; exact h) hfin hI hdecl hpd hn hfit hlen hd (fun H1 locs1 hP1 hD1 hS1 => ?_)
  rw [hset] at hP1 hD1
  exact k H1 locs1 ls hP1 hD1 hS1 hl
theorem wk_objInit (C : wkC X cc own nL Ts) {d k n : Nat} (hR : wkRm X d k n) {index a : Nat} (h1 : Cond.methodLink own index Lib.objectInit ∈ Ts) (h2 : Cond.instanceMethod Lib.objectInit ∈ Ts) (h3 : Cond.code Lib.objectInit ⟨#[0xb1]⟩ 1 none ∈ Ts) (hd1 : 1 ≤ d) (hcat : (rest.map fun v => v.category).sum ≤ 8) (hd : decode cc pc = .ok (.invokespecial index, 3)) (kk : wkGo l X nL cells slots (pc + 3) S lv rest) : wkGo l X nL cells slots pc S lv (.ref a :: rest) := by
  obtain ⟨p, e, R, s, m, args, below, meth, c, Q, D, A, cy, g⟩ := X
  intro H locs ls hP hD hS hl
  obtain ⟨⟨hx, hb, hml, hown, hts⟩, hK, hA, hNw, hG⟩ := C
  have hR : R = { frames := d, cells := k, slots := n, locals := 80 * d } := hR
  subst hR
  have hr : 2 * (F0 m pc ls (.ref a :: rest)).monitorRoom + (rest.map fun v => v.category).sum ≤ 8 := lv_room hcat
  exact W.objInit hx hb hown (hts _ h1) (hts _ h2) (hts _ h3) (g := F0 m pc ls (.ref a :: rest)) rfl (hl.1.trans hml.symm) rfl hd hd1 (by show _ ≤ 80 * d; omega) (kk H locs ls hP hD hS hl)
set_option maxHeartbeats 1000000 in
theorem wk_callI (C : wkC X cc own nL Ts) {d k n : Nat} (hR : wkRm X d k n) {y : MethodName} {host : String} {bytes : ByteArray} {maxL d0 k0 n0 b index cnt : Nat} {ws ws' : List Cond} {As : List Value} {Post : Option Value → wPS → Prop}
    (hM : wkMet l (wkXg X) y ws d0 k0 n0 (.ref b :: As) S Post) (hw : ws = Cond.code y bytes maxL none :: ws') (hg : GoodIn Ts ws) (hNst : (own, index, y, host) ∈ wkNs) (hnm : y.name = "<init>") (hins : Cond.instanceMethod y ∈ Ts) (hini : Cond.initialized y.cls ∈ Ts) (hd0 : d0 + 1 ≤ d) (hmax : maxL ≤ 60)
    (hpl : y.cls ≠ "java/lang/invoke/MethodHandle" ∧ y.cls ≠ "java/lang/invoke/VarHandle" ∧ (parseMethodDescriptor y.desc).map (fun d => d.parameters.length) = some cnt)
    (hn : As.length = cnt) (hst : st = As.reverse ++ .ref b :: rest) (hcat : (rest.map fun v => v.category).sum ≤ 8) (hk : cells + k0 ≤ k) (hs : slots + n0 ≤ n) (hd : decode cc pc = .ok (.invokespecial index, 3))
    (kk : ∀ (v : Option Value) (S' : wPS), Post v S' → wkGo l X nL (cells + k0) (slots + n0) (pc + 3) S' lv (v.toList ++ rest)) : wkGo l X nL cells slots pc S lv st := by
  obtain ⟨p, e, R, s, m, args, below, meth, c, Q, D, A, cy, g⟩ := X
  intro H locs ls hP hD hS hl
  obtain ⟨⟨hx, hb, hml, hown, hts⟩, hK, hA, hNw, hG⟩ := C
  have hR : R = { frames := d, cells := k, slots := n, locals := 80 * d } := hR
  subst hR
  subst hst
  refine wk_back (as := (Value.ref b :: As).toArray) hA hD hS hl (va_runIN (As := As) (rest := rest) ⟨hx, hb, hml, hown, hts⟩ (hM D cy H.size) ⟨va_cnB cnt hts hg hw rfl rfl (hNw _ hNst) (hts _ hini) hpl ⟨hd0, ?_⟩, hnm, hts _ hins⟩ ⟨wk_blind, fun U hU hW => ⟨rfl, by rw [hU], by rw [hU]; exact hP, va_K.moved hW.alike hK, hD.weaken (fun _ _ _ _ => trivial), wkNw.warm hW hNw, wkRo.call hG hS hD hW hU⟩⟩ rfl hn hl.1 rfl (lv_room hcat) hd ⟨hk, hs⟩) kk
  show 8 + (maxL + 11) + 80 * d0 ≤ 80 * d
  omega
end
section
set_option maxHeartbeats 1000000 in
theorem wkMet_ofI {l : Launch} {g : wkG} {y : MethodName} {ws ws' : List Cond} {d k n : Nat} {as : List Value} {S : wPS} {Post : Option Value → wPS → Prop} {cc : ByteArray} {maxL : Nat} {ret : Option FieldType}
    (hy : plainFor y = true) (hnm : y.name = "<init>") (hw : ws = Cond.code y cc maxL ret :: ws') (hlen : (lg_sl as).length ≤ maxL)
    (body : ∀ X : wkX, wkXg X = g → wkC X cc y.cls maxL ws → wkRm X d k n → wkIni X → wkEnd l X cc maxL ret k n Post → wkGo l X maxL 0 0 0 S (wkEnt as maxL) []) : wkMet l g y ws d k n as S Post := by
  intro D cy sz
  refine wk_ofWF (cc := cc) (maxL := maxL) (ret := ret) hy hw ?_
  intro p e s m args below meth c s₁ B hml hv
  obtain ⟨rfl, hz, hP, hK, hD, hNw, hG⟩ := hv
  have hts := atoms_spec (ws := ws) B.pre
  have hown : s.vm.findClass y.cls = some m.cls := findClass_of_methodNamed B.named
  have hA : ∀ q : Nat, s.heap.size ≤ q → va_A (va_pl S.L (wkF cy S)) sz q := fun q hq => Or.inr (by omega)
  have h := body (p, e, { frames := d, cells := k, slots := n, locals := 80 * d }, s, m, as.toArray, below, meth, c, MQ below (fun _ u oc t => (∃ (v : Option Value) (S' : wPS), oc = .returned v ∧ Post v S' ∧ va_P D vwCl (va_pl S'.L (wkF cy S')) t.heap ∧ va_D (va_A (va_pl S.L (wkF cy S)) sz) (va_pl S'.L (wkF cy S'))) ∧ va_F (va_A (va_pl S.L (wkF cy S)) sz) u t) as.toArray s k n (va_A (va_pl S.L (wkF cy S)) sz), D, va_A (va_pl S.L (wkF cy S)) sz, cy, g) rfl
    ⟨⟨B.exec, B.bytes, hml, hown, hts⟩, hK, hA, hNw, hG⟩ rfl ((name_of_methodNamed B.named B.method).1.trans hnm) ?_
  · rw [lg_entry_eq]
    exact h s.heap [] _ hP hD.self va_S.rf (wkEnt_ok hlen)
  · have hr := B.returns
    unfold wkEnd
    split
    · intro cells slots pc S' lv h1 h2 hd hp H locs ls hP hD hS hl
      exact W.widen h1 h2 (W.vret B.exec B.bytes hr (fun t ht _ => ⟨⟨none, S', rfl, hp, by rw [ht]; exact hP, hD⟩, hS.F ht⟩) hS.2.2 hd B.notSynchronized)
    · intro cells slots pc S' lv x h1 h2 hd hp H locs ls hP hD hS hl
      exact W.widen h1 h2 (W.lret B.exec B.bytes hr (fun t ht _ => ⟨⟨some (.long x), S', rfl, hp, by rw [ht]; exact hP, hD⟩, hS.F ht⟩) hS.2.2 hd B.notSynchronized)
    · intro cells slots pc S' lv x h1 h2 hd hp H locs ls hP hD hS hl
      exact W.widen h1 h2 (W.iret B.exec B.bytes hr (fun t ht _ => ⟨⟨some (.int x), S', rfl, hp, by rw [ht]; exact hP, hD⟩, hS.F ht⟩) hS.2.2 hd B.notSynchronized)
    · intro cells slots pc S' lv x h1 h2 hd hn hp H locs ls hP hD hS hl
      exact W.widen h1 h2 (W.zret B.exec B.bytes hr hn (fun t ht _ => ⟨⟨some (.int x), S', rfl, hp, by rw [ht]; exact hP, hD⟩, hS.F ht⟩) hS.2.2 hd B.notSynchronized)
    · intro cells slots pc S' lv x h1 h2 hd hn hp H locs ls hP hD hS hl
      exact W.widen h1 h2 (W.zret B.exec B.bytes hr hn (fun t ht _ => ⟨⟨some (.int x), S', rfl, hp, by rw [ht]; exact hP, hD⟩, hS.F ht⟩) hS.2.2 hd B.notSynchronized)
    · intro cells slots pc S' lv x h1 h2 hd hn hp H locs ls hP hD hS hl
      exact W.widen h1 h2 (W.zret B.exec B.bytes hr hn (fun t ht _ => ⟨⟨some (.int x), S', rfl, hp, by rw [ht]; exact hP, hD⟩, hS.F ht⟩) hS.2.2 hd B.notSynchronized)
    · intro cells slots pc S' lv a h1 h2 hd hp H locs ls hP hD hS hl
      exact W.widen h1 h2 (W.aret B.exec B.bytes hr (Or.inl ⟨_, rfl⟩) (Or.inr ⟨_, rfl⟩) (fun t ht _ => ⟨⟨some (.ref a), S', rfl, hp, by rw [ht]; exact hP, hD⟩, hS.F ht⟩) hS.2.2 hd B.notSynchronized)
    · intro cells slots pc S' lv a h1 h2 hd hp H locs ls hP hD hS hl
      exact W.widen h1 h2 (W.aret B.exec B.bytes hr (Or.inr ⟨_, rfl⟩) (Or.inr ⟨_, rfl⟩) (fun t ht _ => ⟨⟨some (.ref a), S', rfl, hp, by rw [ht]; exact hP, hD⟩, hS.F ht⟩) hS.2.2 hd B.notSynchronized)
    · trivial
end
