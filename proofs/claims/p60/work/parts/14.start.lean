/-! THE START (gen39.py). -/
section
theorem ts_room {p : Program} {l : Launch} {e : Env} {R R' : Room} {s : State} {m : MethodId} {args : Array Value} {below : List Frame} {meth : Method} {c : Code} {H : Heap} {locs : List Loc} {cells slots : Nat} {Q : State → Prop} {g : JFrame} (hf : R'.frames ≤ R.frames) (hl : R'.locals ≤ R.locals) (hc : R'.cells ≤ R.cells) (hs : R'.slots ≤ R.slots) (h : W p l e R' s m args below meth c H locs cells slots Q g) : W p l e R s m args below meth c H locs cells slots Q g := by
  intro T hT X
  refine h T hT ⟨X.admits, X.cas, X.clock, X.frames, ?_, X.hears, X.method, X.code, X.here, X.tail, X.warmed, X.limits, X.bytes, X.same⟩
  have h := X.room
  simp only [State.hasRoom, Bool.and_eq_true, decide_eq_true_eq] at h ⊢
  obtain ⟨⟨⟨⟨h1, h2, h3, h4, h5, h6⟩, h7⟩, h8⟩, h9⟩ := h
  exact ⟨⟨⟨⟨by omega, by omega, by omega, by omega, by omega, h6⟩, by omega⟩, by omega⟩, h9⟩
/-- as lw_ret, in any room -/
theorem ts_ret {p : Program} {l : Launch} {e : Env} {R : Room} {s : State} {m : MethodId} {below : List Frame} {meth : Method} {c : Code} {b : Nat} (hx : p.tables.exec = Jvm.exec) (hb : c.code = code) (hr : meth.sig.returnType = ret) (hlocks : meth.locks = false) {pc : Nat} {H : Heap} {ls : Array Slot} (hdg : decode code pc = .ok (.ireturn, 1)) : W p l e R s m #[Value.ref b] below meth c H [] 600156 7295334 (lw_Z below #[Value.ref b] s) (F0 m pc ls [.int 1]) := by
  intro T hT X
  obtain ⟨fs, hret, hrun, hended, hW, hframe⟩ := X.leave (v := some (.int 1)) (hlocks := hlocks) (fun h => by rw [hr] at h; cases h)
  have hmeth' : T.vm.method? m = some meth := X.method'
  refine ⟨T.setFrames fs, ?_, .returned (some (.int 1)), hrun, hended, rfl, ⟨_, rfl⟩, hW, hframe⟩
  jvm_step X.here [X.here.top, hx, hb, hdg, hmeth', hr, ret, narrow_b1]
  (try refine ⟨rfl, ?_⟩); (try refine ⟨rfl, ?_⟩)
  first | (intro acts; rw [hret _ acts rfl rfl rfl]) | rw [hret _ _ rfl rfl rfl]
  exact Steps.refl _
def tsG : Cond := Jvm.Cond.and given_1 narrow_1
theorem tsF (is : List Nat) {own : List Cond} (h : is.map (fun i => (flatC tsG)[i]?) = own.map some) {args : Array Value} {s : State} (hg : tsG.before args s = true) : ∀ w ∈ own, w.before args s = true := fun w hw => by
  have h1 : some w ∈ own.map some := List.mem_map.mpr ⟨w, hw, rfl⟩
  rw [← h] at h1
  obtain ⟨i, _, hi⟩ := List.mem_map.mp h1
  exact flat_of_before _ hg w (List.mem_of_getElem? hi)
theorem tsM {α : Type} {f : α → Cond} {l : List α} {args : Array Value} {s : State} (h : ∀ w ∈ l.map f, w.before args s = true) {x : α} (hx : x ∈ l) : (f x).before args s = true := h _ (List.mem_map.mpr ⟨x, hx, rfl⟩)
theorem tsMt {α : Type} {f : α → Cond} {l : List α} (h : ∀ w ∈ l.map f, w ∈ lw_tbl) {x : α} (hx : x ∈ l) : f x ∈ lw_tbl := h _ (List.mem_map.mpr ⟨x, hx, rfl⟩)
theorem ts_warm {args a' : Array Value} {s U : State} {w : Cond} (hW : s.WarmedH U.vm) (hk : (w.onTables && w.keepsFace) = true) (h : w.before args s = true) : w.before a' U = true := by
  simp only [Bool.and_eq_true] at hk
  exact va_tabs hk.1 (rfl : (s.setVm U.vm).vm = U.vm) (Cond.before_shiftedFace (State.Shifted.of_warmed hW) w hk.2 h)
theorem ts_eqR {args : Array Value} {s : State} {t u : Term} {a : Nat} (h : (Cond.eq t u).before args s = true) (ht : t.eval args s none [] s = some (.ref a)) : u.eval args s none [] s = some (.ref a) := by
  cases hv : u.eval args s none [] s with
  | none => simp [Cond.before, Cond.holds, Cond.value, ht, hv] at h
  | some w =>
    simp only [Cond.before, Cond.holds, Cond.value, ht, hv] at h
    cases w <;> simp_all
abbrev tsB (s : State) : Nat → Prop := fun q => s.heap.size ≤ q
theorem tsB_no {s : State} : ∀ a : Nat, a < s.heap.size → ¬ tsB s a := fun _ h => Nat.not_le.mpr h
/-- what is only read: every cell of the start -/
def tsGm (f : Nat → Nat) (s : State) : wkG := (f, fun a => s.heap[a]?, fun U => s.WarmedH U.vm)
theorem tsRo0 {f : Nat → Nat} {s : State} : wkRo (tsGm f s) (tsB s) s s.heap := ⟨fun a c h => ⟨h, tsB_no a (Array.getElem?_eq_some_iff.mp h).1⟩, State.WarmedH.refl s, fun u U' hW h => State.WarmedH.trans h hW⟩
theorem tsRo {f : Nat → Nat} {s U : State} {A : Nat → Prop} {H : Heap} (h : wkRo (tsGm f s) A U H) : s.WarmedH U.vm ∧ (∀ a : Nat, a < s.heap.size → ¬ tsB s a → H[a]? = s.heap[a]?) ∧ ∀ q, A q → tsB s q := by
  obtain ⟨h1, h2, h3⟩ := h
  have k : ∀ a : Nat, a < s.heap.size → H[a]? = s.heap[a]? ∧ ¬ A a := fun a ha => by
    have e : s.heap[a]? = some (s.heap[a]'ha) := Array.getElem?_eq_getElem ha
    obtain ⟨z1, z2⟩ := h1 a _ e
    exact ⟨by rw [e]; exact z1, z2⟩
  exact ⟨h2, fun a ha _ => (k a ha).1, fun q hq => Nat.le_of_not_lt (fun z => (k q z).2 hq)⟩
variable {f : Nat → Nat} {s U : State} {A : Nat → Prop} {H : Heap}
theorem tsZ {C n d : String} {v : Value} (R : wkRo (tsGm f s) A U H) (h : va_Z C n d v (tsB s) s s.heap) : va_Z C n d v A U H := by
  obtain ⟨a1, a2, a3⟩ := tsRo R
  exact ((va_Z.moved a1.alike h).kept a2).narrow a3
theorem tsT' {ty : FieldType} {t N : Nat} {g : Nat → Value} (R : wkRo (tsGm f s) A U H) (h : va_T ty t N g (tsB s) s s.heap) : va_T ty t N g A U H := by
  obtain ⟨a1, a2, a3⟩ := tsRo R
  exact ((va_T.moved a1.alike h).kept a2).narrow a3
theorem tsO {E : String} {t : Nat} (R : wkRo (tsGm f s) A U H) (h : va_O E t (tsB s) s s.heap) : va_O E t A U H := by
  obtain ⟨a1, a2, a3⟩ := tsRo R
  exact ((va_O.moved a1.alike h).kept a2).narrow a3
theorem tsOF {C n d : String} {v : Value} {t : Nat} (R : wkRo (tsGm f s) A U H) (h : va_OF C n d v t (tsB s) s s.heap) : va_OF C n d v t A U H := by
  obtain ⟨a1, a2, a3⟩ := tsRo R
  exact ((va_OF.moved a1.alike h).kept a2).narrow a3
theorem tsQ {C n d : String} (R : wkRo (tsGm f s) A U H) (h : vx_Zq C n d (tsB s) s s.heap) : vx_Zq C n d A U H := by
  obtain ⟨a1, a2, a3⟩ := tsRo R
  exact ((vx_Zq.moved a1.alike h).kept a2).narrow a3
def tsAd (t : Nat → Nat) (a v m b L k : Nat) (xs : Nat → Int32) (i : Nat) : Nat := if i < 5 then t i else if i = 5 then a else if i = 6 then v else if i = 7 then m else if i = 8 then b else if i = 9 then L else if i = 10 then k else (xs (i - 100)).toBitVec.toNat
theorem ts_n32 (x : Int32) : Int32.ofNat x.toBitVec.toNat = x := by
  apply Int32.toBitVec_inj.mp
  show BitVec.ofNat 32 x.toBitVec.toNat = x.toBitVec
  simp
theorem tsAd_x {t : Nat → Nat} {a v m b L k : Nat} {xs : Nat → Int32} (j : Nat) : Int32.ofNat (tsAd t a v m b L k xs (100 + j)) = xs j := by
  unfold tsAd
  rw [if_neg (by omega), if_neg (by omega), if_neg (by omega), if_neg (by omega), if_neg (by omega), if_neg (by omega), if_neg (by omega), Nat.add_sub_cancel_left, ts_n32]
def tsStT (i : Nat) : Term := .static "Witnessworks" (wkSn i) "[I"
def tsSt (i : Nat) : List Cond := .arrayOf (tsStT i) .int :: .eq (.length (tsStT i)) (.int (Int32.ofNat 12)) :: (List.range 12).map fun j => .eq (.elem (tsStT i) (.int (Int32.ofNat j))) (.int (wkTab i j))
theorem tsSt_ok {args : Array Value} {s : State} (hg : tsG.before args s = true) : ∀ i, i < 5 → ∀ w ∈ tsSt i, w.before args s = true
  | 0, _ => tsF [10, 11, 12, 13, 14, 15, 16, 17, 18, 19, 20, 21, 22, 23] (by decide +kernel) hg
  | 1, _ => tsF [25, 26, 27, 28, 29, 30, 31, 32, 33, 34, 35, 36, 37, 38] (by decide +kernel) hg
  | 2, _ => tsF [40, 41, 42, 43, 44, 45, 46, 47, 48, 49, 50, 51, 52, 53] (by decide +kernel) hg
  | 3, _ => tsF [55, 56, 57, 58, 59, 60, 61, 62, 63, 64, 65, 66, 67, 68] (by decide +kernel) hg
  | 4, _ => tsF [72, 73, 74, 75, 76, 77, 78, 79, 80, 81, 82, 83, 84, 85] (by decide +kernel) hg
  | _ + 5, h => absurd h (by omega)
theorem tsSt_of {args : Array Value} {s : State} (hg : tsG.before args s = true) (hts : ∀ w ∈ lw_tbl, w.before args s = true) : ∃ t : Nat → Nat, ∀ i, i < 5 → va_Z "Witnessworks" (wkSn i) "[I" (.ref (t i)) (tsB s) s s.heap ∧ va_T .int (t i) 12 (fun j => .int (wkTab i j)) (tsB s) s s.heap := by
  have hl : ∀ w ∈ (List.range 5).map (fun i => Cond.laysStatic "Witnessworks" (wkSn i) "[I"), w ∈ lw_tbl := tsI [(3, 155), (3, 157), (3, 162), (3, 164), (8, 148)] (by decide +kernel)
  have h0 : ∀ i : Nat, ∃ t : Nat, i < 5 → va_Z "Witnessworks" (wkSn i) "[I" (.ref t) (tsB s) s s.heap ∧ va_T .int t 12 (fun j => .int (wkTab i j)) (tsB s) s s.heap := by
    intro i
    by_cases hi : i < 5
    · have h := tsSt_ok hg i hi
      obtain ⟨t, ht, hT⟩ := va_Tof (tm := tsStT i) (ty := .int) (N := 12) (f := fun j => .int (wkTab i j)) (A := tsB s) (by decide) (h _ List.mem_cons_self) (va_eqt (h _ (List.mem_cons_of_mem _ List.mem_cons_self))) (fun j hj => va_eqt (h _ (List.mem_cons_of_mem _ (List.mem_cons_of_mem _ (List.mem_map.mpr ⟨j, List.mem_range.mpr hj, rfl⟩))))) tsB_no
      exact ⟨t, fun _ => ⟨va_Zof (hts _ (tsMt hl (List.mem_range.mpr hi))) (hts _ (ts1 1 1 (by decide +kernel))) ht tsB_no, hT⟩⟩
    · exact ⟨0, fun h => absurd h hi⟩
  exact Classical.axiomOfChoice h0
def tsSs : Term := .string "Witnessworks" 64
def tsSv : Term := .field tsSs "java/lang/String" "value" "[B"
def tsStr : List Cond := [.exactly tsSs "java/lang/String", .eq (.field tsSs "java/lang/String" "coder" "B") (.int 0), .arrayOf tsSv .byte, .eq (.length tsSv) (.int (Int32.ofNat 12))]
theorem tsStr_ok {args : Array Value} {s : State} (hg : tsG.before args s = true) : ∀ w ∈ tsStr, w.before args s = true := tsF [208, 209, 210, 211] (by decide +kernel) hg
theorem tsStr_el {args : Array Value} {s : State} (hg : tsG.before args s = true) : ∀ w ∈ (List.range 12).map (fun j => Cond.eq (.elem tsSv (.int (Int32.ofNat j))) (.int (wkKd j))), w.before args s = true := tsF [212, 213, 214, 215, 216, 217, 218, 219, 220, 221, 222, 223] (by decide +kernel) hg
theorem tsStr_of {args : Array Value} {s : State} (hg : tsG.before args s = true) : ∃ a v : Nat, tsSs.eval args s none [] s = some (.ref a) ∧ va_O "java/lang/String" a (tsB s) s s.heap ∧ va_OF "java/lang/String" "coder" "B" (.int 0) a (tsB s) s s.heap ∧ va_OF "java/lang/String" "value" "[B" (.ref v) a (tsB s) s s.heap ∧ va_T .byte v 12 (fun j => .int (wkKd j)) (tsB s) s s.heap := by
  have h := tsStr_ok hg
  have hex := h _ List.mem_cons_self
  obtain ⟨a, c, cA, kA, q1, q2, q3, q4, q5, q6, -⟩ := Cond.exactly_spec (args := args) (first := s) (o := none) (s := s) (idx := []) (t := tsSs) (cls := "java/lang/String") hex
  obtain ⟨t, ht, hT⟩ := va_Tof (tm := tsSv) (ty := .byte) (N := 12) (f := fun j => .int (wkKd j)) (A := tsB s) (by decide) (h (.arrayOf tsSv .byte) (List.mem_cons_of_mem _ (List.mem_cons_of_mem _ List.mem_cons_self))) (va_eqt (h (.eq (.length tsSv) (.int (Int32.ofNat 12))) (List.mem_cons_of_mem _ (List.mem_cons_of_mem _ (List.mem_cons_of_mem _ List.mem_cons_self))))) (fun j hj => va_eqt (tsM (tsStr_el hg) (List.mem_range.mpr hj))) tsB_no
  exact ⟨a, t, q1, va_Oof hex q1 tsB_no, vk_OFof q1 (va_eqt (h (.eq (.field tsSs "java/lang/String" "coder" "B") (.int 0)) (List.mem_cons_of_mem _ List.mem_cons_self))) tsB_no, vk_OFof q1 ht tsB_no, hT⟩
theorem tsThr_c : ∀ w ∈ wkThr.map (fun e => Cond.classLink "Witnessworks" e.1 e.2.2.2.1), w ∈ lw_tbl := tsI [(3, 165), (3, 236), (3, 236), (3, 165), (3, 165), (7, 0), (7, 0), (3, 165), (7, 0), (4, 81), (4, 81), (3, 236), (3, 236), (7, 0), (7, 0), (7, 0), (4, 65), (3, 236), (4, 65), (4, 81), (3, 165), (3, 165), (7, 0)] (by decide +kernel)
theorem tsThr_i : ∀ w ∈ wkThr.map (fun e => Cond.initialized e.2.2.2.1), w ∈ lw_tbl := tsI [(1, 22), (1, 23), (1, 23), (1, 22), (1, 22), (1, 27), (1, 27), (1, 22), (1, 27), (1, 28), (1, 28), (1, 23), (1, 23), (1, 27), (1, 27), (1, 27), (1, 25), (1, 23), (1, 25), (1, 28), (1, 22), (1, 22), (1, 27)] (by decide +kernel)
theorem tsThr_s : ∀ w ∈ wkThr.map (fun e => Cond.stringRef "Witnessworks" e.2.1 e.2.2.2.2), w ∈ lw_tbl := tsI [(3, 209), (4, 5), (9, 20), (6, 226), (6, 235), (7, 9), (7, 24), (9, 139), (9, 140), (7, 32), (9, 148), (7, 89), (9, 73), (7, 97), (9, 156), (9, 162), (7, 110), (8, 71), (4, 74), (4, 90), (9, 113), (9, 10), (9, 15)] (by decide +kernel)
theorem tsThr_e {args : Array Value} {s : State} (hg : tsG.before args s = true) : ∀ w ∈ wkThr.map (fun e => Cond.exactly (.string "Witnessworks" e.2.1) "java/lang/String"), w.before args s = true := tsF [224, 256, 710, 319, 359, 386, 419, 831, 866, 450, 915, 478, 743, 511, 957, 1018, 545, 575, 278, 298, 785, 607, 658] (by decide +kernel) hg
theorem tsAt_0 : ∀ w ∈ vx_atS "Witnessworks" 83 "java/lang/IllegalArgumentException" wkUp, w ∈ lw_tbl := tsI [(1, 19), (3, 187), (3, 196), (3, 203), (3, 206), (3, 208), (3, 188), (3, 189), (1, 37), (1, 38), (3, 190), (3, 195), (3, 204), (3, 224), (3, 177), (3, 225), (3, 179), (3, 226), (3, 181), (3, 191), (3, 193), (3, 183), (3, 220), (3, 221), (3, 223), (3, 183), (3, 211), (3, 212), (3, 213), (3, 214), (3, 169), (3, 214), (3, 215), (3, 216), (3, 217), (3, 171), (3, 217), (3, 218), (3, 219), (3, 220), (3, 173), (3, 210), (3, 166), (3, 167), (3, 174), (3, 175), (3, 176), (3, 178), (3, 180), (3, 182), (3, 186), (3, 185), (3, 184)] (by decide +kernel)
theorem tsAk_0 : (vx_atS "Witnessworks" 83 "java/lang/IllegalArgumentException" wkUp).all (fun w => w.onTables && w.keepsFace) = true := by decide +kernel
theorem tsAt_1 : ∀ w ∈ vx_atS "Witnessworks" 94 "java/lang/IllegalStateException" wkUp, w ∈ lw_tbl := tsI [(1, 19), (3, 187), (3, 196), (3, 203), (3, 206), (3, 208), (3, 188), (3, 189), (1, 37), (1, 38), (3, 190), (3, 195), (3, 204), (3, 224), (3, 177), (3, 225), (3, 179), (3, 226), (3, 181), (3, 191), (3, 193), (3, 183), (3, 220), (3, 221), (3, 223), (3, 183), (4, 7), (4, 8), (4, 9), (3, 214), (3, 169), (3, 214), (3, 215), (3, 216), (3, 217), (3, 171), (3, 217), (3, 218), (3, 219), (3, 220), (3, 173), (4, 6), (3, 237), (3, 238), (3, 239), (3, 199), (4, 0), (4, 1), (4, 2), (4, 3), (3, 186), (3, 185), (4, 4)] (by decide +kernel)
theorem tsAk_1 : (vx_atS "Witnessworks" 94 "java/lang/IllegalStateException" wkUp).all (fun w => w.onTables && w.keepsFace) = true := by decide +kernel
theorem tsAt_2 : ∀ w ∈ vx_atS "Witnessworks" 170 "java/lang/UnsupportedOperationException" wkUp, w ∈ lw_tbl := tsI [(1, 19), (3, 187), (3, 196), (3, 203), (3, 206), (3, 208), (3, 188), (3, 189), (1, 37), (1, 38), (3, 190), (3, 195), (3, 204), (3, 224), (3, 177), (3, 225), (3, 179), (3, 226), (3, 181), (3, 191), (3, 193), (3, 183), (3, 220), (3, 221), (3, 223), (3, 183), (7, 11), (7, 12), (7, 13), (3, 214), (3, 169), (3, 214), (3, 215), (3, 216), (3, 217), (3, 171), (3, 217), (3, 218), (3, 219), (3, 220), (3, 173), (7, 10), (7, 1), (7, 2), (7, 3), (3, 201), (7, 4), (7, 5), (7, 6), (7, 7), (3, 186), (3, 185), (7, 8)] (by decide +kernel)
theorem tsAk_2 : (vx_atS "Witnessworks" 170 "java/lang/UnsupportedOperationException" wkUp).all (fun w => w.onTables && w.keepsFace) = true := by decide +kernel
theorem tsAt_3 : ∀ w ∈ wtAt "Witnessworks" 201 "java/util/NoSuchElementException" wkUp, w ∈ lw_tbl := tsI [(1, 19), (3, 187), (3, 196), (3, 203), (3, 206), (3, 208), (3, 188), (3, 189), (1, 37), (1, 38), (3, 190), (3, 195), (3, 204), (3, 224), (3, 177), (3, 225), (3, 179), (3, 226), (3, 181), (3, 191), (3, 193), (3, 183), (3, 220), (3, 221), (3, 223), (3, 183), (4, 92), (4, 93), (4, 94), (3, 214), (3, 169), (3, 214), (3, 215), (3, 216), (3, 217), (3, 171), (3, 217), (3, 218), (3, 219), (3, 220), (3, 173), (4, 91), (4, 82), (4, 83), (4, 84), (3, 202), (4, 85), (4, 86), (4, 87), (4, 88), (4, 89), (3, 186), (3, 185)] (by decide +kernel)
theorem tsAk_3 : (wtAt "Witnessworks" 201 "java/util/NoSuchElementException" wkUp).all (fun w => w.onTables && w.keepsFace) = true := by decide +kernel
theorem tsAt_4 : ∀ w ∈ vx_atS "Witnessworks" 390 "java/lang/IndexOutOfBoundsException" wkUp, w ∈ lw_tbl := tsI [(1, 19), (3, 187), (3, 196), (3, 203), (3, 206), (3, 208), (3, 188), (3, 189), (1, 37), (1, 38), (3, 190), (3, 195), (3, 204), (3, 224), (3, 177), (3, 225), (3, 179), (3, 226), (3, 181), (3, 191), (3, 193), (3, 183), (3, 220), (3, 221), (3, 223), (3, 183), (4, 37), (4, 38), (4, 39), (3, 214), (3, 169), (3, 214), (3, 215), (3, 216), (3, 217), (3, 171), (3, 217), (3, 218), (3, 219), (3, 220), (3, 173), (4, 75), (4, 66), (4, 67), (4, 68), (3, 200), (4, 69), (4, 70), (4, 71), (4, 72), (3, 186), (3, 185), (4, 73)] (by decide +kernel)
theorem tsAk_4 : (vx_atS "Witnessworks" 390 "java/lang/IndexOutOfBoundsException" wkUp).all (fun w => w.onTables && w.keepsFace) = true := by decide +kernel
def tsPr (e : Nat × Nat × Nat × String × String) : Prop := (∀ w ∈ wtW e, w ∈ lw_tbl) ∧ (wtW e).all (fun w => w.onTables && w.keepsFace) = true
theorem tsPS {e : Nat × Nat × Nat × String × String} (hn : e.2.2.2.1 ≠ "java/util/NoSuchElementException") (h1 : ∀ w ∈ vx_atS "Witnessworks" e.2.2.1 e.2.2.2.1 wkUp, w ∈ lw_tbl) (h2 : (vx_atS "Witnessworks" e.2.2.1 e.2.2.2.1 wkUp).all (fun w => w.onTables && w.keepsFace) = true) : tsPr e := by
  have ew : wtW e = vx_atS "Witnessworks" e.2.2.1 e.2.2.2.1 wkUp := if_neg hn
  unfold tsPr
  rw [ew]
  exact ⟨h1, h2⟩
theorem tsPN {e : Nat × Nat × Nat × String × String} (hn : e.2.2.2.1 = "java/util/NoSuchElementException") (h1 : ∀ w ∈ wtAt "Witnessworks" e.2.2.1 e.2.2.2.1 wkUp, w ∈ lw_tbl) (h2 : (wtAt "Witnessworks" e.2.2.1 e.2.2.2.1 wkUp).all (fun w => w.onTables && w.keepsFace) = true) : tsPr e := by
  have ew : wtW e = wtAt "Witnessworks" e.2.2.1 e.2.2.2.1 wkUp := if_pos hn
  unfold tsPr
  rw [ew]
  exact ⟨h1, h2⟩
theorem tsThr_a : ∀ e ∈ wkThr, tsPr e := List.forall_mem_cons.mpr ⟨tsPS (by decide) tsAt_0 tsAk_0, List.forall_mem_cons.mpr ⟨tsPS (by decide) tsAt_1 tsAk_1, List.forall_mem_cons.mpr ⟨tsPS (by decide) tsAt_1 tsAk_1, List.forall_mem_cons.mpr ⟨tsPS (by decide) tsAt_0 tsAk_0, List.forall_mem_cons.mpr ⟨tsPS (by decide) tsAt_0 tsAk_0, List.forall_mem_cons.mpr ⟨tsPS (by decide) tsAt_2 tsAk_2, List.forall_mem_cons.mpr ⟨tsPS (by decide) tsAt_2 tsAk_2, List.forall_mem_cons.mpr ⟨tsPS (by decide) tsAt_0 tsAk_0, List.forall_mem_cons.mpr ⟨tsPS (by decide) tsAt_2 tsAk_2, List.forall_mem_cons.mpr ⟨tsPN rfl tsAt_3 tsAk_3, List.forall_mem_cons.mpr ⟨tsPN rfl tsAt_3 tsAk_3, List.forall_mem_cons.mpr ⟨tsPS (by decide) tsAt_1 tsAk_1, List.forall_mem_cons.mpr ⟨tsPS (by decide) tsAt_1 tsAk_1, List.forall_mem_cons.mpr ⟨tsPS (by decide) tsAt_2 tsAk_2, List.forall_mem_cons.mpr ⟨tsPS (by decide) tsAt_2 tsAk_2, List.forall_mem_cons.mpr ⟨tsPS (by decide) tsAt_2 tsAk_2, List.forall_mem_cons.mpr ⟨tsPS (by decide) tsAt_4 tsAk_4, List.forall_mem_cons.mpr ⟨tsPS (by decide) tsAt_1 tsAk_1, List.forall_mem_cons.mpr ⟨tsPS (by decide) tsAt_4 tsAk_4, List.forall_mem_cons.mpr ⟨tsPN rfl tsAt_3 tsAk_3, List.forall_mem_cons.mpr ⟨tsPS (by decide) tsAt_0 tsAk_0, List.forall_mem_cons.mpr ⟨tsPS (by decide) tsAt_0 tsAk_0, List.forall_mem_cons.mpr ⟨tsPS (by decide) tsAt_2 tsAk_2, fun _ h => absurd h List.not_mem_nil⟩⟩⟩⟩⟩⟩⟩⟩⟩⟩⟩⟩⟩⟩⟩⟩⟩⟩⟩⟩⟩⟩⟩
theorem tsExA {args : Array Value} (hg : tsG.before args s = true) (hts : ∀ w ∈ lw_tbl, w.before args s = true) : wkExA (tsGm f s) := fun A U H R => by
  have hz : ∀ w ∈ [Cond.isRef (.static Bundle.tN "UNASSIGNED_STACK" Bundle.steD), Cond.isRef (.static Bundle.tN "SUPPRESSED_SENTINEL" Bundle.listD)], w.before args s = true := tsF [69, 70] (by decide +kernel) hg
  have hi : (Cond.initialized Bundle.tN).before args s = true := hts _ (ts1 1 19 (by decide +kernel))
  refine ⟨tsQ R (vx_Zqof (hts _ (ts1 3 192 (by decide +kernel))) hi (hz _ List.mem_cons_self) tsB_no), tsQ R (vx_Zqof (hts _ (ts1 3 194 (by decide +kernel))) hi (hz _ (List.mem_cons_of_mem _ List.mem_cons_self)) tsB_no), fun e he => ?_⟩
  obtain ⟨hW, _, _⟩ := tsRo R
  refine ⟨ts_warm hW rfl (hts _ (tsMt tsThr_c he)), ts_warm hW rfl (hts _ (tsMt tsThr_i he)), ?_, fun w hw => ?_⟩
  · obtain ⟨a, c, cA, kA, q1, -⟩ := Cond.exactly_spec (args := args) (first := s) (o := none) (s := s) (idx := []) (t := .string "Witnessworks" e.2.1) (cls := "java/lang/String") (tsM (tsThr_e hg) he)
    exact ⟨a, vk_R.warm hW (vk_R.of (hts _ (tsMt tsThr_s he)) q1)⟩
  · obtain ⟨h1, h2⟩ := tsThr_a e he
    exact ts_warm hW (List.all_eq_true.mp h2 w hw) (hts _ (h1 w hw))
theorem ts_AOA {ty : FieldType} {u U : State} (hvm : u.vm.Alike U.vm) (h : va_AOA ty u) : va_AOA ty U := by
  obtain ⟨comp, c, k, h1, h2, h3, h4, h5⟩ := arrayOverA_spec h
  obtain ⟨k', hk', he⟩ := hvm.2.2 _ _ h3
  have hb : U.vm.bare = u.vm.bare := by first | exact hvm.bare_eq | exact hvm.bare_eq.symm
  have hi : (U.vm.classes.findIdx? fun (x : Class) => match x.kind with | .array component _ => component == comp | _ => false) = some c := (va_idx_bare U.vm comp).symm.trans ((congrArg (fun v : Vm => v.classes.findIdx? fun (x : Class) => match x.kind with | .array component _ => component == comp | _ => false) hb).trans ((va_idx_bare u.vm comp).trans h2))
  have hkind : k'.kind = .array comp (.array ty) := by rw [he]; exact h4
  have f1 : U.vm.findClass (FieldType.array ty).toString = some comp := by rw [hvm.findClass]; exact h1
  have f2 : U.vm.findClass ("[" ++ (FieldType.array ty).toString) = some c := by rw [hvm.findClass]; exact h5
  unfold va_AOA Cond.before Cond.holds
  simp only [Cond.value]
  rw [f1, Option.bind_some]
  refine (congrArg (fun o : Option Nat => (o.bind (fun c => (U.vm.classes[c]?).map fun (k : Class) => match k.kind with | .array _ t => decide (t = FieldType.array ty) && decide (U.vm.findClass ("[" ++ (FieldType.array ty).toString) = some c) | _ => false)) == some true) hi).trans ?_
  simp [hk', hkind, f2]
theorem tsMk {args : Array Value} (hts : ∀ w ∈ lw_tbl, w.before args s = true) : wkMk (tsGm f s) := fun A U H R => by
  obtain ⟨hW, _, _⟩ := tsRo R
  exact ⟨va_AO.moved hW.alike (va_AO.of (hts (.arrayOver (.object "Witnessworks$Entry")) (ts1 2 79 (by decide +kernel)))), va_AO.moved hW.alike (va_AO.of (hts (.arrayOver (.object "Witnessworks$Claim")) (ts1 2 212 (by decide +kernel)))), ts_AOA hW.alike (show va_AOA .int s from hts (.arrayOver (.array .int)) (ts1 1 224 (by decide +kernel))), ts_AOA hW.alike (show va_AOA .long s from hts (.arrayOver (.array .long)) (ts1 1 130 (by decide +kernel)))⟩
theorem tsExs : ∀ w ∈ wkExs.map (fun E => Cond.castable E E), w ∈ lw_tbl := tsI [(3, 167), (3, 238), (4, 67), (7, 2), (4, 83)] (by decide +kernel)
theorem tsNcs {args : Array Value} {s : State} (hg : tsG.before args s = true) : ∀ w ∈ wkNcs.map (fun x => Cond.not (.castable x.1 x.2)), w.before args s = true := tsF [115, 132, 165, 148, 98, 133, 166, 149, 100, 117, 168, 151, 101, 118, 134, 152, 102, 119, 135, 169] (by decide +kernel) hg
theorem tsCast {args : Array Value} (hg : tsG.before args s = true) (hts : ∀ w ∈ lw_tbl, w.before args s = true) : wkCast (tsGm f s) := fun A U H R => by
  obtain ⟨hW, _, _⟩ := tsRo R
  exact ⟨fun E hE => va_Nw.warmC hW (va_Nw.of rfl (hts _ (tsMt tsExs hE))), fun x hx => va_Nc.moved hW.alike (va_Nc.of (tsM (tsNcs hg) hx))⟩
theorem tsNs : ∀ w ∈ wkNs.map (fun w => Cond.methodLinkNest w.1 w.2.1 w.2.2.1 w.2.2.2), w ∈ lw_tbl := tsI [(2, 81), (2, 210), (2, 214), (1, 41), (2, 219), (5, 129), (5, 8), (5, 23), (7, 148), (2, 87), (4, 137), (1, 47), (1, 88), (8, 141), (1, 125), (1, 156), (1, 184), (1, 219), (2, 24), (5, 109), (6, 209), (6, 225), (7, 132), (4, 144), (4, 148), (6, 32), (6, 8), (6, 97)] (by decide +kernel)
theorem tsFs : ∀ w ∈ wkFs.map (fun w => Cond.fieldLinkNest "Witnessworks$House" w.1 "Witnessworks" w.2 "[I" "Witnessworks"), w ∈ lw_tbl := tsI [(8, 146), (8, 147), (8, 160)] (by decide +kernel)
theorem tsNw {args : Array Value} (hts : ∀ w ∈ lw_tbl, w.before args s = true) : wkNw s := fun w hw => va_Nw.of rfl (hts _ (tsMt tsNs hw))
theorem tsCl : ∀ q ∈ vwCl, (∀ w ∈ u_ws q.1 q.2.1 q.2.2, w ∈ lw_tbl) ∧ ∃ n : Nat, Cond.instantiable q.1 n ∈ lw_tbl := List.forall_mem_cons.mpr ⟨⟨iwsJ00, 4, ts1 4 51 (by decide +kernel)⟩, List.forall_mem_cons.mpr ⟨⟨iwsJx000600, 6, ts1 4 33 (by decide +kernel)⟩, List.forall_mem_cons.mpr ⟨⟨iwsX00, 4, ts1 2 213 (by decide +kernel)⟩, List.forall_mem_cons.mpr ⟨⟨iwsX10, 7, ts1 1 155 (by decide +kernel)⟩, List.forall_mem_cons.mpr ⟨⟨iwsX20, 10, ts1 1 87 (by decide +kernel)⟩, List.forall_mem_cons.mpr ⟨⟨iwsX30, 17, ts1 2 80 (by decide +kernel)⟩, List.forall_mem_cons.mpr ⟨⟨iwsX40, 8, ts1 1 40 (by decide +kernel)⟩, List.forall_mem_cons.mpr ⟨⟨iwsX50, 7, ts1 1 124 (by decide +kernel)⟩, List.forall_mem_cons.mpr ⟨⟨iwsX60, 8, ts1 2 23 (by decide +kernel)⟩, List.forall_mem_cons.mpr ⟨⟨iwsX70, 11, ts1 1 46 (by decide +kernel)⟩, List.forall_mem_cons.mpr ⟨⟨iwsX80, 9, ts1 1 183 (by decide +kernel)⟩, List.forall_mem_cons.mpr ⟨⟨iwsX90, 2, ts1 2 86 (by decide +kernel)⟩, List.forall_mem_cons.mpr ⟨⟨iwsX100, 12, ts1 1 218 (by decide +kernel)⟩, List.forall_mem_cons.mpr ⟨⟨iwsX110, 19, ts1 1 32 (by decide +kernel)⟩, fun _ h => absurd h List.not_mem_nil⟩⟩⟩⟩⟩⟩⟩⟩⟩⟩⟩⟩⟩⟩
theorem ts_arr {args : Array Value} {ty : FieldType} (h : (Cond.arrayClass ty).before args s = true) : ∃ c : ClassId, ArrOfT s c ty ∧ s.vm.findClass ("[" ++ ty.toString) = some c := by
  obtain ⟨c, k, comp, h1, h2, h3⟩ := Cond.arrayClass_spec h
  exact ⟨c, fun n z => ⟨(fun k h => by cases h), k, h2, comp, h3⟩, h1⟩
theorem ts_arrO {args : Array Value} {C : String} (h : (Cond.arrayOver (.object C)).before args s = true) : ∃ c : ClassId, ArrOfT s c (.object C) ∧ va_RA s c (.object C) := by
  obtain ⟨comp, c, k, h1, h2, h3, h4, h5⟩ := Cond.arrayOver_spec h
  exact ⟨c, fun n z => ⟨(fun k h => by cases h), k, h3, comp, h4⟩, k, comp, h3, h4, h1, h5⟩
theorem ts_arrA {args : Array Value} {t : FieldType} (h : (Cond.arrayOver (.array t)).before args s = true) : ∃ c : ClassId, ArrOfT s c (.array t) ∧ s.vm.findClass ("[" ++ (FieldType.array t).toString) = some c := by
  obtain ⟨comp, c, k, h1, h2, h3, h4, h5⟩ := arrayOverA_spec h
  exact ⟨c, fun n z => ⟨(fun k h => by cases h), k, h3, comp, h4⟩, h5⟩
theorem tsK {args : Array Value} (hts : ∀ w ∈ lw_tbl, w.before args s = true) : ∃ (D : va_G) (cy : Nat → ClassId), va_K D vwCl (wkTys cy) s := by
  have h0 : ∀ k : Nat, ∃ x : ClassId × (Nat → Nat), ∀ q, vwCl[k]? = some q → u_Kn s q.1 q.2.1 q.2.2 x.1 x.2 := by
    intro k
    cases e : vwCl[k]? with
    | none => exact ⟨(0, fun _ => 0), fun q h => by cases h⟩
    | some q =>
      obtain ⟨h1, n, h2⟩ := tsCl q (List.mem_of_getElem? e)
      obtain ⟨cC, iS, hK⟩ := u_known hts h1 (hts _ h2)
      exact ⟨(cC, iS), fun q' h => by cases h; exact hK⟩
  obtain ⟨x, hx⟩ := Classical.axiomOfChoice h0
  obtain ⟨c0, a0, b0⟩ := ts_arr (hts (.arrayClass .char) (ts1 2 236 (by decide +kernel)))
  obtain ⟨c1, a1, b1⟩ := ts_arr (hts (.arrayClass .int) (ts1 1 85 (by decide +kernel)))
  obtain ⟨c2, a2, b2⟩ := ts_arr (hts (.arrayClass .long) (ts1 1 153 (by decide +kernel)))
  obtain ⟨c3, a3, b3⟩ := ts_arrO (hts (.arrayOver (.object "Witnessworks$Claim")) (ts1 2 212 (by decide +kernel)))
  obtain ⟨c4, a4, b4⟩ := ts_arrO (hts (.arrayOver (.object "Witnessworks$Entry")) (ts1 2 79 (by decide +kernel)))
  obtain ⟨c5, a5, b5⟩ := ts_arrA (hts (.arrayOver (.array .int)) (ts1 1 224 (by decide +kernel)))
  obtain ⟨c6, a6, b6⟩ := ts_arrA (hts (.arrayOver (.array .long)) (ts1 1 130 (by decide +kernel)))
  refine ⟨(fun k => (x k).1, fun k => (x k).2), fun k => match k with | 0 => c0 | 1 => c1 | 2 => c2 | 3 => c3 | 4 => c4 | 5 => c5 | _ => c6, fun k q h => hx k q h, fun k q h => ?_⟩
  match k, h with
  | 0, h => cases h; exact ⟨a0, b0⟩
  | 1, h => cases h; exact ⟨a1, b1⟩
  | 2, h => cases h; exact ⟨a2, b2⟩
  | 3, h => cases h; exact ⟨a3, b3⟩
  | 4, h => cases h; exact ⟨a4, b4⟩
  | 5, h => cases h; exact ⟨a5, b5⟩
  | 6, h => cases h; exact ⟨a6, b6⟩
  | _ + 7, h => cases h
end
/-- the empty pool -/
def tsE : wPS := ([], fun _ => 0, fun _ _ => 0, fun _ _ => 0, fun _ _ => none, fun _ => 0, fun _ _ => 0, fun _ _ => 0, fun _ _ => none)
theorem tsE_WF : wkWF tsE := by
  show wkWFr (wPS.L tsE) (wPS.K tsE) (wPS.fA tsE) (wPS.len tsE) (wPS.rA tsE)
  unfold wkWFr
  generalize hL : wPS.L tsE = L
  have e : L = [] := hL.symm.trans rfl
  subst e
  simp
