set_option maxHeartbeats 4000000 in
theorem ts_whole {p : Program} {e : Env} {s : State} {m : MethodId} {below : List Frame} {meth : Method} {c : Code} (l : Launch) (hflags : l.flags = flags0) {b L : Nat} {xs : Nat → Int32} (hL : L ≤ 260) (pure : ∀ g : wkG, g.1 9 ≤ 260 → ∃ F : Nat, mL_law g F = some 1) (C0 : lw_At p s m meth c b L xs) : W p l e room_1 s m #[Value.ref b] below meth c s.heap [] 0 0 (lw_Z below #[Value.ref b] s) (entryFrame m ([Value.ref b] : List Value).toArray 10) := by
  obtain ⟨hx, hb, hr, hml, hown, hts, hX, hbl, hlocks, hgv⟩ := C0
  have hg : tsG.before #[Value.ref b] s = true := hgv
  have hlt : l.stackTraces = false := by
    unfold Launch.stackTraces
    rw [hflags]
    decide +kernel
  obtain ⟨t, ht⟩ := tsSt_of hg hts
  obtain ⟨a, v, k1, k2, k3, k4, k5⟩ := tsStr_of hg
  obtain ⟨D, cy, hK⟩ := tsK hts
  have hE : ∀ w ∈ [Cond.eq (.static "java/lang/String" "COMPACT_STRINGS" "Z") (.int 1), Cond.isRef (.static "jdk/internal/util/Preconditions" "SIOOBE_FORMATTER" "Ljava/util/function/BiFunction;"), Cond.eq tsSs (.string "WitnessworksLaw" 228)], w.before #[Value.ref b] s = true := tsF [4, 5, 1088] (by decide +kernel) hg
  have hcs : va_Z "java/lang/String" "COMPACT_STRINGS" "Z" (.int 1) (tsB s) s s.heap := va_Zof (hts _ (ts1 3 78 (by decide +kernel))) (hts _ (ts1 1 13 (by decide +kernel))) (va_eqt (hE _ List.mem_cons_self)) tsB_no
  have hfm : ∃ m k : Nat, va_Z "jdk/internal/util/Preconditions" "SIOOBE_FORMATTER" "Ljava/util/function/BiFunction;" (if k = 0 then .null else .ref m) (tsB s) s s.heap := by
    rcases va_Zqof (hts _ (ts1 3 121 (by decide +kernel))) (hts _ (ts1 1 15 (by decide +kernel))) (hE _ (List.mem_cons_of_mem _ List.mem_cons_self)) tsB_no with z | ⟨m, z⟩
    · exact ⟨0, 0, z⟩
    · exact ⟨m, 1, z⟩
  obtain ⟨mf, kf, hfm⟩ := hfm
  have hsl := ts_eqR (hE _ (List.mem_cons_of_mem _ (List.mem_cons_of_mem _ List.mem_cons_self))) k1
  obtain ⟨F, hF⟩ := pure (tsGm (tsAd t a v mf b L kf xs) s) (show L ≤ 260 from hL)
  have hSta : wkSta (tsGm (tsAd t a v mf b L kf xs) s) := by
    refine ⟨fun A U H R i hi => ?_, fun A U H R w hw => ?_⟩
    · have e : (tsGm (tsAd t a v mf b L kf xs) s).1 i = t i := if_pos hi
      rw [e]
      exact ⟨tsZ R (ht i hi).1, tsT' R (ht i hi).2⟩
    · exact va_Nw.warmF (tsRo R).1 (va_Nw.of rfl (hts _ (tsMt tsFs hw)))
  have hStr : wkStr (tsGm (tsAd t a v mf b L kf xs) s) := fun A U H R => by
    obtain ⟨hW, _, _⟩ := tsRo R
    exact ⟨vk_R.warm hW (vk_R.of (hts _ (ts1 3 64 (by decide +kernel))) k1), tsO R k2, tsOF R k4, tsOF R k3, tsZ R hcs, tsT' R k5, tsZ R hfm⟩
  have hStrL : wkStrL (tsGm (tsAd t a v mf b L kf xs) s) := fun A U H R => vk_R.warm (tsRo R).1 (vk_R.of (hts _ (ts1 9 178 (by decide +kernel))) hsl)
  have hArg : wkArg (tsGm (tsAd t a v mf b L kf xs) s) := fun A U H R => by
    obtain ⟨scr, x1, x2, x3, x4, x5⟩ := hX
    refine tsT' R ⟨scr, x1, x2, x3, Nat.le_of_eq x4.symm, by rw [x4]; rfl, fun j hj => ?_, tsB_no b hbl⟩
    show scr.slots[j]? = some (.int (Int32.ofNat (tsAd t a v mf b L kf xs (100 + j))))
    rw [tsAd_x]
    exact x5 j hj
  have hts' : ∀ w ∈ wvL_law, w.before #[Value.ref b] s = true := fun w hw => by
    rcases iwL_law w hw with z | z
    · subst z
      rfl
    · exact hts w z
  refine ts_room (R' := { frames := 1180, cells := 600156, slots := 7295334, locals := 80 * 1180 }) (Nat.le_of_ble_eq_true rfl) (Nat.le_of_ble_eq_true rfl) (Nat.le_of_ble_eq_true rfl) (Nat.le_of_ble_eq_true rfl) ?_
  rw [lg_entry_eq]
  have main := tL_law (l := l) (X := (p, e, { frames := 1180, cells := 600156, slots := 7295334, locals := 80 * 1180 }, s, m, #[Value.ref b], below, meth, c, lw_Z below #[Value.ref b] s, D, tsB s, cy, tsGm (tsAd t a v mf b L kf xs) s)) (d := 1180) (F := F) (k := 600156) (n := 7295334) (S := tsE) (l0A := b) (Φ := fun v _ => v = 1) hSta hStr hStrL (tsCast hg hts) hArg (tsExA hg hts) hlt (tsMk hts) tsE_WF rfl (LL_law hF tsE_WF (Nat.le_of_ble_eq_true rfl) (Nat.le_of_ble_eq_true rfl) (fun _ => rfl)) ⟨⟨hx, hb, hml, hown, hts'⟩, hK, fun q h => h, tsNw hts, tsRo0⟩ rfl (Nat.le_of_ble_eq_true rfl) ?_
  · exact main s.heap [] _ (fun k q h => by have h : ([] : va_W)[k]? = some q := h; simp at h) ⟨fun i j p q h => by have h : ([] : va_W)[i]? = some p := h; simp at h, fun k q h => by have h : ([] : va_W)[k]? = some q := h; simp at h⟩ va_S.rf (wkEnt_ok (vs := [.ref b]) (n := 10) (Nat.le_of_ble_eq_true rfl))
  · intro cells slots pc S lv x h1 h2 hd hn hp H locs ls hP hD hS hl
    obtain ⟨v', e1, e2, _⟩ := hp
    cases e1
    cases e2
    exact W.widen h1 h2 (va_forget hS.2.2 (ts_ret hx hb hr hlocks hd))
