def wvX11_boundOf : List Cond := .code yX11_boundOf cX11_boundOf 2 (some .int) :: (([.methodLink RX11 144 yX11_refreshed, .instanceMethod yX11_refreshed, .selects RX11 yX11_refreshed yX11_refreshed, .initialized RX11, .fieldLink RX11 152 "Witnessworks$Entry" "boundNow" "I"] : List Cond) ++ ((wsX30) ++ (wvX11_refreshed)))
theorem huX11_boundOf_3 : ∀ w ∈ u_ws RX3 TX3 17, w ∈ wvX11_boundOf := fun w h => List.mem_cons_of_mem _ (List.mem_append_right _ (List.mem_append_left _ h))
theorem hbX11_boundOf_X11_refreshed : ∀ w ∈ wvX11_refreshed, w ∈ wvX11_boundOf := fun w h => List.mem_cons_of_mem _ (List.mem_append_right _ (List.mem_append_right _ h))
theorem gdX11_boundOf : ∀ w ∈ wvX11_boundOf, wkGd w := wkGdC rfl (wkGdA (wkGdL (by decide +kernel)) (wkGdA gdX3 gdX11_refreshed))
def rX11_boundOf (F : Nat) (k n : Nat) (l0A : Nat) (l1I : Int32) (S : wPS) (Φ : (Int32 → wPS → Prop)) (Ψ : String → wPS → Prop) : Prop :=
  ∃ k4 n5 : Nat, 0 + k4 ≤ k ∧ 0 + n5 ≤ n ∧ rX11_refreshed F k4 n5 l0A l1I S (fun v1 S2 => Φ (gEntry_boundNow S2 v1) S2) Ψ
set_option maxHeartbeats 4000000 in
set_option maxRecDepth 100000 in
theorem tX11_boundOf {l : Launch} {g : wkG} {F : Nat} {k n : Nat}  {S : wPS} {l0A : Nat} {l1I : Int32} {Φ : (Int32 → wPS → Prop)} {Ψ : String → wPS → Prop} (hst : wkSta g) (hex : wkExA g) (hlt : l.stackTraces = false) (hW : wkWF S) (hl0A : wkIs S l0A 11) (h : rX11_boundOf F k n l0A l1I S Φ Ψ) : wkMetX l g yX11_boundOf wvX11_boundOf 56 k n [.ref l0A, .int l1I] S (fun v' S'' => ∃ v : Int32, v' = some (.int v) ∧ Φ v S'' ∧ wkWF S'' ∧ wkExt S S'') (fun E S'' => Ψ E S'' ∧ wkWF S'' ∧ wkExt S S'') := by
  refine wkMetX_of (ret := (some .int)) (by decide) rfl (Nat.le_of_ble_eq_true rfl) rfl hex hlt (by decide) (fun X hg C hR E EX ET => ?_)
  subst hg
  have hE : wkExt S S := wkExt.rf
  have hd : 56 ≤ 56 := Nat.le_refl _
  show wkGo l X 2 0 0 0 S [some (.ref l0A), some (.int l1I)] []
  unfold rX11_boundOf at h
  refine wk_aload_n C dX11_boundOf_0 rfl rfl ?_
  refine wk_iload_n C dX11_boundOf_1 rfl rfl ?_
  obtain ⟨k4, n5, hk4, hn5, h⟩ := h
  refine wk_callVX C hR EX (As := [.int l1I]) (cnt := 1) (tX11_refreshed (l := l) hst hex hlt hW hl0A h) rfl (wkGoodV (List.mem_of_getElem? (i := 1) rfl) (List.mem_of_getElem? (i := 2) rfl) (List.mem_of_getElem? (i := 3) rfl) (List.mem_of_getElem? (i := 4) rfl) hbX11_boundOf_X11_refreshed gdX11_refreshed) (Nat.le_trans (by decide : 55 + 1 ≤ 56) hd) (by decide) hl0A.1 (fun cy => wAt_11 cy _ hl0A.2) rfl ⟨by decide, by decide, by decide +kernel⟩ rfl rfl (Nat.le_of_ble_eq_true rfl) hk4 hn5 dX11_boundOf_2 (fun E S' q => ⟨q.1, q.2.1, wkExt.tr hE q.2.2⟩) (fun v' S2 hp => ?_)
  obtain ⟨v1, rfl, h, hWS2, hXS2, hIS2⟩ := hp
  refine wk_get C (v := .int (gEntry_boundNow S2 v1)) huX11_boundOf_3 hIS2.1 (fun cy => wAt_3 cy _ hIS2.2) rfl 8 (by decide) (List.mem_of_getElem? (i := 5) rfl) rfl rfl dX11_boundOf_5 ?_
  exact E _ _ _ _ _ _ hk4 hn5 dX11_boundOf_8 ⟨(gEntry_boundNow S2 v1), rfl, h, hWS2, (wkExt.tr hE hXS2)⟩
def wvX11_answer : List Cond := .code yX11_answer cX11_answer 2 (some .char) :: (([.methodLink RX11 144 yX11_refreshed, .instanceMethod yX11_refreshed, .selects RX11 yX11_refreshed yX11_refreshed, .initialized RX11, .fieldLink RX11 221 "Witnessworks$Entry" "reply" "C"] : List Cond) ++ ((wsX30) ++ (wvX11_refreshed)))
theorem huX11_answer_3 : ∀ w ∈ u_ws RX3 TX3 17, w ∈ wvX11_answer := fun w h => List.mem_cons_of_mem _ (List.mem_append_right _ (List.mem_append_left _ h))
theorem hbX11_answer_X11_refreshed : ∀ w ∈ wvX11_refreshed, w ∈ wvX11_answer := fun w h => List.mem_cons_of_mem _ (List.mem_append_right _ (List.mem_append_right _ h))
theorem gdX11_answer : ∀ w ∈ wvX11_answer, wkGd w := wkGdC rfl (wkGdA (wkGdL (by decide +kernel)) (wkGdA gdX3 gdX11_refreshed))
def rX11_answer (F : Nat) (k n : Nat) (l0A : Nat) (l1I : Int32) (S : wPS) (Φ : (Int32 → wPS → Prop)) (Ψ : String → wPS → Prop) : Prop :=
  ∃ k4 n5 : Nat, 0 + k4 ≤ k ∧ 0 + n5 ≤ n ∧ rX11_refreshed F k4 n5 l0A l1I S (fun v1 S2 => (((gEntry_reply S2 v1) : Int32).toUInt32 % 65536).toInt32 = (gEntry_reply S2 v1) ∧ Φ (gEntry_reply S2 v1) S2) Ψ
set_option maxHeartbeats 4000000 in
set_option maxRecDepth 100000 in
theorem tX11_answer {l : Launch} {g : wkG} {F : Nat} {k n : Nat}  {S : wPS} {l0A : Nat} {l1I : Int32} {Φ : (Int32 → wPS → Prop)} {Ψ : String → wPS → Prop} (hst : wkSta g) (hex : wkExA g) (hlt : l.stackTraces = false) (hW : wkWF S) (hl0A : wkIs S l0A 11) (h : rX11_answer F k n l0A l1I S Φ Ψ) : wkMetX l g yX11_answer wvX11_answer 56 k n [.ref l0A, .int l1I] S (fun v' S'' => ∃ v : Int32, v' = some (.int v) ∧ Φ v S'' ∧ wkWF S'' ∧ wkExt S S'') (fun E S'' => Ψ E S'' ∧ wkWF S'' ∧ wkExt S S'') := by
  refine wkMetX_of (ret := (some .char)) (by decide) rfl (Nat.le_of_ble_eq_true rfl) rfl hex hlt (by decide) (fun X hg C hR E EX ET => ?_)
  subst hg
  have hE : wkExt S S := wkExt.rf
  have hd : 56 ≤ 56 := Nat.le_refl _
  show wkGo l X 2 0 0 0 S [some (.ref l0A), some (.int l1I)] []
  unfold rX11_answer at h
  refine wk_aload_n C dX11_answer_0 rfl rfl ?_
  refine wk_iload_n C dX11_answer_1 rfl rfl ?_
  obtain ⟨k4, n5, hk4, hn5, h⟩ := h
  refine wk_callVX C hR EX (As := [.int l1I]) (cnt := 1) (tX11_refreshed (l := l) hst hex hlt hW hl0A h) rfl (wkGoodV (List.mem_of_getElem? (i := 1) rfl) (List.mem_of_getElem? (i := 2) rfl) (List.mem_of_getElem? (i := 3) rfl) (List.mem_of_getElem? (i := 4) rfl) hbX11_answer_X11_refreshed gdX11_refreshed) (Nat.le_trans (by decide : 55 + 1 ≤ 56) hd) (by decide) hl0A.1 (fun cy => wAt_11 cy _ hl0A.2) rfl ⟨by decide, by decide, by decide +kernel⟩ rfl rfl (Nat.le_of_ble_eq_true rfl) hk4 hn5 dX11_answer_2 (fun E S' q => ⟨q.1, q.2.1, wkExt.tr hE q.2.2⟩) (fun v' S2 hp => ?_)
  obtain ⟨v1, rfl, h, hWS2, hXS2, hIS2⟩ := hp
  refine wk_get C (v := .int (gEntry_reply S2 v1)) huX11_answer_3 hIS2.1 (fun cy => wAt_3 cy _ hIS2.2) rfl 11 (by decide) (List.mem_of_getElem? (i := 5) rfl) rfl rfl dX11_answer_5 ?_
  obtain ⟨b6, h⟩ := h
  exact E _ _ _ _ _ _ hk4 hn5 dX11_answer_8 (wkNarC b6) ⟨(gEntry_reply S2 v1), rfl, h, hWS2, (wkExt.tr hE hXS2)⟩
def wvX11_number : List Cond := .code yX11_number cX11_number 2 (some .int) :: (([.methodLink RX11 144 yX11_refreshed, .instanceMethod yX11_refreshed, .selects RX11 yX11_refreshed yX11_refreshed, .initialized RX11, .fieldLink RX11 225 "Witnessworks$Entry" "told" "I"] : List Cond) ++ ((wsX30) ++ (wvX11_refreshed)))
theorem huX11_number_3 : ∀ w ∈ u_ws RX3 TX3 17, w ∈ wvX11_number := fun w h => List.mem_cons_of_mem _ (List.mem_append_right _ (List.mem_append_left _ h))
theorem hbX11_number_X11_refreshed : ∀ w ∈ wvX11_refreshed, w ∈ wvX11_number := fun w h => List.mem_cons_of_mem _ (List.mem_append_right _ (List.mem_append_right _ h))
theorem gdX11_number : ∀ w ∈ wvX11_number, wkGd w := wkGdC rfl (wkGdA (wkGdL (by decide +kernel)) (wkGdA gdX3 gdX11_refreshed))
def rX11_number (F : Nat) (k n : Nat) (l0A : Nat) (l1I : Int32) (S : wPS) (Φ : (Int32 → wPS → Prop)) (Ψ : String → wPS → Prop) : Prop :=
  ∃ k4 n5 : Nat, 0 + k4 ≤ k ∧ 0 + n5 ≤ n ∧ rX11_refreshed F k4 n5 l0A l1I S (fun v1 S2 => Φ (gEntry_told S2 v1) S2) Ψ
set_option maxHeartbeats 4000000 in
set_option maxRecDepth 100000 in
theorem tX11_number {l : Launch} {g : wkG} {F : Nat} {k n : Nat}  {S : wPS} {l0A : Nat} {l1I : Int32} {Φ : (Int32 → wPS → Prop)} {Ψ : String → wPS → Prop} (hst : wkSta g) (hex : wkExA g) (hlt : l.stackTraces = false) (hW : wkWF S) (hl0A : wkIs S l0A 11) (h : rX11_number F k n l0A l1I S Φ Ψ) : wkMetX l g yX11_number wvX11_number 56 k n [.ref l0A, .int l1I] S (fun v' S'' => ∃ v : Int32, v' = some (.int v) ∧ Φ v S'' ∧ wkWF S'' ∧ wkExt S S'') (fun E S'' => Ψ E S'' ∧ wkWF S'' ∧ wkExt S S'') := by
  refine wkMetX_of (ret := (some .int)) (by decide) rfl (Nat.le_of_ble_eq_true rfl) rfl hex hlt (by decide) (fun X hg C hR E EX ET => ?_)
  subst hg
  have hE : wkExt S S := wkExt.rf
  have hd : 56 ≤ 56 := Nat.le_refl _
  show wkGo l X 2 0 0 0 S [some (.ref l0A), some (.int l1I)] []
  unfold rX11_number at h
  refine wk_aload_n C dX11_number_0 rfl rfl ?_
  refine wk_iload_n C dX11_number_1 rfl rfl ?_
  obtain ⟨k4, n5, hk4, hn5, h⟩ := h
  refine wk_callVX C hR EX (As := [.int l1I]) (cnt := 1) (tX11_refreshed (l := l) hst hex hlt hW hl0A h) rfl (wkGoodV (List.mem_of_getElem? (i := 1) rfl) (List.mem_of_getElem? (i := 2) rfl) (List.mem_of_getElem? (i := 3) rfl) (List.mem_of_getElem? (i := 4) rfl) hbX11_number_X11_refreshed gdX11_refreshed) (Nat.le_trans (by decide : 55 + 1 ≤ 56) hd) (by decide) hl0A.1 (fun cy => wAt_11 cy _ hl0A.2) rfl ⟨by decide, by decide, by decide +kernel⟩ rfl rfl (Nat.le_of_ble_eq_true rfl) hk4 hn5 dX11_number_2 (fun E S' q => ⟨q.1, q.2.1, wkExt.tr hE q.2.2⟩) (fun v' S2 hp => ?_)
  obtain ⟨v1, rfl, h, hWS2, hXS2, hIS2⟩ := hp
  refine wk_get C (v := .int (gEntry_told S2 v1)) huX11_number_3 hIS2.1 (fun cy => wAt_3 cy _ hIS2.2) rfl 12 (by decide) (List.mem_of_getElem? (i := 5) rfl) rfl rfl dX11_number_5 ?_
  exact E _ _ _ _ _ _ hk4 hn5 dX11_number_8 ⟨(gEntry_told S2 v1), rfl, h, hWS2, (wkExt.tr hE hXS2)⟩
def wvX11_length : List Cond := .code yX11_length cX11_length 2 (some .int) :: (([.methodLink RX11 144 yX11_refreshed, .instanceMethod yX11_refreshed, .selects RX11 yX11_refreshed yX11_refreshed, .initialized RX11, .fieldLink RX11 227 "Witnessworks$Entry" "row" "LWitnessworks$Row;", .fieldLink RX11 230 "Witnessworks$Row" "count" "I"] : List Cond) ++ ((wsX30 ++ (wsX90)) ++ (wvX11_refreshed)))
theorem huX11_length_3 : ∀ w ∈ u_ws RX3 TX3 17, w ∈ wvX11_length := fun w h => List.mem_cons_of_mem _ (List.mem_append_right _ (List.mem_append_left _ (List.mem_append_left _ h)))
theorem huX11_length_9 : ∀ w ∈ u_ws RX9 TX9 2, w ∈ wvX11_length := fun w h => List.mem_cons_of_mem _ (List.mem_append_right _ (List.mem_append_left _ (List.mem_append_right _ h)))
theorem hbX11_length_X11_refreshed : ∀ w ∈ wvX11_refreshed, w ∈ wvX11_length := fun w h => List.mem_cons_of_mem _ (List.mem_append_right _ (List.mem_append_right _ h))
theorem gdX11_length : ∀ w ∈ wvX11_length, wkGd w := wkGdC rfl (wkGdA (wkGdL (by decide +kernel)) (wkGdA (wkGdA gdX3 gdX9) gdX11_refreshed))
def rX11_length (F : Nat) (k n : Nat) (l0A : Nat) (l1I : Int32) (S : wPS) (Φ : (Int32 → wPS → Prop)) (Ψ : String → wPS → Prop) : Prop :=
  ∃ k4 n5 : Nat, 0 + k4 ≤ k ∧ 0 + n5 ≤ n ∧ rX11_refreshed F k4 n5 l0A l1I S (fun v1 S2 => Φ (gRow_count S2 (wkAd (gEntry_row S2 v1))) S2) Ψ
set_option maxHeartbeats 4000000 in
set_option maxRecDepth 100000 in
theorem tX11_length {l : Launch} {g : wkG} {F : Nat} {k n : Nat}  {S : wPS} {l0A : Nat} {l1I : Int32} {Φ : (Int32 → wPS → Prop)} {Ψ : String → wPS → Prop} (hst : wkSta g) (hex : wkExA g) (hlt : l.stackTraces = false) (hW : wkWF S) (hl0A : wkIs S l0A 11) (h : rX11_length F k n l0A l1I S Φ Ψ) : wkMetX l g yX11_length wvX11_length 56 k n [.ref l0A, .int l1I] S (fun v' S'' => ∃ v : Int32, v' = some (.int v) ∧ Φ v S'' ∧ wkWF S'' ∧ wkExt S S'') (fun E S'' => Ψ E S'' ∧ wkWF S'' ∧ wkExt S S'') := by
  refine wkMetX_of (ret := (some .int)) (by decide) rfl (Nat.le_of_ble_eq_true rfl) rfl hex hlt (by decide) (fun X hg C hR E EX ET => ?_)
  subst hg
  have hE : wkExt S S := wkExt.rf
  have hd : 56 ≤ 56 := Nat.le_refl _
  show wkGo l X 2 0 0 0 S [some (.ref l0A), some (.int l1I)] []
  unfold rX11_length at h
  refine wk_aload_n C dX11_length_0 rfl rfl ?_
  refine wk_iload_n C dX11_length_1 rfl rfl ?_
  obtain ⟨k4, n5, hk4, hn5, h⟩ := h
  refine wk_callVX C hR EX (As := [.int l1I]) (cnt := 1) (tX11_refreshed (l := l) hst hex hlt hW hl0A h) rfl (wkGoodV (List.mem_of_getElem? (i := 1) rfl) (List.mem_of_getElem? (i := 2) rfl) (List.mem_of_getElem? (i := 3) rfl) (List.mem_of_getElem? (i := 4) rfl) hbX11_length_X11_refreshed gdX11_refreshed) (Nat.le_trans (by decide : 55 + 1 ≤ 56) hd) (by decide) hl0A.1 (fun cy => wAt_11 cy _ hl0A.2) rfl ⟨by decide, by decide, by decide +kernel⟩ rfl rfl (Nat.le_of_ble_eq_true rfl) hk4 hn5 dX11_length_2 (fun E S' q => ⟨q.1, q.2.1, wkExt.tr hE q.2.2⟩) (fun v' S2 hp => ?_)
  obtain ⟨v1, rfl, h, hWS2, hXS2, hIS2⟩ := hp
  refine wk_get C huX11_length_3 hIS2.1 (fun cy => wAt_3 cy _ hIS2.2) rfl 13 (by decide) (List.mem_of_getElem? (i := 5) rfl) rfl (congrArg some (congrArg va_rf (wf_Entry_row hWS2 hIS2).1)) dX11_length_5 ?_
  refine wk_get C (v := .int (gRow_count S2 (wkAd (gEntry_row S2 v1)))) huX11_length_9 (wf_Entry_row hWS2 hIS2).2.1 (fun cy => wAt_9 cy _ (wf_Entry_row hWS2 hIS2).2.2) rfl 1 (by decide) (List.mem_of_getElem? (i := 6) rfl) rfl rfl dX11_length_8 ?_
  exact E _ _ _ _ _ _ hk4 hn5 dX11_length_11 ⟨(gRow_count S2 (wkAd (gEntry_row S2 v1))), rfl, h, hWS2, (wkExt.tr hE hXS2)⟩
def wvX11_rowSum : List Cond := .code yX11_rowSum cX11_rowSum 2 (some .long) :: (([.methodLink RX11 144 yX11_refreshed, .instanceMethod yX11_refreshed, .selects RX11 yX11_refreshed yX11_refreshed, .initialized RX11, .fieldLink RX11 227 "Witnessworks$Entry" "row" "LWitnessworks$Row;", .methodLink RX11 235 yX9_total, .instanceMethod yX9_total, .selects RX9 yX9_total yX9_total, .initialized RX9] : List Cond) ++ ((wsX30) ++ (wvX11_refreshed ++ (wvX9_total))))
theorem huX11_rowSum_3 : ∀ w ∈ u_ws RX3 TX3 17, w ∈ wvX11_rowSum := fun w h => List.mem_cons_of_mem _ (List.mem_append_right _ (List.mem_append_left _ h))
theorem hbX11_rowSum_X11_refreshed : ∀ w ∈ wvX11_refreshed, w ∈ wvX11_rowSum := fun w h => List.mem_cons_of_mem _ (List.mem_append_right _ (List.mem_append_right _ (List.mem_append_left _ h)))
theorem hbX11_rowSum_X9_total : ∀ w ∈ wvX9_total, w ∈ wvX11_rowSum := fun w h => List.mem_cons_of_mem _ (List.mem_append_right _ (List.mem_append_right _ (List.mem_append_right _ h)))
theorem gdX11_rowSum : ∀ w ∈ wvX11_rowSum, wkGd w := wkGdC rfl (wkGdA (wkGdL (by decide +kernel)) (wkGdA gdX3 (wkGdA gdX11_refreshed gdX9_total)))
def rX11_rowSum (F : Nat) (k n : Nat) (l0A : Nat) (l1I : Int32) (S : wPS) (Φ : (Int64 → wPS → Prop)) (Ψ : String → wPS → Prop) : Prop :=
  ∃ k4 n5 : Nat, 0 + k4 ≤ k ∧ 0 + n5 ≤ n ∧ rX11_refreshed F k4 n5 l0A l1I S (fun v1 S2 => rX9_total F (wkAd (gEntry_row S2 v1)) S2 fun v6 S7 => Φ v6 S7) Ψ
set_option maxHeartbeats 4000000 in
set_option maxRecDepth 100000 in
theorem tX11_rowSum {l : Launch} {g : wkG} {F : Nat} {k n : Nat}  {S : wPS} {l0A : Nat} {l1I : Int32} {Φ : (Int64 → wPS → Prop)} {Ψ : String → wPS → Prop} (hst : wkSta g) (hex : wkExA g) (hlt : l.stackTraces = false) (hW : wkWF S) (hl0A : wkIs S l0A 11) (h : rX11_rowSum F k n l0A l1I S Φ Ψ) : wkMetX l g yX11_rowSum wvX11_rowSum 56 k n [.ref l0A, .int l1I] S (fun v' S'' => ∃ v : Int64, v' = some (.long v) ∧ Φ v S'' ∧ wkWF S'' ∧ wkExt S S'') (fun E S'' => Ψ E S'' ∧ wkWF S'' ∧ wkExt S S'') := by
  refine wkMetX_of (ret := (some .long)) (by decide) rfl (Nat.le_of_ble_eq_true rfl) rfl hex hlt (by decide) (fun X hg C hR E EX ET => ?_)
  subst hg
  have hE : wkExt S S := wkExt.rf
  have hd : 56 ≤ 56 := Nat.le_refl _
  show wkGo l X 2 0 0 0 S [some (.ref l0A), some (.int l1I)] []
  unfold rX11_rowSum at h
  refine wk_aload_n C dX11_rowSum_0 rfl rfl ?_
  refine wk_iload_n C dX11_rowSum_1 rfl rfl ?_
  obtain ⟨k4, n5, hk4, hn5, h⟩ := h
  refine wk_callVX C hR EX (As := [.int l1I]) (cnt := 1) (tX11_refreshed (l := l) hst hex hlt hW hl0A h) rfl (wkGoodV (List.mem_of_getElem? (i := 1) rfl) (List.mem_of_getElem? (i := 2) rfl) (List.mem_of_getElem? (i := 3) rfl) (List.mem_of_getElem? (i := 4) rfl) hbX11_rowSum_X11_refreshed gdX11_refreshed) (Nat.le_trans (by decide : 55 + 1 ≤ 56) hd) (by decide) hl0A.1 (fun cy => wAt_11 cy _ hl0A.2) rfl ⟨by decide, by decide, by decide +kernel⟩ rfl rfl (Nat.le_of_ble_eq_true rfl) hk4 hn5 dX11_rowSum_2 (fun E S' q => ⟨q.1, q.2.1, wkExt.tr hE q.2.2⟩) (fun v' S2 hp => ?_)
  obtain ⟨v1, rfl, h, hWS2, hXS2, hIS2⟩ := hp
  refine wk_get C huX11_rowSum_3 hIS2.1 (fun cy => wAt_3 cy _ hIS2.2) rfl 13 (by decide) (List.mem_of_getElem? (i := 5) rfl) rfl (congrArg some (congrArg va_rf (wf_Entry_row hWS2 hIS2).1)) dX11_rowSum_5 ?_
  refine wk_callV C hR (As := []) (cnt := 0) (tX9_total (l := l) hWS2 (wf_Entry_row hWS2 hIS2).2 h) rfl (wkGoodV (List.mem_of_getElem? (i := 6) rfl) (List.mem_of_getElem? (i := 7) rfl) (List.mem_of_getElem? (i := 8) rfl) (List.mem_of_getElem? (i := 9) rfl) hbX11_rowSum_X9_total gdX9_total) (Nat.le_trans (by decide : 0 + 1 ≤ 56) hd) (by decide) (wf_Entry_row hWS2 hIS2).2.1 (fun cy => wAt_9 cy _ (wf_Entry_row hWS2 hIS2).2.2) rfl ⟨by decide, by decide, by decide +kernel⟩ rfl rfl (Nat.le_of_ble_eq_true rfl) hk4 hn5 dX11_rowSum_8 (fun v' S7 hp => ?_)
  obtain ⟨v6, rfl, h, hWS7, hXS7⟩ := hp
  exact E _ _ _ _ _ _ hk4 hn5 dX11_rowSum_11 ⟨v6, rfl, h, hWS7, (wkExt.tr (wkExt.tr hE hXS2) hXS7)⟩
def wvX11_borrow : List Cond := .code yX11_borrow cX11_borrow 3 (some .int) :: (([.methodLink RX11 144 yX11_refreshed, .instanceMethod yX11_refreshed, .selects RX11 yX11_refreshed yX11_refreshed, .initialized RX11, .fieldLink RX11 227 "Witnessworks$Entry" "row" "LWitnessworks$Row;", .fieldLink RX11 230 "Witnessworks$Row" "count" "I", .fieldLink RX11 47 "Witnessworks" "typed" "LWitnessworks$Row;", .methodLink RX11 362 yX9_copy, .instanceMethod yX9_copy, .selects RX9 yX9_copy yX9_copy, .initialized RX9] : List Cond) ++ ((wsX30 ++ (wsX90 ++ (wsX110))) ++ (wvX11_refreshed ++ (wvX9_copy))))
theorem huX11_borrow_3 : ∀ w ∈ u_ws RX3 TX3 17, w ∈ wvX11_borrow := fun w h => List.mem_cons_of_mem _ (List.mem_append_right _ (List.mem_append_left _ (List.mem_append_left _ h)))
theorem huX11_borrow_9 : ∀ w ∈ u_ws RX9 TX9 2, w ∈ wvX11_borrow := fun w h => List.mem_cons_of_mem _ (List.mem_append_right _ (List.mem_append_left _ (List.mem_append_right _ (List.mem_append_left _ h))))
theorem huX11_borrow_11 : ∀ w ∈ u_ws RX11 TX11 19, w ∈ wvX11_borrow := fun w h => List.mem_cons_of_mem _ (List.mem_append_right _ (List.mem_append_left _ (List.mem_append_right _ (List.mem_append_right _ h))))
theorem hbX11_borrow_X11_refreshed : ∀ w ∈ wvX11_refreshed, w ∈ wvX11_borrow := fun w h => List.mem_cons_of_mem _ (List.mem_append_right _ (List.mem_append_right _ (List.mem_append_left _ h)))
theorem hbX11_borrow_X9_copy : ∀ w ∈ wvX9_copy, w ∈ wvX11_borrow := fun w h => List.mem_cons_of_mem _ (List.mem_append_right _ (List.mem_append_right _ (List.mem_append_right _ h)))
theorem gdX11_borrow : ∀ w ∈ wvX11_borrow, wkGd w := wkGdC rfl (wkGdA (wkGdL (by decide +kernel)) (wkGdA (wkGdA gdX3 (wkGdA gdX9 gdX11)) (wkGdA gdX11_refreshed gdX9_copy)))
def rX11_borrow (F : Nat) (k n : Nat) (l0A : Nat) (l1I : Int32) (S : wPS) (Φ : (Int32 → wPS → Prop)) (Ψ : String → wPS → Prop) : Prop :=
  ∃ k4 n5 : Nat, 0 + k4 ≤ k ∧ 0 + n5 ≤ n ∧ rX11_refreshed F k4 n5 l0A l1I S (fun v1 S2 => if (gRow_count S2 (wkAd (gEntry_row S2 v1))) ≤ (64 : Int32) then (∃ k10 n11 : Nat, (0 + k4) + k10 ≤ k ∧ (0 + n5) + n11 ≤ n ∧ rX9_copy F k10 n11 (wkAd (gWitnessworks_typed S2 l0A)) (wkAd (gEntry_row S2 v1)) S2 fun v7 S8 => Φ (gRow_count S8 (wkAd (gWitnessworks_typed S8 l0A))) S8) else ((0 + k4) + 1 ≤ k ∧ (0 + n5) + 6 ≤ n ∧ Ψ "java/lang/UnsupportedOperationException" S2)) Ψ
set_option maxHeartbeats 4000000 in
set_option maxRecDepth 100000 in
theorem tX11_borrow {l : Launch} {g : wkG} {F : Nat} {k n : Nat}  {S : wPS} {l0A : Nat} {l1I : Int32} {Φ : (Int32 → wPS → Prop)} {Ψ : String → wPS → Prop} (hst : wkSta g) (hex : wkExA g) (hlt : l.stackTraces = false) (hW : wkWF S) (hl0A : wkIs S l0A 11) (h : rX11_borrow F k n l0A l1I S Φ Ψ) : wkMetX l g yX11_borrow wvX11_borrow 56 k n [.ref l0A, .int l1I] S (fun v' S'' => ∃ v : Int32, v' = some (.int v) ∧ Φ v S'' ∧ wkWF S'' ∧ wkExt S S'') (fun E S'' => Ψ E S'' ∧ wkWF S'' ∧ wkExt S S'') := by
  refine wkMetX_of (ret := (some .int)) (by decide) rfl (Nat.le_of_ble_eq_true rfl) rfl hex hlt (by decide) (fun X hg C hR E EX ET => ?_)
  subst hg
  have hE : wkExt S S := wkExt.rf
  have hd : 56 ≤ 56 := Nat.le_refl _
  show wkGo l X 3 0 0 0 S [some (.ref l0A), some (.int l1I), none] []
  unfold rX11_borrow at h
  refine wk_aload_n C dX11_borrow_0 rfl rfl ?_
  refine wk_iload_n C dX11_borrow_1 rfl rfl ?_
  obtain ⟨k4, n5, hk4, hn5, h⟩ := h
  refine wk_callVX C hR EX (As := [.int l1I]) (cnt := 1) (tX11_refreshed (l := l) hst hex hlt hW hl0A h) rfl (wkGoodV (List.mem_of_getElem? (i := 1) rfl) (List.mem_of_getElem? (i := 2) rfl) (List.mem_of_getElem? (i := 3) rfl) (List.mem_of_getElem? (i := 4) rfl) hbX11_borrow_X11_refreshed gdX11_refreshed) (Nat.le_trans (by decide : 55 + 1 ≤ 56) hd) (by decide) hl0A.1 (fun cy => wAt_11 cy _ hl0A.2) rfl ⟨by decide, by decide, by decide +kernel⟩ rfl rfl (Nat.le_of_ble_eq_true rfl) hk4 hn5 dX11_borrow_2 (fun E S' q => ⟨q.1, q.2.1, wkExt.tr hE q.2.2⟩) (fun v' S2 hp => ?_)
  obtain ⟨v1, rfl, h, hWS2, hXS2, hIS2⟩ := hp
  refine wk_astore_n C (lv' := [some (.ref l0A), some (.int l1I), some (.ref v1)]) dX11_borrow_5 rfl (by decide) rfl ?_
  refine wk_aload_n C dX11_borrow_6 rfl rfl ?_
  refine wk_get C huX11_borrow_3 hIS2.1 (fun cy => wAt_3 cy _ hIS2.2) rfl 13 (by decide) (List.mem_of_getElem? (i := 5) rfl) rfl (congrArg some (congrArg va_rf (wf_Entry_row hWS2 hIS2).1)) dX11_borrow_7 ?_
  refine wk_get C (v := .int (gRow_count S2 (wkAd (gEntry_row S2 v1)))) huX11_borrow_9 (wf_Entry_row hWS2 hIS2).2.1 (fun cy => wAt_9 cy _ (wf_Entry_row hWS2 hIS2).2.2) rfl 1 (by decide) (List.mem_of_getElem? (i := 6) rfl) rfl rfl dX11_borrow_10 ?_
  refine wk_bipush C (v := 64) dX11_borrow_13 (by decide) ?_
  refine wk_icmp_le C (tgt := 29) dX11_borrow_15 (by decide) (fun c6 => ?_) (fun c6 => ?_)
  · rw [if_pos c6] at h
    refine wk_aload_n C dX11_borrow_29 rfl rfl ?_
    refine wk_get C huX11_borrow_11 (hXS2 _ _ hl0A).1 (fun cy => wAt_11 cy _ (hXS2 _ _ hl0A).2) rfl 11 (by decide) (List.mem_of_getElem? (i := 7) rfl) rfl (congrArg some (congrArg va_rf (wf_Witnessworks_typed hWS2 (hXS2 _ _ hl0A)).1)) dX11_borrow_30 ?_
    refine wk_aload_n C dX11_borrow_33 rfl rfl ?_
    refine wk_get C huX11_borrow_3 hIS2.1 (fun cy => wAt_3 cy _ hIS2.2) rfl 13 (by decide) (List.mem_of_getElem? (i := 5) rfl) rfl (congrArg some (congrArg va_rf (wf_Entry_row hWS2 hIS2).1)) dX11_borrow_34 ?_
    obtain ⟨k10, n11, hk10, hn11, h⟩ := h
    refine wk_callV C hR (As := [.ref (wkAd (gEntry_row S2 v1))]) (cnt := 1) (tX9_copy (l := l) hWS2 (wf_Witnessworks_typed hWS2 (hXS2 _ _ hl0A)).2 (wf_Entry_row hWS2 hIS2).2 h) rfl (wkGoodV (List.mem_of_getElem? (i := 8) rfl) (List.mem_of_getElem? (i := 9) rfl) (List.mem_of_getElem? (i := 10) rfl) (List.mem_of_getElem? (i := 11) rfl) hbX11_borrow_X9_copy gdX9_copy) (Nat.le_trans (by decide : 1 + 1 ≤ 56) hd) (by decide) (wf_Witnessworks_typed hWS2 (hXS2 _ _ hl0A)).2.1 (fun cy => wAt_9 cy _ (wf_Witnessworks_typed hWS2 (hXS2 _ _ hl0A)).2.2) rfl ⟨by decide, by decide, by decide +kernel⟩ rfl rfl (Nat.le_of_ble_eq_true rfl) hk10 hn11 dX11_borrow_37 (fun v' S8 hp => ?_)
    obtain ⟨v7, rfl, h, hWS8, hXS8⟩ := hp
    refine wk_aload_n C dX11_borrow_40 rfl rfl ?_
    refine wk_get C huX11_borrow_11 (hXS8 _ _ (hXS2 _ _ hl0A)).1 (fun cy => wAt_11 cy _ (hXS8 _ _ (hXS2 _ _ hl0A)).2) rfl 11 (by decide) (List.mem_of_getElem? (i := 7) rfl) rfl (congrArg some (congrArg va_rf (wf_Witnessworks_typed hWS8 (hXS8 _ _ (hXS2 _ _ hl0A))).1)) dX11_borrow_41 ?_
    refine wk_get C (v := .int (gRow_count S8 (wkAd (gWitnessworks_typed S8 l0A)))) huX11_borrow_9 (wf_Witnessworks_typed hWS8 (hXS8 _ _ (hXS2 _ _ hl0A))).2.1 (fun cy => wAt_9 cy _ (wf_Witnessworks_typed hWS8 (hXS8 _ _ (hXS2 _ _ hl0A))).2.2) rfl 1 (by decide) (List.mem_of_getElem? (i := 6) rfl) rfl rfl dX11_borrow_44 ?_
    exact E _ _ _ _ _ _ hk10 hn11 dX11_borrow_47 ⟨(gRow_count S8 (wkAd (gWitnessworks_typed S8 l0A))), rfl, h, hWS8, (wkExt.tr (wkExt.tr hE hXS2) hXS8)⟩
  · rw [if_neg c6] at h
    obtain ⟨t12a, t12b, h⟩ := h
    exact ET _ _ _ _ _ _ (166, 360, 170, "java/lang/UnsupportedOperationException", "the row is too long") (by decide +kernel) (Nat.le_of_ble_eq_true rfl) (Or.inr ⟨dX11_borrow_18, dX11_borrow_21, dX11_borrow_22, dX11_borrow_25, dX11_borrow_28⟩) ⟨h, hWS2, (wkExt.tr hE hXS2)⟩ t12a t12b
def wvX11_bring : List Cond := .code yX11_bring cX11_bring 3 (some .int) :: (([.methodLink RX11 366 yX11_wouldBeCarriedSo, .instanceMethod yX11_wouldBeCarriedSo, .selects RX11 yX11_wouldBeCarriedSo yX11_wouldBeCarriedSo, .initialized RX11, .fieldLink RX11 10 "Witnessworks" "house" "LWitnessworks$House;", .fieldLink RX11 18 "Witnessworks" "book" "[LWitnessworks$Entry;", .fieldLink RX11 191 "Witnessworks$Entry" "origin" "I", .methodLink RX11 372 yX4_canBringBack, .instanceMethod yX4_canBringBack, .selects RX4 yX4_canBringBack yX4_canBringBack, .initialized RX4, .fieldLink RX11 47 "Witnessworks" "typed" "LWitnessworks$Row;", .methodLink RX11 378 yX4_bringBack, .instanceMethod yX4_bringBack, .selects RX4 yX4_bringBack yX4_bringBack, .fieldLink RX11 230 "Witnessworks$Row" "count" "I", .methodLink RX11 144 yX11_refreshed, .instanceMethod yX11_refreshed, .selects RX11 yX11_refreshed yX11_refreshed] : List Cond) ++ ((wsX110 ++ (wsX30 ++ (wsX90))) ++ (wvX11_wouldBeCarriedSo ++ (wvX4_canBringBack ++ (wvX4_bringBack ++ (wvX11_refreshed))))))
theorem huX11_bring_11 : ∀ w ∈ u_ws RX11 TX11 19, w ∈ wvX11_bring := fun w h => List.mem_cons_of_mem _ (List.mem_append_right _ (List.mem_append_left _ (List.mem_append_left _ h)))
theorem huX11_bring_3 : ∀ w ∈ u_ws RX3 TX3 17, w ∈ wvX11_bring := fun w h => List.mem_cons_of_mem _ (List.mem_append_right _ (List.mem_append_left _ (List.mem_append_right _ (List.mem_append_left _ h))))
theorem huX11_bring_9 : ∀ w ∈ u_ws RX9 TX9 2, w ∈ wvX11_bring := fun w h => List.mem_cons_of_mem _ (List.mem_append_right _ (List.mem_append_left _ (List.mem_append_right _ (List.mem_append_right _ h))))
theorem hbX11_bring_X11_wouldBeCarriedSo : ∀ w ∈ wvX11_wouldBeCarriedSo, w ∈ wvX11_bring := fun w h => List.mem_cons_of_mem _ (List.mem_append_right _ (List.mem_append_right _ (List.mem_append_left _ h)))
theorem hbX11_bring_X4_canBringBack : ∀ w ∈ wvX4_canBringBack, w ∈ wvX11_bring := fun w h => List.mem_cons_of_mem _ (List.mem_append_right _ (List.mem_append_right _ (List.mem_append_right _ (List.mem_append_left _ h))))
theorem hbX11_bring_X4_bringBack : ∀ w ∈ wvX4_bringBack, w ∈ wvX11_bring := fun w h => List.mem_cons_of_mem _ (List.mem_append_right _ (List.mem_append_right _ (List.mem_append_right _ (List.mem_append_right _ (List.mem_append_left _ h)))))
theorem hbX11_bring_X11_refreshed : ∀ w ∈ wvX11_refreshed, w ∈ wvX11_bring := fun w h => List.mem_cons_of_mem _ (List.mem_append_right _ (List.mem_append_right _ (List.mem_append_right _ (List.mem_append_right _ (List.mem_append_right _ h)))))
theorem gdX11_bring : ∀ w ∈ wvX11_bring, wkGd w := wkGdC rfl (wkGdA (wkGdL (by decide +kernel)) (wkGdA (wkGdA gdX11 (wkGdA gdX3 gdX9)) (wkGdA gdX11_wouldBeCarriedSo (wkGdA gdX4_canBringBack (wkGdA gdX4_bringBack gdX11_refreshed)))))
def rX11_bring_b0 (F : Nat) (k n : Nat) (rec : Nat → Nat → Nat → Nat → Nat → wPS → (Int32 → wPS → Prop) → (String → wPS → Prop) → Prop) (c s : Nat) (l0A : Nat) (l2A : Nat) (S : wPS) (Φ : (Int32 → wPS → Prop)) (Ψ : String → wPS → Prop) : Prop :=
  rX11_wouldBeCarriedSo F l0A l2A S fun v1 S2 => if v1 = 0 then (c + 1 ≤ k ∧ s + 6 ≤ n ∧ Ψ "java/lang/UnsupportedOperationException" S2) else (¬ ((gEntry_origin S2 l2A) < 0 ∨ S2.len (wkAd (gWitnessworks_book S2 l0A)) ≤ ((gEntry_origin S2 l2A)).toNatClampNeg) ∧ rX4_canBringBack F (wkAd (gWitnessworks_house S2 l0A)) l2A (wkAd (S2.rA (wkAd (gWitnessworks_book S2 l0A)) ((gEntry_origin S2 l2A)).toNatClampNeg)) S2 fun v9 S10 => if v9 = 0 then (c + 1 ≤ k ∧ s + 6 ≤ n ∧ Ψ "java/lang/UnsupportedOperationException" S10) else (¬ ((gEntry_origin S10 l2A) < 0 ∨ S10.len (wkAd (gWitnessworks_book S10 l0A)) ≤ ((gEntry_origin S10 l2A)).toNatClampNeg) ∧ ∃ k20 n21 : Nat, c + k20 ≤ k ∧ s + n21 ≤ n ∧ rX4_bringBack F k20 n21 (wkAd (gWitnessworks_house S10 l0A)) l2A (wkAd (S10.rA (wkAd (gWitnessworks_book S10 l0A)) ((gEntry_origin S10 l2A)).toNatClampNeg)) (wkAd (gWitnessworks_typed S10 l0A)) S10 fun v17 S18 => Φ (gRow_count S18 (wkAd (gWitnessworks_typed S18 l0A))) S18))
def rX11_bring_go (F : Nat) (k n : Nat) : Nat → Nat → Nat → Nat → Nat → Nat → wPS → (Int32 → wPS → Prop) → (String → wPS → Prop) → Prop
  | 0, _, _, _, _, _, _, _, _ => False
  | k' + 1, lab, c, s, l0A, l2A, S, Φ, Ψ => if lab = 0 then rX11_bring_b0 F k n (rX11_bring_go F k n k') c s l0A l2A S Φ Ψ else False
def rX11_bring_s (F : Nat) (k n : Nat) (rec : Nat → Nat → Nat → Nat → Nat → wPS → (Int32 → wPS → Prop) → (String → wPS → Prop) → Prop) (l0A : Nat) (l1I : Int32) (S : wPS) (Φ : (Int32 → wPS → Prop)) (Ψ : String → wPS → Prop) : Prop :=
  ∃ k27 n28 : Nat, 0 + k27 ≤ k ∧ 0 + n28 ≤ n ∧ rX11_refreshed F k27 n28 l0A l1I S (fun v24 S25 => if (gEntry_origin S25 v24) < 0 then (rec 0 (0 + k27) (0 + n28) l0A v24 S25 Φ Ψ) else (∃ k33 n34 : Nat, (0 + k27) + k33 ≤ k ∧ (0 + n28) + n34 ≤ n ∧ rX11_refreshed F k33 n34 l0A (gEntry_origin S25 v24) S25 (fun v30 S31 => rec 0 ((0 + k27) + k33) ((0 + n28) + n34) l0A v24 S31 Φ Ψ) Ψ)) Ψ
def rX11_bring (F : Nat) (k n : Nat) (l0A : Nat) (l1I : Int32) (S : wPS) (Φ : (Int32 → wPS → Prop)) (Ψ : String → wPS → Prop) : Prop := rX11_bring_s F k n (rX11_bring_go F k n F) l0A l1I S Φ Ψ
set_option maxHeartbeats 4000000 in
set_option maxRecDepth 100000 in
theorem tX11_bring_go {k n : Nat} {l : Launch} {X : wkX} {d F : Nat} {S0 : wPS} {Φ : (Int32 → wPS → Prop)} {Ψ : String → wPS → Prop} (hst : wkSta (wkXg X)) (C : wkC X cX11_bring RX11 3 wvX11_bring) (hR : wkRm X d k n) (hd : 56 ≤ d) (hex : wkExA (wkXg X)) (hlt : l.stackTraces = false) (EX : wkEndX l X cX11_bring 3 k n (fun E S'' => Ψ E S'' ∧ wkWF S'' ∧ wkExt S0 S'')) (ET : wkEndT l X cX11_bring 3 k n (fun E S'' => Ψ E S'' ∧ wkWF S'' ∧ wkExt S0 S'')) (E : wkEnd l X cX11_bring 3 (some .int) k n (fun v' S'' => ∃ v : Int32, v' = some (.int v) ∧ Φ v S'' ∧ wkWF S'' ∧ wkExt S0 S'')) : ∀ k' : Nat, (∀ (c s : Nat), c ≤ k → s ≤ n → ∀ (l0A : Nat) (l2A : Nat) (S : wPS), wkWF S → wkExt S0 S → wkIs S l0A 11 → wkIs S l2A 3 → rX11_bring_go F k n k' 0 c s l0A l2A S Φ Ψ → wkGo l X 3 c s 22 S [some (.ref l0A), none, some (.ref l2A)] []) := by
  intro k'
  induction k' with
  | zero => exact fun c s hc hs l0A l2A S hW hE hl0A hl2A h => h.elim
  | succ k' ih =>
    · intro c s hc hs l0A l2A S hW hE hl0A hl2A h
      have h : rX11_bring_b0 F k n (rX11_bring_go F k n k') c s l0A l2A S Φ Ψ := by
        rw [rX11_bring_go, if_pos (rfl : (0 : Nat) = 0)] at h
        exact h
      unfold rX11_bring_b0 at h
      refine wk_aload_n C dX11_bring_22 rfl rfl ?_
      refine wk_aload_n C dX11_bring_23 rfl rfl ?_
      refine wk_callV C hR (As := [.ref l2A]) (cnt := 1) (tX11_wouldBeCarriedSo (l := l) hst hW hl0A hl2A h) rfl (wkGoodV (List.mem_of_getElem? (i := 1) rfl) (List.mem_of_getElem? (i := 2) rfl) (List.mem_of_getElem? (i := 3) rfl) (List.mem_of_getElem? (i := 4) rfl) hbX11_bring_X11_wouldBeCarriedSo gdX11_wouldBeCarriedSo) (Nat.le_trans (by decide : 5 + 1 ≤ 56) hd) (by decide) hl0A.1 (fun cy => wAt_11 cy _ hl0A.2) rfl ⟨by decide, by decide, by decide +kernel⟩ rfl rfl (Nat.le_of_ble_eq_true rfl) hc hs dX11_bring_24 (fun v' S2 hp => ?_)
      obtain ⟨v1, rfl, h, hWS2, hXS2⟩ := hp
      refine wk_if_ne C (tgt := 41) dX11_bring_27 (by decide) (fun c6 => ?_) (fun c6 => ?_)
      · rw [if_neg c6] at h
        refine wk_aload_n C dX11_bring_41 rfl rfl ?_
        refine wk_get C huX11_bring_11 (hXS2 _ _ hl0A).1 (fun cy => wAt_11 cy _ (hXS2 _ _ hl0A).2) rfl 0 (by decide) (List.mem_of_getElem? (i := 5) rfl) rfl (congrArg some (congrArg va_rf (wf_Witnessworks_house hWS2 (hXS2 _ _ hl0A)).1)) dX11_bring_42 ?_
        refine wk_aload_n C dX11_bring_45 rfl rfl ?_
        refine wk_aload_n C dX11_bring_46 rfl rfl ?_
        refine wk_get C huX11_bring_11 (hXS2 _ _ hl0A).1 (fun cy => wAt_11 cy _ (hXS2 _ _ hl0A).2) rfl 1 (by decide) (List.mem_of_getElem? (i := 6) rfl) rfl (congrArg some (congrArg va_rf (wf_Witnessworks_book hWS2 (hXS2 _ _ hl0A)).1)) dX11_bring_47 ?_
        refine wk_aload_n C dX11_bring_50 rfl rfl ?_
        refine wk_get C (v := .int (gEntry_origin S2 l2A)) huX11_bring_3 (hXS2 _ _ hl2A).1 (fun cy => wAt_3 cy _ (hXS2 _ _ hl2A).2) rfl 5 (by decide) (List.mem_of_getElem? (i := 7) rfl) rfl rfl dX11_bring_51 ?_
        obtain ⟨i7, h⟩ := h
        have w8 := wf_REntry hWS2 (wf_Witnessworks_book hWS2 (hXS2 _ _ hl0A)).2 (Nat.not_le.mp fun q => i7 (Or.inr q))
        refine wk_aaldEntry C (wf_Witnessworks_book hWS2 (hXS2 _ _ hl0A)).2.1 (wf_Witnessworks_book hWS2 (hXS2 _ _ hl0A)).2.2 i7 w8.1 dX11_bring_54 ?_
        refine wk_callV C hR (As := [.ref l2A, .ref (wkAd (S2.rA (wkAd (gWitnessworks_book S2 l0A)) ((gEntry_origin S2 l2A)).toNatClampNeg))]) (cnt := 2) (tX4_canBringBack (l := l) hWS2 (wf_Witnessworks_house hWS2 (hXS2 _ _ hl0A)).2 (hXS2 _ _ hl2A) w8.2 h) rfl (wkGoodV (List.mem_of_getElem? (i := 8) rfl) (List.mem_of_getElem? (i := 9) rfl) (List.mem_of_getElem? (i := 10) rfl) (List.mem_of_getElem? (i := 11) rfl) hbX11_bring_X4_canBringBack gdX4_canBringBack) (Nat.le_trans (by decide : 1 + 1 ≤ 56) hd) (by decide) (wf_Witnessworks_house hWS2 (hXS2 _ _ hl0A)).2.1 (fun cy => wAt_4 cy _ (wf_Witnessworks_house hWS2 (hXS2 _ _ hl0A)).2.2) rfl ⟨by decide, by decide, by decide +kernel⟩ rfl rfl (Nat.le_of_ble_eq_true rfl) hc hs dX11_bring_55 (fun v' S10 hp => ?_)
        obtain ⟨v9, rfl, h, hWS10, hXS10⟩ := hp
        refine wk_if_ne C (tgt := 72) dX11_bring_58 (by decide) (fun c14 => ?_) (fun c14 => ?_)
        · rw [if_neg c14] at h
          refine wk_aload_n C dX11_bring_72 rfl rfl ?_
          refine wk_get C huX11_bring_11 (hXS10 _ _ (hXS2 _ _ hl0A)).1 (fun cy => wAt_11 cy _ (hXS10 _ _ (hXS2 _ _ hl0A)).2) rfl 0 (by decide) (List.mem_of_getElem? (i := 5) rfl) rfl (congrArg some (congrArg va_rf (wf_Witnessworks_house hWS10 (hXS10 _ _ (hXS2 _ _ hl0A))).1)) dX11_bring_73 ?_
          refine wk_aload_n C dX11_bring_76 rfl rfl ?_
          refine wk_aload_n C dX11_bring_77 rfl rfl ?_
          refine wk_get C huX11_bring_11 (hXS10 _ _ (hXS2 _ _ hl0A)).1 (fun cy => wAt_11 cy _ (hXS10 _ _ (hXS2 _ _ hl0A)).2) rfl 1 (by decide) (List.mem_of_getElem? (i := 6) rfl) rfl (congrArg some (congrArg va_rf (wf_Witnessworks_book hWS10 (hXS10 _ _ (hXS2 _ _ hl0A))).1)) dX11_bring_78 ?_
          refine wk_aload_n C dX11_bring_81 rfl rfl ?_
          refine wk_get C (v := .int (gEntry_origin S10 l2A)) huX11_bring_3 (hXS10 _ _ (hXS2 _ _ hl2A)).1 (fun cy => wAt_3 cy _ (hXS10 _ _ (hXS2 _ _ hl2A)).2) rfl 5 (by decide) (List.mem_of_getElem? (i := 7) rfl) rfl rfl dX11_bring_82 ?_
          obtain ⟨i15, h⟩ := h
          have w16 := wf_REntry hWS10 (wf_Witnessworks_book hWS10 (hXS10 _ _ (hXS2 _ _ hl0A))).2 (Nat.not_le.mp fun q => i15 (Or.inr q))
          refine wk_aaldEntry C (wf_Witnessworks_book hWS10 (hXS10 _ _ (hXS2 _ _ hl0A))).2.1 (wf_Witnessworks_book hWS10 (hXS10 _ _ (hXS2 _ _ hl0A))).2.2 i15 w16.1 dX11_bring_85 ?_
          refine wk_aload_n C dX11_bring_86 rfl rfl ?_
          refine wk_get C huX11_bring_11 (hXS10 _ _ (hXS2 _ _ hl0A)).1 (fun cy => wAt_11 cy _ (hXS10 _ _ (hXS2 _ _ hl0A)).2) rfl 11 (by decide) (List.mem_of_getElem? (i := 12) rfl) rfl (congrArg some (congrArg va_rf (wf_Witnessworks_typed hWS10 (hXS10 _ _ (hXS2 _ _ hl0A))).1)) dX11_bring_87 ?_
          obtain ⟨k20, n21, hk20, hn21, h⟩ := h
          refine wk_callV C hR (As := [.ref l2A, .ref (wkAd (S10.rA (wkAd (gWitnessworks_book S10 l0A)) ((gEntry_origin S10 l2A)).toNatClampNeg)), .ref (wkAd (gWitnessworks_typed S10 l0A))]) (cnt := 3) (tX4_bringBack (l := l) hWS10 (wf_Witnessworks_house hWS10 (hXS10 _ _ (hXS2 _ _ hl0A))).2 (hXS10 _ _ (hXS2 _ _ hl2A)) w16.2 (wf_Witnessworks_typed hWS10 (hXS10 _ _ (hXS2 _ _ hl0A))).2 h) rfl (wkGoodV (List.mem_of_getElem? (i := 13) rfl) (List.mem_of_getElem? (i := 14) rfl) (List.mem_of_getElem? (i := 15) rfl) (List.mem_of_getElem? (i := 11) rfl) hbX11_bring_X4_bringBack gdX4_bringBack) (Nat.le_trans (by decide : 4 + 1 ≤ 56) hd) (by decide) (wf_Witnessworks_house hWS10 (hXS10 _ _ (hXS2 _ _ hl0A))).2.1 (fun cy => wAt_4 cy _ (wf_Witnessworks_house hWS10 (hXS10 _ _ (hXS2 _ _ hl0A))).2.2) rfl ⟨by decide, by decide, by decide +kernel⟩ rfl rfl (Nat.le_of_ble_eq_true rfl) hk20 hn21 dX11_bring_90 (fun v' S18 hp => ?_)
          obtain ⟨v17, rfl, h, hWS18, hXS18⟩ := hp
          refine wk_aload_n C dX11_bring_93 rfl rfl ?_
          refine wk_get C huX11_bring_11 (hXS18 _ _ (hXS10 _ _ (hXS2 _ _ hl0A))).1 (fun cy => wAt_11 cy _ (hXS18 _ _ (hXS10 _ _ (hXS2 _ _ hl0A))).2) rfl 11 (by decide) (List.mem_of_getElem? (i := 12) rfl) rfl (congrArg some (congrArg va_rf (wf_Witnessworks_typed hWS18 (hXS18 _ _ (hXS10 _ _ (hXS2 _ _ hl0A)))).1)) dX11_bring_94 ?_
          refine wk_get C (v := .int (gRow_count S18 (wkAd (gWitnessworks_typed S18 l0A)))) huX11_bring_9 (wf_Witnessworks_typed hWS18 (hXS18 _ _ (hXS10 _ _ (hXS2 _ _ hl0A)))).2.1 (fun cy => wAt_9 cy _ (wf_Witnessworks_typed hWS18 (hXS18 _ _ (hXS10 _ _ (hXS2 _ _ hl0A)))).2.2) rfl 1 (by decide) (List.mem_of_getElem? (i := 16) rfl) rfl rfl dX11_bring_97 ?_
          exact E _ _ _ _ _ _ hk20 hn21 dX11_bring_100 ⟨(gRow_count S18 (wkAd (gWitnessworks_typed S18 l0A))), rfl, h, hWS18, (wkExt.tr (wkExt.tr (wkExt.tr hE hXS2) hXS10) hXS18)⟩
        · rw [if_pos c14] at h
          obtain ⟨t22a, t22b, h⟩ := h
          exact ET _ _ _ _ _ _ (166, 376, 170, "java/lang/UnsupportedOperationException", "nothing can be brought back") (by decide +kernel) (Nat.le_of_ble_eq_true rfl) (Or.inr ⟨dX11_bring_61, dX11_bring_64, dX11_bring_65, dX11_bring_68, dX11_bring_71⟩) ⟨h, hWS10, (wkExt.tr (wkExt.tr hE hXS2) hXS10)⟩ t22a t22b
      · rw [if_pos c6] at h
        obtain ⟨t23a, t23b, h⟩ := h
        exact ET _ _ _ _ _ _ (166, 370, 170, "java/lang/UnsupportedOperationException", "it did not come so from another one") (by decide +kernel) (Nat.le_of_ble_eq_true rfl) (Or.inr ⟨dX11_bring_30, dX11_bring_33, dX11_bring_34, dX11_bring_37, dX11_bring_40⟩) ⟨h, hWS2, (wkExt.tr hE hXS2)⟩ t23a t23b
set_option maxHeartbeats 4000000 in
set_option maxRecDepth 100000 in
theorem tX11_bring {l : Launch} {g : wkG} {F : Nat} {k n : Nat}  {S : wPS} {l0A : Nat} {l1I : Int32} {Φ : (Int32 → wPS → Prop)} {Ψ : String → wPS → Prop} (hst : wkSta g) (hex : wkExA g) (hlt : l.stackTraces = false) (hW : wkWF S) (hl0A : wkIs S l0A 11) (h : rX11_bring F k n l0A l1I S Φ Ψ) : wkMetX l g yX11_bring wvX11_bring 56 k n [.ref l0A, .int l1I] S (fun v' S'' => ∃ v : Int32, v' = some (.int v) ∧ Φ v S'' ∧ wkWF S'' ∧ wkExt S S'') (fun E S'' => Ψ E S'' ∧ wkWF S'' ∧ wkExt S S'') := by
  refine wkMetX_of (ret := (some .int)) (by decide) rfl (Nat.le_of_ble_eq_true rfl) rfl hex hlt (by decide) (fun X hg C hR E EX ET => ?_)
  subst hg
  have hE : wkExt S S := wkExt.rf
  have hd : 56 ≤ 56 := Nat.le_refl _
  show wkGo l X 3 0 0 0 S [some (.ref l0A), some (.int l1I), none] []
  have ih := tX11_bring_go (F := F) hst C hR hd hex hlt EX ET E F
  have h : rX11_bring_s F k n (rX11_bring_go F k n F) l0A l1I S Φ Ψ := h
  unfold rX11_bring_s at h
  refine wk_aload_n C dX11_bring_0 rfl rfl ?_
  refine wk_iload_n C dX11_bring_1 rfl rfl ?_
  obtain ⟨k27, n28, hk27, hn28, h⟩ := h
  refine wk_callVX C hR EX (As := [.int l1I]) (cnt := 1) (tX11_refreshed (l := l) hst hex hlt hW hl0A h) rfl (wkGoodV (List.mem_of_getElem? (i := 17) rfl) (List.mem_of_getElem? (i := 18) rfl) (List.mem_of_getElem? (i := 19) rfl) (List.mem_of_getElem? (i := 4) rfl) hbX11_bring_X11_refreshed gdX11_refreshed) (Nat.le_trans (by decide : 55 + 1 ≤ 56) hd) (by decide) hl0A.1 (fun cy => wAt_11 cy _ hl0A.2) rfl ⟨by decide, by decide, by decide +kernel⟩ rfl rfl (Nat.le_of_ble_eq_true rfl) hk27 hn28 dX11_bring_2 (fun E S' q => ⟨q.1, q.2.1, wkExt.tr hE q.2.2⟩) (fun v' S25 hp => ?_)
  obtain ⟨v24, rfl, h, hWS25, hXS25, hIS25⟩ := hp
  refine wk_astore_n C (lv' := [some (.ref l0A), some (.int l1I), some (.ref v24)]) dX11_bring_5 rfl (by decide) rfl ?_
  refine wk_aload_n C dX11_bring_6 rfl rfl ?_
  refine wk_get C (v := .int (gEntry_origin S25 v24)) huX11_bring_3 hIS25.1 (fun cy => wAt_3 cy _ hIS25.2) rfl 5 (by decide) (List.mem_of_getElem? (i := 7) rfl) rfl rfl dX11_bring_7 ?_
  refine wk_if_lt C (tgt := 22) dX11_bring_10 (by decide) (fun c29 => ?_) (fun c29 => ?_)
  · rw [if_pos c29] at h
    exact wk_forget (lv' := [some (.ref l0A), none, some (.ref v24)]) (wkLs.le ⟨rfl, rfl, trivial⟩) (ih _ _ hk27 hn28 _ _ _ hWS25 (wkExt.tr hE hXS25) (hXS25 _ _ hl0A) hIS25 h)
  · rw [if_neg c29] at h
    refine wk_aload_n C dX11_bring_13 rfl rfl ?_
    refine wk_aload_n C dX11_bring_14 rfl rfl ?_
    refine wk_get C (v := .int (gEntry_origin S25 v24)) huX11_bring_3 hIS25.1 (fun cy => wAt_3 cy _ hIS25.2) rfl 5 (by decide) (List.mem_of_getElem? (i := 7) rfl) rfl rfl dX11_bring_15 ?_
    obtain ⟨k33, n34, hk33, hn34, h⟩ := h
    refine wk_callVX C hR EX (As := [.int (gEntry_origin S25 v24)]) (cnt := 1) (tX11_refreshed (l := l) hst hex hlt hWS25 (hXS25 _ _ hl0A) h) rfl (wkGoodV (List.mem_of_getElem? (i := 17) rfl) (List.mem_of_getElem? (i := 18) rfl) (List.mem_of_getElem? (i := 19) rfl) (List.mem_of_getElem? (i := 4) rfl) hbX11_bring_X11_refreshed gdX11_refreshed) (Nat.le_trans (by decide : 55 + 1 ≤ 56) hd) (by decide) (hXS25 _ _ hl0A).1 (fun cy => wAt_11 cy _ (hXS25 _ _ hl0A).2) rfl ⟨by decide, by decide, by decide +kernel⟩ rfl rfl (Nat.le_of_ble_eq_true rfl) hk33 hn34 dX11_bring_18 (fun E S' q => ⟨q.1, q.2.1, wkExt.tr (wkExt.tr hE hXS25) q.2.2⟩) (fun v' S31 hp => ?_)
    obtain ⟨v30, rfl, h, hWS31, hXS31, hIS31⟩ := hp
    refine wk_pop C dX11_bring_21 rfl ?_
    exact wk_forget (lv' := [some (.ref l0A), none, some (.ref v24)]) (wkLs.le ⟨rfl, rfl, trivial⟩) (ih _ _ hk33 hn34 _ _ _ hWS31 (wkExt.tr (wkExt.tr hE hXS25) hXS31) (hXS31 _ _ (hXS25 _ _ hl0A)) (hXS31 _ _ hIS25) h)
