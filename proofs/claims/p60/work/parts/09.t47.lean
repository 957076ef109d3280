def wvX11_init : List Cond := .code yX11_init cX11_init 2 none :: (([.fieldLink RX11 18 "Witnessworks" "book" "[LWitnessworks$Entry;", .classLink RX11 16 RX3, .instantiable RX3 17, .initialized RX3, .instanceMethod yX3_init, .fieldLink RX11 34 "Witnessworks" "before" "[LWitnessworks$Entry;", .fieldLink RX11 56 "Witnessworks" "claims" "[LWitnessworks$Claim;", .classLink RX11 54 RX0, .instantiable RX0 4, .initialized RX0, .instanceMethod yX0_init, .methodLink RX11 1 objectInit, .instanceMethod objectInit, .code objectInit ⟨#[0xb1]⟩ 1 none, .classLink RX11 7 RX4, .instantiable RX4 8, .initialized RX4, .instanceMethod yX4_init, .fieldLink RX11 10 "Witnessworks" "house" "LWitnessworks$House;", .arrayClass .int, .fieldLink RX11 22 "Witnessworks" "leaningChain" "[I", .fieldLink RX11 26 "Witnessworks" "told" "[I", .fieldLink RX11 30 "Witnessworks" "draft" "LWitnessworks$Entry;", .arrayClass .char, .fieldLink RX11 37 "Witnessworks" "changeLetters" "[C", .fieldLink RX11 41 "Witnessworks" "changedEntries" "[I", .classLink RX11 44 RX9, .instantiable RX9 2, .initialized RX9, .instanceMethod yX9_init, .fieldLink RX11 47 "Witnessworks" "typed" "LWitnessworks$Row;", .fieldLink RX11 51 "Witnessworks" "earned" "[I", .fieldLink RX11 60 "Witnessworks" "errors" "[I"] : List Cond) ++ ((wsX110 ++ (wsX30 ++ (wsX00 ++ (wsX40 ++ (wsX90))))) ++ (wvX3_init ++ (wvX0_init ++ (wvX4_init ++ (wvX9_init))))))
theorem huX11_init_11 : ∀ w ∈ u_ws RX11 TX11 19, w ∈ wvX11_init := fun w h => List.mem_cons_of_mem _ (List.mem_append_right _ (List.mem_append_left _ (List.mem_append_left _ h)))
theorem huX11_init_3 : ∀ w ∈ u_ws RX3 TX3 17, w ∈ wvX11_init := fun w h => List.mem_cons_of_mem _ (List.mem_append_right _ (List.mem_append_left _ (List.mem_append_right _ (List.mem_append_left _ h))))
theorem huX11_init_0 : ∀ w ∈ u_ws RX0 TX0 4, w ∈ wvX11_init := fun w h => List.mem_cons_of_mem _ (List.mem_append_right _ (List.mem_append_left _ (List.mem_append_right _ (List.mem_append_right _ (List.mem_append_left _ h)))))
theorem huX11_init_4 : ∀ w ∈ u_ws RX4 TX4 8, w ∈ wvX11_init := fun w h => List.mem_cons_of_mem _ (List.mem_append_right _ (List.mem_append_left _ (List.mem_append_right _ (List.mem_append_right _ (List.mem_append_right _ (List.mem_append_left _ h))))))
theorem huX11_init_9 : ∀ w ∈ u_ws RX9 TX9 2, w ∈ wvX11_init := fun w h => List.mem_cons_of_mem _ (List.mem_append_right _ (List.mem_append_left _ (List.mem_append_right _ (List.mem_append_right _ (List.mem_append_right _ (List.mem_append_right _ h))))))
theorem hbX11_init_X3_init : ∀ w ∈ wvX3_init, w ∈ wvX11_init := fun w h => List.mem_cons_of_mem _ (List.mem_append_right _ (List.mem_append_right _ (List.mem_append_left _ h)))
theorem hbX11_init_X0_init : ∀ w ∈ wvX0_init, w ∈ wvX11_init := fun w h => List.mem_cons_of_mem _ (List.mem_append_right _ (List.mem_append_right _ (List.mem_append_right _ (List.mem_append_left _ h))))
theorem hbX11_init_X4_init : ∀ w ∈ wvX4_init, w ∈ wvX11_init := fun w h => List.mem_cons_of_mem _ (List.mem_append_right _ (List.mem_append_right _ (List.mem_append_right _ (List.mem_append_right _ (List.mem_append_left _ h)))))
theorem hbX11_init_X9_init : ∀ w ∈ wvX9_init, w ∈ wvX11_init := fun w h => List.mem_cons_of_mem _ (List.mem_append_right _ (List.mem_append_right _ (List.mem_append_right _ (List.mem_append_right _ (List.mem_append_right _ h)))))
theorem gdX11_init : ∀ w ∈ wvX11_init, wkGd w := wkGdC rfl (wkGdA (wkGdL (by decide +kernel)) (wkGdA (wkGdA gdX11 (wkGdA gdX3 (wkGdA gdX0 (wkGdA gdX4 gdX9)))) (wkGdA gdX3_init (wkGdA gdX0_init (wkGdA gdX4_init gdX9_init)))))
def rX11_init_b0 (F : Nat) (k n : Nat) (rec : Nat → Nat → Nat → Nat → Int32 → wPS → (Unit → wPS → Prop) → Prop) (c s : Nat) (l0A : Nat) (l1I : Int32) (S : wPS) (Φ : (Unit → wPS → Prop)) : Prop :=
  if (12 : Int32) ≤ l1I then (rec 1 c s l0A (0 : Int32) S Φ) else (∃ b2 : Nat, (gWitnessworks_book S l0A) = some b2 ∧ wkIs S b2 16 ∧ c + 1 ≤ k ∧ s + 17 ≤ n ∧ ∀ q4 : Nat, ¬ q4 ∈ S.L → wkLt (wnO S q4 3) fun S5 => ∃ k8 n9 : Nat, (c + 1) + k8 ≤ k ∧ (s + 17) + n9 ≤ n ∧ rX3_init F k8 n9 q4 S5 fun v6 S7 => ¬ (l1I < 0 ∨ S7.len b2 ≤ (l1I).toNatClampNeg) ∧ wkLt (wuRef S7 b2 l1I q4) fun S11 => wkLt (l1I + (1 : Int32)) fun x12 => rec 0 ((c + 1) + k8) ((s + 17) + n9) l0A x12 S11 Φ)
def rX11_init_b1 (F : Nat) (k n : Nat) (rec : Nat → Nat → Nat → Nat → Int32 → wPS → (Unit → wPS → Prop) → Prop) (c s : Nat) (l0A : Nat) (l1I : Int32) (S : wPS) (Φ : (Unit → wPS → Prop)) : Prop :=
  if (24 : Int32) ≤ l1I then (rec 2 c s l0A (0 : Int32) S Φ) else (∃ b14 : Nat, (gWitnessworks_before S l0A) = some b14 ∧ wkIs S b14 16 ∧ c + 1 ≤ k ∧ s + 17 ≤ n ∧ ∀ q16 : Nat, ¬ q16 ∈ S.L → wkLt (wnO S q16 3) fun S17 => ∃ k20 n21 : Nat, (c + 1) + k20 ≤ k ∧ (s + 17) + n21 ≤ n ∧ rX3_init F k20 n21 q16 S17 fun v18 S19 => ¬ (l1I < 0 ∨ S19.len b14 ≤ (l1I).toNatClampNeg) ∧ wkLt (wuRef S19 b14 l1I q16) fun S23 => wkLt (l1I + (1 : Int32)) fun x24 => rec 1 ((c + 1) + k20) ((s + 17) + n21) l0A x24 S23 Φ)
def rX11_init_b2 (F : Nat) (k n : Nat) (rec : Nat → Nat → Nat → Nat → Int32 → wPS → (Unit → wPS → Prop) → Prop) (c s : Nat) (l0A : Nat) (l1I : Int32) (S : wPS) (Φ : (Unit → wPS → Prop)) : Prop :=
  if (16 : Int32) ≤ l1I then (Φ () S) else (∃ b26 : Nat, (gWitnessworks_claims S l0A) = some b26 ∧ wkIs S b26 15 ∧ c + 1 ≤ k ∧ s + 4 ≤ n ∧ ∀ q28 : Nat, ¬ q28 ∈ S.L → wkLt (wnO S q28 0) fun S29 => ∃ k32 n33 : Nat, (c + 1) + k32 ≤ k ∧ (s + 4) + n33 ≤ n ∧ rX0_init F k32 n33 q28 S29 fun v30 S31 => ¬ (l1I < 0 ∨ S31.len b26 ≤ (l1I).toNatClampNeg) ∧ wkLt (wuRef S31 b26 l1I q28) fun S35 => wkLt (l1I + (1 : Int32)) fun x36 => rec 2 ((c + 1) + k32) ((s + 4) + n33) l0A x36 S35 Φ)
def rX11_init_go (F : Nat) (k n : Nat) : Nat → Nat → Nat → Nat → Nat → Int32 → wPS → (Unit → wPS → Prop) → Prop
  | 0, _, _, _, _, _, _, _ => False
  | k' + 1, lab, c, s, l0A, l1I, S, Φ => if lab = 0 then rX11_init_b0 F k n (rX11_init_go F k n k') c s l0A l1I S Φ else if lab = 1 then rX11_init_b1 F k n (rX11_init_go F k n k') c s l0A l1I S Φ else if lab = 2 then rX11_init_b2 F k n (rX11_init_go F k n k') c s l0A l1I S Φ else False
def rX11_init_s (F : Nat) (k n : Nat) (rec : Nat → Nat → Nat → Nat → Int32 → wPS → (Unit → wPS → Prop) → Prop) (l0A : Nat) (S : wPS) (Φ : (Unit → wPS → Prop)) : Prop :=
  0 + 1 ≤ k ∧ 0 + 8 ≤ n ∧ ∀ q38 : Nat, ¬ q38 ∈ S.L → wkLt (wnO S q38 4) fun S39 => ∃ k42 n43 : Nat, (0 + 1) + k42 ≤ k ∧ (0 + 8) + n43 ≤ n ∧ rX4_init F k42 n43 q38 S39 fun v40 S41 => wkLt (wu_Witnessworks_house S41 l0A (some q38)) fun S44 => ¬ (12 : Int32) < 0 ∧ ((0 + 1) + k42) + 1 ≤ k ∧ ((0 + 8) + n43) + ((12 : Int32)).toNatClampNeg ≤ n ∧ ((12 : Int32)).toNatClampNeg * 4 ≤ 536870912 ∧ ∀ q46 : Nat, ¬ q46 ∈ S44.L → wkLt (wnA S44 q46 16 ((12 : Int32)).toNatClampNeg (fun _ => none)) fun S47 => wkLt (wu_Witnessworks_book S47 l0A (some q46)) fun S48 => ¬ (12 : Int32) < 0 ∧ (((0 + 1) + k42) + 1) + 1 ≤ k ∧ (((0 + 8) + n43) + ((12 : Int32)).toNatClampNeg) + ((12 : Int32)).toNatClampNeg ≤ n ∧ ((12 : Int32)).toNatClampNeg * 4 ≤ 536870912 ∧ ∀ q50 : Nat, ¬ q50 ∈ S48.L → wkLt (wnI S48 q50 13 ((12 : Int32)).toNatClampNeg (fun _ => 0)) fun S51 => wkLt (wu_Witnessworks_leaningChain S51 l0A (some q50)) fun S52 => ¬ (5 : Int32) < 0 ∧ ((((0 + 1) + k42) + 1) + 1) + 1 ≤ k ∧ ((((0 + 8) + n43) + ((12 : Int32)).toNatClampNeg) + ((12 : Int32)).toNatClampNeg) + ((5 : Int32)).toNatClampNeg ≤ n ∧ ((5 : Int32)).toNatClampNeg * 4 ≤ 536870912 ∧ ∀ q54 : Nat, ¬ q54 ∈ S52.L → wkLt (wnI S52 q54 13 ((5 : Int32)).toNatClampNeg (fun _ => 0)) fun S55 => wkLt (wu_Witnessworks_told S55 l0A (some q54)) fun S56 => (((((0 + 1) + k42) + 1) + 1) + 1) + 1 ≤ k ∧ (((((0 + 8) + n43) + ((12 : Int32)).toNatClampNeg) + ((12 : Int32)).toNatClampNeg) + ((5 : Int32)).toNatClampNeg) + 17 ≤ n ∧ ∀ q58 : Nat, ¬ q58 ∈ S56.L → wkLt (wnO S56 q58 3) fun S59 => ∃ k62 n63 : Nat, ((((((0 + 1) + k42) + 1) + 1) + 1) + 1) + k62 ≤ k ∧ ((((((0 + 8) + n43) + ((12 : Int32)).toNatClampNeg) + ((12 : Int32)).toNatClampNeg) + ((5 : Int32)).toNatClampNeg) + 17) + n63 ≤ n ∧ rX3_init F k62 n63 q58 S59 fun v60 S61 => wkLt (wu_Witnessworks_draft S61 l0A (some q58)) fun S64 => ¬ (24 : Int32) < 0 ∧ (((((((0 + 1) + k42) + 1) + 1) + 1) + 1) + k62) + 1 ≤ k ∧ (((((((0 + 8) + n43) + ((12 : Int32)).toNatClampNeg) + ((12 : Int32)).toNatClampNeg) + ((5 : Int32)).toNatClampNeg) + 17) + n63) + ((24 : Int32)).toNatClampNeg ≤ n ∧ ((24 : Int32)).toNatClampNeg * 4 ≤ 536870912 ∧ ∀ q66 : Nat, ¬ q66 ∈ S64.L → wkLt (wnA S64 q66 16 ((24 : Int32)).toNatClampNeg (fun _ => none)) fun S67 => wkLt (wu_Witnessworks_before S67 l0A (some q66)) fun S68 => ¬ (24 : Int32) < 0 ∧ ((((((((0 + 1) + k42) + 1) + 1) + 1) + 1) + k62) + 1) + 1 ≤ k ∧ ((((((((0 + 8) + n43) + ((12 : Int32)).toNatClampNeg) + ((12 : Int32)).toNatClampNeg) + ((5 : Int32)).toNatClampNeg) + 17) + n63) + ((24 : Int32)).toNatClampNeg) + ((24 : Int32)).toNatClampNeg ≤ n ∧ ((24 : Int32)).toNatClampNeg * 8 ≤ 536870912 ∧ ∀ q70 : Nat, ¬ q70 ∈ S68.L → wkLt (wnI S68 q70 12 ((24 : Int32)).toNatClampNeg (fun _ => 0)) fun S71 => wkLt (wu_Witnessworks_changeLetters S71 l0A (some q70)) fun S72 => ¬ (24 : Int32) < 0 ∧ (((((((((0 + 1) + k42) + 1) + 1) + 1) + 1) + k62) + 1) + 1) + 1 ≤ k ∧ (((((((((0 + 8) + n43) + ((12 : Int32)).toNatClampNeg) + ((12 : Int32)).toNatClampNeg) + ((5 : Int32)).toNatClampNeg) + 17) + n63) + ((24 : Int32)).toNatClampNeg) + ((24 : Int32)).toNatClampNeg) + ((24 : Int32)).toNatClampNeg ≤ n ∧ ((24 : Int32)).toNatClampNeg * 4 ≤ 536870912 ∧ ∀ q74 : Nat, ¬ q74 ∈ S72.L → wkLt (wnI S72 q74 13 ((24 : Int32)).toNatClampNeg (fun _ => 0)) fun S75 => wkLt (wu_Witnessworks_changedEntries S75 l0A (some q74)) fun S76 => ((((((((((0 + 1) + k42) + 1) + 1) + 1) + 1) + k62) + 1) + 1) + 1) + 1 ≤ k ∧ ((((((((((0 + 8) + n43) + ((12 : Int32)).toNatClampNeg) + ((12 : Int32)).toNatClampNeg) + ((5 : Int32)).toNatClampNeg) + 17) + n63) + ((24 : Int32)).toNatClampNeg) + ((24 : Int32)).toNatClampNeg) + ((24 : Int32)).toNatClampNeg) + 2 ≤ n ∧ ∀ q78 : Nat, ¬ q78 ∈ S76.L → wkLt (wnO S76 q78 9) fun S79 => ∃ k82 n83 : Nat, (((((((((((0 + 1) + k42) + 1) + 1) + 1) + 1) + k62) + 1) + 1) + 1) + 1) + k82 ≤ k ∧ (((((((((((0 + 8) + n43) + ((12 : Int32)).toNatClampNeg) + ((12 : Int32)).toNatClampNeg) + ((5 : Int32)).toNatClampNeg) + 17) + n63) + ((24 : Int32)).toNatClampNeg) + ((24 : Int32)).toNatClampNeg) + ((24 : Int32)).toNatClampNeg) + 2) + n83 ≤ n ∧ rX9_init F k82 n83 q78 S79 fun v80 S81 => wkLt (wu_Witnessworks_typed S81 l0A (some q78)) fun S84 => ¬ (6 : Int32) < 0 ∧ ((((((((((((0 + 1) + k42) + 1) + 1) + 1) + 1) + k62) + 1) + 1) + 1) + 1) + k82) + 1 ≤ k ∧ ((((((((((((0 + 8) + n43) + ((12 : Int32)).toNatClampNeg) + ((12 : Int32)).toNatClampNeg) + ((5 : Int32)).toNatClampNeg) + 17) + n63) + ((24 : Int32)).toNatClampNeg) + ((24 : Int32)).toNatClampNeg) + ((24 : Int32)).toNatClampNeg) + 2) + n83) + ((6 : Int32)).toNatClampNeg ≤ n ∧ ((6 : Int32)).toNatClampNeg * 4 ≤ 536870912 ∧ ∀ q86 : Nat, ¬ q86 ∈ S84.L → wkLt (wnI S84 q86 13 ((6 : Int32)).toNatClampNeg (fun _ => 0)) fun S87 => wkLt (wu_Witnessworks_earned S87 l0A (some q86)) fun S88 => ¬ (16 : Int32) < 0 ∧ (((((((((((((0 + 1) + k42) + 1) + 1) + 1) + 1) + k62) + 1) + 1) + 1) + 1) + k82) + 1) + 1 ≤ k ∧ (((((((((((((0 + 8) + n43) + ((12 : Int32)).toNatClampNeg) + ((12 : Int32)).toNatClampNeg) + ((5 : Int32)).toNatClampNeg) + 17) + n63) + ((24 : Int32)).toNatClampNeg) + ((24 : Int32)).toNatClampNeg) + ((24 : Int32)).toNatClampNeg) + 2) + n83) + ((6 : Int32)).toNatClampNeg) + ((16 : Int32)).toNatClampNeg ≤ n ∧ ((16 : Int32)).toNatClampNeg * 4 ≤ 536870912 ∧ ∀ q90 : Nat, ¬ q90 ∈ S88.L → wkLt (wnA S88 q90 15 ((16 : Int32)).toNatClampNeg (fun _ => none)) fun S91 => wkLt (wu_Witnessworks_claims S91 l0A (some q90)) fun S92 => ¬ (256 : Int32) < 0 ∧ ((((((((((((((0 + 1) + k42) + 1) + 1) + 1) + 1) + k62) + 1) + 1) + 1) + 1) + k82) + 1) + 1) + 1 ≤ k ∧ ((((((((((((((0 + 8) + n43) + ((12 : Int32)).toNatClampNeg) + ((12 : Int32)).toNatClampNeg) + ((5 : Int32)).toNatClampNeg) + 17) + n63) + ((24 : Int32)).toNatClampNeg) + ((24 : Int32)).toNatClampNeg) + ((24 : Int32)).toNatClampNeg) + 2) + n83) + ((6 : Int32)).toNatClampNeg) + ((16 : Int32)).toNatClampNeg) + ((256 : Int32)).toNatClampNeg ≤ n ∧ ((256 : Int32)).toNatClampNeg * 4 ≤ 536870912 ∧ ∀ q94 : Nat, ¬ q94 ∈ S92.L → wkLt (wnI S92 q94 13 ((256 : Int32)).toNatClampNeg (fun _ => 0)) fun S95 => wkLt (wu_Witnessworks_errors S95 l0A (some q94)) fun S96 => rec 0 (((((((((((((((0 + 1) + k42) + 1) + 1) + 1) + 1) + k62) + 1) + 1) + 1) + 1) + k82) + 1) + 1) + 1) (((((((((((((((0 + 8) + n43) + ((12 : Int32)).toNatClampNeg) + ((12 : Int32)).toNatClampNeg) + ((5 : Int32)).toNatClampNeg) + 17) + n63) + ((24 : Int32)).toNatClampNeg) + ((24 : Int32)).toNatClampNeg) + ((24 : Int32)).toNatClampNeg) + 2) + n83) + ((6 : Int32)).toNatClampNeg) + ((16 : Int32)).toNatClampNeg) + ((256 : Int32)).toNatClampNeg) l0A (0 : Int32) S96 Φ
def rX11_init (F : Nat) (k n : Nat) (l0A : Nat) (S : wPS) (Φ : (Unit → wPS → Prop)) : Prop := rX11_init_s F k n (rX11_init_go F k n F) l0A S Φ
set_option maxHeartbeats 4000000 in
set_option maxRecDepth 100000 in
theorem tX11_init_go {k n : Nat} {l : Launch} {X : wkX} {d F : Nat} {S0 : wPS} {Φ : (Unit → wPS → Prop)} (hmk : wkMk (wkXg X)) (C : wkC X cX11_init RX11 2 wvX11_init) (hR : wkRm X d k n) (hd : 3 ≤ d) (E : wkEnd l X cX11_init 2 none k n (fun v' S'' => ∃ v : Unit, v' = none ∧ Φ v S'' ∧ wkTT S'' ∧ wkExt S0 S'')) : ∀ k' : Nat, (∀ (c s : Nat), c ≤ k → s ≤ n → ∀ (l0A : Nat) (l1I : Int32) (S : wPS), wkTT S → wkExt S0 S → wkIs S l0A 11 → rX11_init_go F k n k' 0 c s l0A l1I S Φ → wkGo l X 2 c s 114 S [some (.ref l0A), some (.int l1I)] []) ∧ (∀ (c s : Nat), c ≤ k → s ≤ n → ∀ (l0A : Nat) (l1I : Int32) (S : wPS), wkTT S → wkExt S0 S → wkIs S l0A 11 → rX11_init_go F k n k' 1 c s l0A l1I S Φ → wkGo l X 2 c s 141 S [some (.ref l0A), some (.int l1I)] []) ∧ (∀ (c s : Nat), c ≤ k → s ≤ n → ∀ (l0A : Nat) (l1I : Int32) (S : wPS), wkTT S → wkExt S0 S → wkIs S l0A 11 → rX11_init_go F k n k' 2 c s l0A l1I S Φ → wkGo l X 2 c s 168 S [some (.ref l0A), some (.int l1I)] []) := by
  intro k'
  induction k' with
  | zero => exact ⟨fun c s hc hs l0A l1I S hW hE hl0A h => h.elim, fun c s hc hs l0A l1I S hW hE hl0A h => h.elim, fun c s hc hs l0A l1I S hW hE hl0A h => h.elim⟩
  | succ k' ih =>
    refine ⟨?_, ?_, ?_⟩
    · intro c s hc hs l0A l1I S hW hE hl0A h
      have h : rX11_init_b0 F k n (rX11_init_go F k n k') c s l0A l1I S Φ := by
        rw [rX11_init_go, if_pos (rfl : (0 : Nat) = 0)] at h
        exact h
      unfold rX11_init_b0 at h
      refine wk_iload_n C dX11_init_114 rfl rfl ?_
      refine wk_bipush C (v := 12) dX11_init_115 (by decide) ?_
      refine wk_icmp_ge C (tgt := 139) dX11_init_117 (by decide) (fun c1 => ?_) (fun c1 => ?_)
      · rw [if_pos c1] at h
        refine wk_iconst C (v := 0) dX11_init_139 (by decide) ?_
        refine wk_istore_n C (lv' := [some (.ref l0A), some (.int (0 : Int32))]) dX11_init_140 rfl (by decide) rfl ?_
        exact wk_forget (lv' := [some (.ref l0A), some (.int (0 : Int32))]) (wkLs.le ⟨rfl, rfl, trivial⟩) (ih.2.1 _ _ hc hs _ _ _ hW hE hl0A h)
      · rw [if_neg c1] at h
        refine wk_aload_n C dX11_init_120 rfl rfl ?_
        obtain ⟨b2, eb2, hIb2, h⟩ := h
        refine wk_get C huX11_init_11 hl0A.1 (fun cy => wAt_11 cy _ hl0A.2) rfl 1 (by decide) (List.mem_of_getElem? (i := 1) rfl) rfl (congrArg some (congrArg va_rf eb2)) dX11_init_121 ?_
        refine wk_iload_n C dX11_init_124 rfl rfl ?_
        obtain ⟨h3b, h3c, h⟩ := h
        refine wk_newO C hR huX11_init_3 (List.mem_of_getElem? (i := 2) rfl) (List.mem_of_getElem? (i := 3) rfl) (List.mem_of_getElem? (i := 4) rfl) rfl tyX3_ok (by decide) (fun cy S a b => wNw_3 cy S a b) h3b h3c dX11_init_125 (fun q4 h3e => ?_)
        obtain ⟨S5, eS5, h⟩ := wkLt_some (h q4 h3e)
        rw [← eS5]
        obtain ⟨hXS5, hIS5⟩ := wkExt_newO eS5 h3e
        have hWS5 : wkTT S5 := trivial
        refine wk_dup C dX11_init_128 rfl ?_
        obtain ⟨k8, n9, hk8, hn9, h⟩ := h
        refine wk_callI C hR (y := yX3_init) (host := "Witnessworks") (As := []) (cnt := 0) (tX3_init (l := l) hWS5 hIS5 h) rfl (fun w h => ⟨hbX11_init_X3_init w h, gdX3_init w h⟩) (by decide +kernel) rfl (List.mem_of_getElem? (i := 5) rfl) (List.mem_of_getElem? (i := 4) rfl) (Nat.le_trans (by decide : 2 + 1 ≤ 3) hd) (by decide) ⟨by decide, by decide, by decide +kernel⟩ rfl rfl (Nat.le_of_ble_eq_true rfl) hk8 hn9 dX11_init_129 (fun v' S7 hp => ?_)
        obtain ⟨v6, rfl, h, hWS7, hXS7⟩ := hp
        obtain ⟨i10, h⟩ := h
        obtain ⟨S11, eS11, h⟩ := wkLt_some h
        refine wk_aastEntry C (hXS7 _ _ (hXS5 _ _ hIb2)).1 (hXS7 _ _ (hXS5 _ _ hIb2)).2 i10 (hXS7 _ _ hIS5).1 (hXS7 _ _ hIS5).2 eS11.symm dX11_init_132 ?_
        have hWS11 : wkTT S11 := trivial
        have hXS11 : wkExt S7 S11 := by rw [eS11]; exact wkExt.rf
        obtain ⟨x12, ex12, h⟩ := wkLt_some h
        refine wk_iinc C (lv' := [some (.ref l0A), some (.int x12)]) dX11_init_133 rfl (by rw [ex12]; rfl) (by decide) rfl ?_
        refine wk_goto C (tgt := 114) dX11_init_136 (by decide) ?_
        exact wk_forget (lv' := [some (.ref l0A), some (.int x12)]) (wkLs.le ⟨rfl, rfl, trivial⟩) (ih.1 _ _ hk8 hn9 _ _ _ hWS11 (wkExt.tr (wkExt.tr (wkExt.tr hE hXS5) hXS7) hXS11) (hXS11 _ _ (hXS7 _ _ (hXS5 _ _ hl0A))) h)
    · intro c s hc hs l0A l1I S hW hE hl0A h
      have h : rX11_init_b1 F k n (rX11_init_go F k n k') c s l0A l1I S Φ := by
        rw [rX11_init_go, if_neg (show ¬ (1 : Nat) = 0 by decide), if_pos (rfl : (1 : Nat) = 1)] at h
        exact h
      unfold rX11_init_b1 at h
      refine wk_iload_n C dX11_init_141 rfl rfl ?_
      refine wk_bipush C (v := 24) dX11_init_142 (by decide) ?_
      refine wk_icmp_ge C (tgt := 166) dX11_init_144 (by decide) (fun c13 => ?_) (fun c13 => ?_)
      · rw [if_pos c13] at h
        refine wk_iconst C (v := 0) dX11_init_166 (by decide) ?_
        refine wk_istore_n C (lv' := [some (.ref l0A), some (.int (0 : Int32))]) dX11_init_167 rfl (by decide) rfl ?_
        exact wk_forget (lv' := [some (.ref l0A), some (.int (0 : Int32))]) (wkLs.le ⟨rfl, rfl, trivial⟩) (ih.2.2 _ _ hc hs _ _ _ hW hE hl0A h)
      · rw [if_neg c13] at h
        refine wk_aload_n C dX11_init_147 rfl rfl ?_
        obtain ⟨b14, eb14, hIb14, h⟩ := h
        refine wk_get C huX11_init_11 hl0A.1 (fun cy => wAt_11 cy _ hl0A.2) rfl 6 (by decide) (List.mem_of_getElem? (i := 6) rfl) rfl (congrArg some (congrArg va_rf eb14)) dX11_init_148 ?_
        refine wk_iload_n C dX11_init_151 rfl rfl ?_
        obtain ⟨h15b, h15c, h⟩ := h
        refine wk_newO C hR huX11_init_3 (List.mem_of_getElem? (i := 2) rfl) (List.mem_of_getElem? (i := 3) rfl) (List.mem_of_getElem? (i := 4) rfl) rfl tyX3_ok (by decide) (fun cy S a b => wNw_3 cy S a b) h15b h15c dX11_init_152 (fun q16 h15e => ?_)
        obtain ⟨S17, eS17, h⟩ := wkLt_some (h q16 h15e)
        rw [← eS17]
        obtain ⟨hXS17, hIS17⟩ := wkExt_newO eS17 h15e
        have hWS17 : wkTT S17 := trivial
        refine wk_dup C dX11_init_155 rfl ?_
        obtain ⟨k20, n21, hk20, hn21, h⟩ := h
        refine wk_callI C hR (y := yX3_init) (host := "Witnessworks") (As := []) (cnt := 0) (tX3_init (l := l) hWS17 hIS17 h) rfl (fun w h => ⟨hbX11_init_X3_init w h, gdX3_init w h⟩) (by decide +kernel) rfl (List.mem_of_getElem? (i := 5) rfl) (List.mem_of_getElem? (i := 4) rfl) (Nat.le_trans (by decide : 2 + 1 ≤ 3) hd) (by decide) ⟨by decide, by decide, by decide +kernel⟩ rfl rfl (Nat.le_of_ble_eq_true rfl) hk20 hn21 dX11_init_156 (fun v' S19 hp => ?_)
        obtain ⟨v18, rfl, h, hWS19, hXS19⟩ := hp
        obtain ⟨i22, h⟩ := h
        obtain ⟨S23, eS23, h⟩ := wkLt_some h
        refine wk_aastEntry C (hXS19 _ _ (hXS17 _ _ hIb14)).1 (hXS19 _ _ (hXS17 _ _ hIb14)).2 i22 (hXS19 _ _ hIS17).1 (hXS19 _ _ hIS17).2 eS23.symm dX11_init_159 ?_
        have hWS23 : wkTT S23 := trivial
        have hXS23 : wkExt S19 S23 := by rw [eS23]; exact wkExt.rf
        obtain ⟨x24, ex24, h⟩ := wkLt_some h
        refine wk_iinc C (lv' := [some (.ref l0A), some (.int x24)]) dX11_init_160 rfl (by rw [ex24]; rfl) (by decide) rfl ?_
        refine wk_goto C (tgt := 141) dX11_init_163 (by decide) ?_
        exact wk_forget (lv' := [some (.ref l0A), some (.int x24)]) (wkLs.le ⟨rfl, rfl, trivial⟩) (ih.2.1 _ _ hk20 hn21 _ _ _ hWS23 (wkExt.tr (wkExt.tr (wkExt.tr hE hXS17) hXS19) hXS23) (hXS23 _ _ (hXS19 _ _ (hXS17 _ _ hl0A))) h)
    · intro c s hc hs l0A l1I S hW hE hl0A h
      have h : rX11_init_b2 F k n (rX11_init_go F k n k') c s l0A l1I S Φ := by
        rw [rX11_init_go, if_neg (show ¬ (2 : Nat) = 0 by decide), if_neg (show ¬ (2 : Nat) = 1 by decide), if_pos (rfl : (2 : Nat) = 2)] at h
        exact h
      unfold rX11_init_b2 at h
      refine wk_iload_n C dX11_init_168 rfl rfl ?_
      refine wk_bipush C (v := 16) dX11_init_169 (by decide) ?_
      refine wk_icmp_ge C (tgt := 193) dX11_init_171 (by decide) (fun c25 => ?_) (fun c25 => ?_)
      · rw [if_pos c25] at h
        exact E _ _ _ _ _ hc hs dX11_init_193 ⟨(), rfl, h, hW, hE⟩
      · rw [if_neg c25] at h
        refine wk_aload_n C dX11_init_174 rfl rfl ?_
        obtain ⟨b26, eb26, hIb26, h⟩ := h
        refine wk_get C huX11_init_11 hl0A.1 (fun cy => wAt_11 cy _ hl0A.2) rfl 14 (by decide) (List.mem_of_getElem? (i := 7) rfl) rfl (congrArg some (congrArg va_rf eb26)) dX11_init_175 ?_
        refine wk_iload_n C dX11_init_178 rfl rfl ?_
        obtain ⟨h27b, h27c, h⟩ := h
        refine wk_newO C hR huX11_init_0 (List.mem_of_getElem? (i := 8) rfl) (List.mem_of_getElem? (i := 9) rfl) (List.mem_of_getElem? (i := 10) rfl) rfl tyX0_ok (by decide) (fun cy S a b => wNw_0 cy S a b) h27b h27c dX11_init_179 (fun q28 h27e => ?_)
        obtain ⟨S29, eS29, h⟩ := wkLt_some (h q28 h27e)
        rw [← eS29]
        obtain ⟨hXS29, hIS29⟩ := wkExt_newO eS29 h27e
        have hWS29 : wkTT S29 := trivial
        refine wk_dup C dX11_init_182 rfl ?_
        obtain ⟨k32, n33, hk32, hn33, h⟩ := h
        refine wk_callI C hR (y := yX0_init) (host := "Witnessworks") (As := []) (cnt := 0) (tX0_init (l := l) hWS29 hIS29 h) rfl (fun w h => ⟨hbX11_init_X0_init w h, gdX0_init w h⟩) (by decide +kernel) rfl (List.mem_of_getElem? (i := 11) rfl) (List.mem_of_getElem? (i := 10) rfl) (Nat.le_trans (by decide : 2 + 1 ≤ 3) hd) (by decide) ⟨by decide, by decide, by decide +kernel⟩ rfl rfl (Nat.le_of_ble_eq_true rfl) hk32 hn33 dX11_init_183 (fun v' S31 hp => ?_)
        obtain ⟨v30, rfl, h, hWS31, hXS31⟩ := hp
        obtain ⟨i34, h⟩ := h
        obtain ⟨S35, eS35, h⟩ := wkLt_some h
        refine wk_aastClaim C (hXS31 _ _ (hXS29 _ _ hIb26)).1 (hXS31 _ _ (hXS29 _ _ hIb26)).2 i34 (hXS31 _ _ hIS29).1 (hXS31 _ _ hIS29).2 eS35.symm dX11_init_186 ?_
        have hWS35 : wkTT S35 := trivial
        have hXS35 : wkExt S31 S35 := by rw [eS35]; exact wkExt.rf
        obtain ⟨x36, ex36, h⟩ := wkLt_some h
        refine wk_iinc C (lv' := [some (.ref l0A), some (.int x36)]) dX11_init_187 rfl (by rw [ex36]; rfl) (by decide) rfl ?_
        refine wk_goto C (tgt := 168) dX11_init_190 (by decide) ?_
        exact wk_forget (lv' := [some (.ref l0A), some (.int x36)]) (wkLs.le ⟨rfl, rfl, trivial⟩) (ih.2.2 _ _ hk32 hn33 _ _ _ hWS35 (wkExt.tr (wkExt.tr (wkExt.tr hE hXS29) hXS31) hXS35) (hXS35 _ _ (hXS31 _ _ (hXS29 _ _ hl0A))) h)
set_option maxHeartbeats 4000000 in
set_option maxRecDepth 100000 in
theorem tX11_init {l : Launch} {g : wkG} {F : Nat} {k n : Nat}  {S : wPS} {l0A : Nat} {Φ : (Unit → wPS → Prop)} (hmk : wkMk g) (hW : wkTT S) (hl0A : wkIs S l0A 11) (h : rX11_init F k n l0A S Φ) : wkMet l g yX11_init wvX11_init 3 k n [.ref l0A] S (fun v' S'' => ∃ v : Unit, v' = none ∧ Φ v S'' ∧ wkTT S'' ∧ wkExt S S'') := by
  refine wkMet_ofI (ret := none) (plainFor_of_name (by decide)) rfl rfl (Nat.le_of_ble_eq_true rfl) (fun X hg C hR hI0 E => ?_)
  subst hg
  have hE : wkExt S S := wkExt.rf
  have hd : 3 ≤ 3 := Nat.le_refl _
  show wkGo l X 2 0 0 0 S [some (.ref l0A), none] []
  have ih := tX11_init_go (F := F) hmk C hR hd E F
  have h : rX11_init_s F k n (rX11_init_go F k n F) l0A S Φ := h
  unfold rX11_init_s at h
  refine wk_aload_n C dX11_init_0 rfl rfl ?_
  refine wk_objInit C hR (List.mem_of_getElem? (i := 12) rfl) (List.mem_of_getElem? (i := 13) rfl) (List.mem_of_getElem? (i := 14) rfl) (Nat.le_trans (by decide) hd) (Nat.le_of_ble_eq_true rfl) dX11_init_1 ?_
  refine wk_aload_n C dX11_init_4 rfl rfl ?_
  obtain ⟨h37b, h37c, h⟩ := h
  refine wk_newO C hR huX11_init_4 (List.mem_of_getElem? (i := 15) rfl) (List.mem_of_getElem? (i := 16) rfl) (List.mem_of_getElem? (i := 17) rfl) rfl tyX4_ok (by decide) (fun cy S a b => wNw_4 cy S a b) h37b h37c dX11_init_5 (fun q38 h37e => ?_)
  obtain ⟨S39, eS39, h⟩ := wkLt_some (h q38 h37e)
  rw [← eS39]
  obtain ⟨hXS39, hIS39⟩ := wkExt_newO eS39 h37e
  have hWS39 : wkTT S39 := trivial
  refine wk_dup C dX11_init_8 rfl ?_
  obtain ⟨k42, n43, hk42, hn43, h⟩ := h
  refine wk_callI C hR (y := yX4_init) (host := "Witnessworks") (As := []) (cnt := 0) (tX4_init (l := l) hmk hWS39 hIS39 h) rfl (fun w h => ⟨hbX11_init_X4_init w h, gdX4_init w h⟩) (by decide +kernel) rfl (List.mem_of_getElem? (i := 18) rfl) (List.mem_of_getElem? (i := 17) rfl) (Nat.le_trans (by decide : 2 + 1 ≤ 3) hd) (by decide) ⟨by decide, by decide, by decide +kernel⟩ rfl rfl (Nat.le_of_ble_eq_true rfl) hk42 hn43 dX11_init_9 (fun v' S41 hp => ?_)
  obtain ⟨v40, rfl, h, hWS41, hXS41⟩ := hp
  obtain ⟨S44, eS44, h⟩ := wkLt_some h
  refine wk_putF C hI0 (S' := S44) huX11_init_11 (hXS41 _ _ (hXS39 _ _ hl0A)).1 (fun cy => wAt_11 cy _ (hXS41 _ _ (hXS39 _ _ hl0A)).2) rfl 0 (by decide) (List.mem_of_getElem? (i := 19) rfl) rfl tyX11_ok nmX11 rfl rfl (ty := (.object "Witnessworks$House")) rfl rfl rfl (by show 0 < 19; decide) (fun cy b => by rw [eS44]; exact wSt_11_0 cy _ (hXS41 _ _ (hXS39 _ _ hl0A)).2 (some q38) b) (by rw [eS44]) dX11_init_12 ?_
  have hWS44 : wkTT S44 := trivial
  have hXS44 : wkExt S41 S44 := by rw [eS44]; exact wkExt.rf
  refine wk_aload_n C dX11_init_15 rfl rfl ?_
  refine wk_bipush C (v := 12) dX11_init_16 (by decide) ?_
  obtain ⟨h45a, h45b, h45c, h45d, h⟩ := h
  refine wk_anewEntry C hR hmk (List.mem_of_getElem? (i := 2) rfl) h45a h45b h45c h45d dX11_init_18 (fun q46 h45e => ?_)
  obtain ⟨S47, eS47, h⟩ := wkLt_some (h q46 h45e)
  rw [← eS47]
  obtain ⟨hXS47, hIS47⟩ := wkExt_newA eS47 h45e
  have hWS47 : wkTT S47 := trivial
  obtain ⟨S48, eS48, h⟩ := wkLt_some h
  refine wk_putF C hI0 (S' := S48) huX11_init_11 (hXS47 _ _ (hXS44 _ _ (hXS41 _ _ (hXS39 _ _ hl0A)))).1 (fun cy => wAt_11 cy _ (hXS47 _ _ (hXS44 _ _ (hXS41 _ _ (hXS39 _ _ hl0A)))).2) rfl 1 (by decide) (List.mem_of_getElem? (i := 1) rfl) rfl tyX11_ok nmX11 rfl rfl (ty := (.array (.object "Witnessworks$Entry"))) rfl rfl rfl (by show 1 < 19; decide) (fun cy b => by rw [eS48]; exact wSt_11_1 cy _ (hXS47 _ _ (hXS44 _ _ (hXS41 _ _ (hXS39 _ _ hl0A)))).2 (some q46) b) (by rw [eS48]) dX11_init_21 ?_
  have hWS48 : wkTT S48 := trivial
  have hXS48 : wkExt S47 S48 := by rw [eS48]; exact wkExt.rf
  refine wk_aload_n C dX11_init_24 rfl rfl ?_
  refine wk_bipush C (v := 12) dX11_init_25 (by decide) ?_
  obtain ⟨h49a, h49b, h49c, h49d, h⟩ := h
  refine wk_newI C hR (List.mem_of_getElem? (i := 20) rfl) h49a h49b h49c h49d dX11_init_27 (fun q50 h49e => ?_)
  obtain ⟨S51, eS51, h⟩ := wkLt_some (h q50 h49e)
  rw [← eS51]
  obtain ⟨hXS51, hIS51⟩ := wkExt_newI eS51 h49e
  have hWS51 : wkTT S51 := trivial
  obtain ⟨S52, eS52, h⟩ := wkLt_some h
  refine wk_putF C hI0 (S' := S52) huX11_init_11 (hXS51 _ _ (hXS48 _ _ (hXS47 _ _ (hXS44 _ _ (hXS41 _ _ (hXS39 _ _ hl0A)))))).1 (fun cy => wAt_11 cy _ (hXS51 _ _ (hXS48 _ _ (hXS47 _ _ (hXS44 _ _ (hXS41 _ _ (hXS39 _ _ hl0A)))))).2) rfl 3 (by decide) (List.mem_of_getElem? (i := 21) rfl) rfl tyX11_ok nmX11 rfl rfl (ty := (.array .int)) rfl rfl rfl (by show 3 < 19; decide) (fun cy b => by rw [eS52]; exact wSt_11_3 cy _ (hXS51 _ _ (hXS48 _ _ (hXS47 _ _ (hXS44 _ _ (hXS41 _ _ (hXS39 _ _ hl0A)))))).2 (some q50) b) (by rw [eS52]) dX11_init_29 ?_
  have hWS52 : wkTT S52 := trivial
  have hXS52 : wkExt S51 S52 := by rw [eS52]; exact wkExt.rf
  refine wk_aload_n C dX11_init_32 rfl rfl ?_
  refine wk_iconst C (v := 5) dX11_init_33 (by decide) ?_
  obtain ⟨h53a, h53b, h53c, h53d, h⟩ := h
  refine wk_newI C hR (List.mem_of_getElem? (i := 20) rfl) h53a h53b h53c h53d dX11_init_34 (fun q54 h53e => ?_)
  obtain ⟨S55, eS55, h⟩ := wkLt_some (h q54 h53e)
  rw [← eS55]
  obtain ⟨hXS55, hIS55⟩ := wkExt_newI eS55 h53e
  have hWS55 : wkTT S55 := trivial
  obtain ⟨S56, eS56, h⟩ := wkLt_some h
  refine wk_putF C hI0 (S' := S56) huX11_init_11 (hXS55 _ _ (hXS52 _ _ (hXS51 _ _ (hXS48 _ _ (hXS47 _ _ (hXS44 _ _ (hXS41 _ _ (hXS39 _ _ hl0A)))))))).1 (fun cy => wAt_11 cy _ (hXS55 _ _ (hXS52 _ _ (hXS51 _ _ (hXS48 _ _ (hXS47 _ _ (hXS44 _ _ (hXS41 _ _ (hXS39 _ _ hl0A)))))))).2) rfl 4 (by decide) (List.mem_of_getElem? (i := 22) rfl) rfl tyX11_ok nmX11 rfl rfl (ty := (.array .int)) rfl rfl rfl (by show 4 < 19; decide) (fun cy b => by rw [eS56]; exact wSt_11_4 cy _ (hXS55 _ _ (hXS52 _ _ (hXS51 _ _ (hXS48 _ _ (hXS47 _ _ (hXS44 _ _ (hXS41 _ _ (hXS39 _ _ hl0A)))))))).2 (some q54) b) (by rw [eS56]) dX11_init_36 ?_
  have hWS56 : wkTT S56 := trivial
  have hXS56 : wkExt S55 S56 := by rw [eS56]; exact wkExt.rf
  refine wk_aload_n C dX11_init_39 rfl rfl ?_
  obtain ⟨h57b, h57c, h⟩ := h
  refine wk_newO C hR huX11_init_3 (List.mem_of_getElem? (i := 2) rfl) (List.mem_of_getElem? (i := 3) rfl) (List.mem_of_getElem? (i := 4) rfl) rfl tyX3_ok (by decide) (fun cy S a b => wNw_3 cy S a b) h57b h57c dX11_init_40 (fun q58 h57e => ?_)
  obtain ⟨S59, eS59, h⟩ := wkLt_some (h q58 h57e)
  rw [← eS59]
  obtain ⟨hXS59, hIS59⟩ := wkExt_newO eS59 h57e
  have hWS59 : wkTT S59 := trivial
  refine wk_dup C dX11_init_43 rfl ?_
  obtain ⟨k62, n63, hk62, hn63, h⟩ := h
  refine wk_callI C hR (y := yX3_init) (host := "Witnessworks") (As := []) (cnt := 0) (tX3_init (l := l) hWS59 hIS59 h) rfl (fun w h => ⟨hbX11_init_X3_init w h, gdX3_init w h⟩) (by decide +kernel) rfl (List.mem_of_getElem? (i := 5) rfl) (List.mem_of_getElem? (i := 4) rfl) (Nat.le_trans (by decide : 2 + 1 ≤ 3) hd) (by decide) ⟨by decide, by decide, by decide +kernel⟩ rfl rfl (Nat.le_of_ble_eq_true rfl) hk62 hn63 dX11_init_44 (fun v' S61 hp => ?_)
  obtain ⟨v60, rfl, h, hWS61, hXS61⟩ := hp
  obtain ⟨S64, eS64, h⟩ := wkLt_some h
  refine wk_putF C hI0 (S' := S64) huX11_init_11 (hXS61 _ _ (hXS59 _ _ (hXS56 _ _ (hXS55 _ _ (hXS52 _ _ (hXS51 _ _ (hXS48 _ _ (hXS47 _ _ (hXS44 _ _ (hXS41 _ _ (hXS39 _ _ hl0A))))))))))).1 (fun cy => wAt_11 cy _ (hXS61 _ _ (hXS59 _ _ (hXS56 _ _ (hXS55 _ _ (hXS52 _ _ (hXS51 _ _ (hXS48 _ _ (hXS47 _ _ (hXS44 _ _ (hXS41 _ _ (hXS39 _ _ hl0A))))))))))).2) rfl 5 (by decide) (List.mem_of_getElem? (i := 23) rfl) rfl tyX11_ok nmX11 rfl rfl (ty := (.object "Witnessworks$Entry")) rfl rfl rfl (by show 5 < 19; decide) (fun cy b => by rw [eS64]; exact wSt_11_5 cy _ (hXS61 _ _ (hXS59 _ _ (hXS56 _ _ (hXS55 _ _ (hXS52 _ _ (hXS51 _ _ (hXS48 _ _ (hXS47 _ _ (hXS44 _ _ (hXS41 _ _ (hXS39 _ _ hl0A))))))))))).2 (some q58) b) (by rw [eS64]) dX11_init_47 ?_
  have hWS64 : wkTT S64 := trivial
  have hXS64 : wkExt S61 S64 := by rw [eS64]; exact wkExt.rf
  refine wk_aload_n C dX11_init_50 rfl rfl ?_
  refine wk_bipush C (v := 24) dX11_init_51 (by decide) ?_
  obtain ⟨h65a, h65b, h65c, h65d, h⟩ := h
  refine wk_anewEntry C hR hmk (List.mem_of_getElem? (i := 2) rfl) h65a h65b h65c h65d dX11_init_53 (fun q66 h65e => ?_)
  obtain ⟨S67, eS67, h⟩ := wkLt_some (h q66 h65e)
  rw [← eS67]
  obtain ⟨hXS67, hIS67⟩ := wkExt_newA eS67 h65e
  have hWS67 : wkTT S67 := trivial
  obtain ⟨S68, eS68, h⟩ := wkLt_some h
  refine wk_putF C hI0 (S' := S68) huX11_init_11 (hXS67 _ _ (hXS64 _ _ (hXS61 _ _ (hXS59 _ _ (hXS56 _ _ (hXS55 _ _ (hXS52 _ _ (hXS51 _ _ (hXS48 _ _ (hXS47 _ _ (hXS44 _ _ (hXS41 _ _ (hXS39 _ _ hl0A))))))))))))).1 (fun cy => wAt_11 cy _ (hXS67 _ _ (hXS64 _ _ (hXS61 _ _ (hXS59 _ _ (hXS56 _ _ (hXS55 _ _ (hXS52 _ _ (hXS51 _ _ (hXS48 _ _ (hXS47 _ _ (hXS44 _ _ (hXS41 _ _ (hXS39 _ _ hl0A))))))))))))).2) rfl 6 (by decide) (List.mem_of_getElem? (i := 6) rfl) rfl tyX11_ok nmX11 rfl rfl (ty := (.array (.object "Witnessworks$Entry"))) rfl rfl rfl (by show 6 < 19; decide) (fun cy b => by rw [eS68]; exact wSt_11_6 cy _ (hXS67 _ _ (hXS64 _ _ (hXS61 _ _ (hXS59 _ _ (hXS56 _ _ (hXS55 _ _ (hXS52 _ _ (hXS51 _ _ (hXS48 _ _ (hXS47 _ _ (hXS44 _ _ (hXS41 _ _ (hXS39 _ _ hl0A))))))))))))).2 (some q66) b) (by rw [eS68]) dX11_init_56 ?_
  have hWS68 : wkTT S68 := trivial
  have hXS68 : wkExt S67 S68 := by rw [eS68]; exact wkExt.rf
  refine wk_aload_n C dX11_init_59 rfl rfl ?_
  refine wk_bipush C (v := 24) dX11_init_60 (by decide) ?_
  obtain ⟨h69a, h69b, h69c, h69d, h⟩ := h
  refine wk_newC C hR (List.mem_of_getElem? (i := 24) rfl) h69a h69b h69c h69d dX11_init_62 (fun q70 h69e => ?_)
  obtain ⟨S71, eS71, h⟩ := wkLt_some (h q70 h69e)
  rw [← eS71]
  obtain ⟨hXS71, hIS71⟩ := wkExt_newI eS71 h69e
  have hWS71 : wkTT S71 := trivial
  obtain ⟨S72, eS72, h⟩ := wkLt_some h
  refine wk_putF C hI0 (S' := S72) huX11_init_11 (hXS71 _ _ (hXS68 _ _ (hXS67 _ _ (hXS64 _ _ (hXS61 _ _ (hXS59 _ _ (hXS56 _ _ (hXS55 _ _ (hXS52 _ _ (hXS51 _ _ (hXS48 _ _ (hXS47 _ _ (hXS44 _ _ (hXS41 _ _ (hXS39 _ _ hl0A))))))))))))))).1 (fun cy => wAt_11 cy _ (hXS71 _ _ (hXS68 _ _ (hXS67 _ _ (hXS64 _ _ (hXS61 _ _ (hXS59 _ _ (hXS56 _ _ (hXS55 _ _ (hXS52 _ _ (hXS51 _ _ (hXS48 _ _ (hXS47 _ _ (hXS44 _ _ (hXS41 _ _ (hXS39 _ _ hl0A))))))))))))))).2) rfl 7 (by decide) (List.mem_of_getElem? (i := 25) rfl) rfl tyX11_ok nmX11 rfl rfl (ty := (.array .char)) rfl rfl rfl (by show 7 < 19; decide) (fun cy b => by rw [eS72]; exact wSt_11_7 cy _ (hXS71 _ _ (hXS68 _ _ (hXS67 _ _ (hXS64 _ _ (hXS61 _ _ (hXS59 _ _ (hXS56 _ _ (hXS55 _ _ (hXS52 _ _ (hXS51 _ _ (hXS48 _ _ (hXS47 _ _ (hXS44 _ _ (hXS41 _ _ (hXS39 _ _ hl0A))))))))))))))).2 (some q70) b) (by rw [eS72]) dX11_init_64 ?_
  have hWS72 : wkTT S72 := trivial
  have hXS72 : wkExt S71 S72 := by rw [eS72]; exact wkExt.rf
  refine wk_aload_n C dX11_init_67 rfl rfl ?_
  refine wk_bipush C (v := 24) dX11_init_68 (by decide) ?_
  obtain ⟨h73a, h73b, h73c, h73d, h⟩ := h
  refine wk_newI C hR (List.mem_of_getElem? (i := 20) rfl) h73a h73b h73c h73d dX11_init_70 (fun q74 h73e => ?_)
  obtain ⟨S75, eS75, h⟩ := wkLt_some (h q74 h73e)
  rw [← eS75]
  obtain ⟨hXS75, hIS75⟩ := wkExt_newI eS75 h73e
  have hWS75 : wkTT S75 := trivial
  obtain ⟨S76, eS76, h⟩ := wkLt_some h
  refine wk_putF C hI0 (S' := S76) huX11_init_11 (hXS75 _ _ (hXS72 _ _ (hXS71 _ _ (hXS68 _ _ (hXS67 _ _ (hXS64 _ _ (hXS61 _ _ (hXS59 _ _ (hXS56 _ _ (hXS55 _ _ (hXS52 _ _ (hXS51 _ _ (hXS48 _ _ (hXS47 _ _ (hXS44 _ _ (hXS41 _ _ (hXS39 _ _ hl0A))))))))))))))))).1 (fun cy => wAt_11 cy _ (hXS75 _ _ (hXS72 _ _ (hXS71 _ _ (hXS68 _ _ (hXS67 _ _ (hXS64 _ _ (hXS61 _ _ (hXS59 _ _ (hXS56 _ _ (hXS55 _ _ (hXS52 _ _ (hXS51 _ _ (hXS48 _ _ (hXS47 _ _ (hXS44 _ _ (hXS41 _ _ (hXS39 _ _ hl0A))))))))))))))))).2) rfl 8 (by decide) (List.mem_of_getElem? (i := 26) rfl) rfl tyX11_ok nmX11 rfl rfl (ty := (.array .int)) rfl rfl rfl (by show 8 < 19; decide) (fun cy b => by rw [eS76]; exact wSt_11_8 cy _ (hXS75 _ _ (hXS72 _ _ (hXS71 _ _ (hXS68 _ _ (hXS67 _ _ (hXS64 _ _ (hXS61 _ _ (hXS59 _ _ (hXS56 _ _ (hXS55 _ _ (hXS52 _ _ (hXS51 _ _ (hXS48 _ _ (hXS47 _ _ (hXS44 _ _ (hXS41 _ _ (hXS39 _ _ hl0A))))))))))))))))).2 (some q74) b) (by rw [eS76]) dX11_init_72 ?_
  have hWS76 : wkTT S76 := trivial
  have hXS76 : wkExt S75 S76 := by rw [eS76]; exact wkExt.rf
  refine wk_aload_n C dX11_init_75 rfl rfl ?_
  obtain ⟨h77b, h77c, h⟩ := h
  refine wk_newO C hR huX11_init_9 (List.mem_of_getElem? (i := 27) rfl) (List.mem_of_getElem? (i := 28) rfl) (List.mem_of_getElem? (i := 29) rfl) rfl tyX9_ok (by decide) (fun cy S a b => wNw_9 cy S a b) h77b h77c dX11_init_76 (fun q78 h77e => ?_)
  obtain ⟨S79, eS79, h⟩ := wkLt_some (h q78 h77e)
  rw [← eS79]
  obtain ⟨hXS79, hIS79⟩ := wkExt_newO eS79 h77e
  have hWS79 : wkTT S79 := trivial
  refine wk_dup C dX11_init_79 rfl ?_
  obtain ⟨k82, n83, hk82, hn83, h⟩ := h
  refine wk_callI C hR (y := yX9_init) (host := "Witnessworks") (As := []) (cnt := 0) (tX9_init (l := l) hWS79 hIS79 h) rfl (fun w h => ⟨hbX11_init_X9_init w h, gdX9_init w h⟩) (by decide +kernel) rfl (List.mem_of_getElem? (i := 30) rfl) (List.mem_of_getElem? (i := 29) rfl) (Nat.le_trans (by decide : 1 + 1 ≤ 3) hd) (by decide) ⟨by decide, by decide, by decide +kernel⟩ rfl rfl (Nat.le_of_ble_eq_true rfl) hk82 hn83 dX11_init_80 (fun v' S81 hp => ?_)
  obtain ⟨v80, rfl, h, hWS81, hXS81⟩ := hp
  obtain ⟨S84, eS84, h⟩ := wkLt_some h
  refine wk_putF C hI0 (S' := S84) huX11_init_11 (hXS81 _ _ (hXS79 _ _ (hXS76 _ _ (hXS75 _ _ (hXS72 _ _ (hXS71 _ _ (hXS68 _ _ (hXS67 _ _ (hXS64 _ _ (hXS61 _ _ (hXS59 _ _ (hXS56 _ _ (hXS55 _ _ (hXS52 _ _ (hXS51 _ _ (hXS48 _ _ (hXS47 _ _ (hXS44 _ _ (hXS41 _ _ (hXS39 _ _ hl0A)))))))))))))))))))).1 (fun cy => wAt_11 cy _ (hXS81 _ _ (hXS79 _ _ (hXS76 _ _ (hXS75 _ _ (hXS72 _ _ (hXS71 _ _ (hXS68 _ _ (hXS67 _ _ (hXS64 _ _ (hXS61 _ _ (hXS59 _ _ (hXS56 _ _ (hXS55 _ _ (hXS52 _ _ (hXS51 _ _ (hXS48 _ _ (hXS47 _ _ (hXS44 _ _ (hXS41 _ _ (hXS39 _ _ hl0A)))))))))))))))))))).2) rfl 11 (by decide) (List.mem_of_getElem? (i := 31) rfl) rfl tyX11_ok nmX11 rfl rfl (ty := (.object "Witnessworks$Row")) rfl rfl rfl (by show 11 < 19; decide) (fun cy b => by rw [eS84]; exact wSt_11_11 cy _ (hXS81 _ _ (hXS79 _ _ (hXS76 _ _ (hXS75 _ _ (hXS72 _ _ (hXS71 _ _ (hXS68 _ _ (hXS67 _ _ (hXS64 _ _ (hXS61 _ _ (hXS59 _ _ (hXS56 _ _ (hXS55 _ _ (hXS52 _ _ (hXS51 _ _ (hXS48 _ _ (hXS47 _ _ (hXS44 _ _ (hXS41 _ _ (hXS39 _ _ hl0A)))))))))))))))))))).2 (some q78) b) (by rw [eS84]) dX11_init_83 ?_
  have hWS84 : wkTT S84 := trivial
  have hXS84 : wkExt S81 S84 := by rw [eS84]; exact wkExt.rf
  refine wk_aload_n C dX11_init_86 rfl rfl ?_
  refine wk_bipush C (v := 6) dX11_init_87 (by decide) ?_
  obtain ⟨h85a, h85b, h85c, h85d, h⟩ := h
  refine wk_newI C hR (List.mem_of_getElem? (i := 20) rfl) h85a h85b h85c h85d dX11_init_89 (fun q86 h85e => ?_)
  obtain ⟨S87, eS87, h⟩ := wkLt_some (h q86 h85e)
  rw [← eS87]
  obtain ⟨hXS87, hIS87⟩ := wkExt_newI eS87 h85e
  have hWS87 : wkTT S87 := trivial
  obtain ⟨S88, eS88, h⟩ := wkLt_some h
  refine wk_putF C hI0 (S' := S88) huX11_init_11 (hXS87 _ _ (hXS84 _ _ (hXS81 _ _ (hXS79 _ _ (hXS76 _ _ (hXS75 _ _ (hXS72 _ _ (hXS71 _ _ (hXS68 _ _ (hXS67 _ _ (hXS64 _ _ (hXS61 _ _ (hXS59 _ _ (hXS56 _ _ (hXS55 _ _ (hXS52 _ _ (hXS51 _ _ (hXS48 _ _ (hXS47 _ _ (hXS44 _ _ (hXS41 _ _ (hXS39 _ _ hl0A)))))))))))))))))))))).1 (fun cy => wAt_11 cy _ (hXS87 _ _ (hXS84 _ _ (hXS81 _ _ (hXS79 _ _ (hXS76 _ _ (hXS75 _ _ (hXS72 _ _ (hXS71 _ _ (hXS68 _ _ (hXS67 _ _ (hXS64 _ _ (hXS61 _ _ (hXS59 _ _ (hXS56 _ _ (hXS55 _ _ (hXS52 _ _ (hXS51 _ _ (hXS48 _ _ (hXS47 _ _ (hXS44 _ _ (hXS41 _ _ (hXS39 _ _ hl0A)))))))))))))))))))))).2) rfl 12 (by decide) (List.mem_of_getElem? (i := 32) rfl) rfl tyX11_ok nmX11 rfl rfl (ty := (.array .int)) rfl rfl rfl (by show 12 < 19; decide) (fun cy b => by rw [eS88]; exact wSt_11_12 cy _ (hXS87 _ _ (hXS84 _ _ (hXS81 _ _ (hXS79 _ _ (hXS76 _ _ (hXS75 _ _ (hXS72 _ _ (hXS71 _ _ (hXS68 _ _ (hXS67 _ _ (hXS64 _ _ (hXS61 _ _ (hXS59 _ _ (hXS56 _ _ (hXS55 _ _ (hXS52 _ _ (hXS51 _ _ (hXS48 _ _ (hXS47 _ _ (hXS44 _ _ (hXS41 _ _ (hXS39 _ _ hl0A)))))))))))))))))))))).2 (some q86) b) (by rw [eS88]) dX11_init_91 ?_
  have hWS88 : wkTT S88 := trivial
  have hXS88 : wkExt S87 S88 := by rw [eS88]; exact wkExt.rf
  refine wk_aload_n C dX11_init_94 rfl rfl ?_
  refine wk_bipush C (v := 16) dX11_init_95 (by decide) ?_
  obtain ⟨h89a, h89b, h89c, h89d, h⟩ := h
  refine wk_anewClaim C hR hmk (List.mem_of_getElem? (i := 8) rfl) h89a h89b h89c h89d dX11_init_97 (fun q90 h89e => ?_)
  obtain ⟨S91, eS91, h⟩ := wkLt_some (h q90 h89e)
  rw [← eS91]
  obtain ⟨hXS91, hIS91⟩ := wkExt_newA eS91 h89e
  have hWS91 : wkTT S91 := trivial
  obtain ⟨S92, eS92, h⟩ := wkLt_some h
  refine wk_putF C hI0 (S' := S92) huX11_init_11 (hXS91 _ _ (hXS88 _ _ (hXS87 _ _ (hXS84 _ _ (hXS81 _ _ (hXS79 _ _ (hXS76 _ _ (hXS75 _ _ (hXS72 _ _ (hXS71 _ _ (hXS68 _ _ (hXS67 _ _ (hXS64 _ _ (hXS61 _ _ (hXS59 _ _ (hXS56 _ _ (hXS55 _ _ (hXS52 _ _ (hXS51 _ _ (hXS48 _ _ (hXS47 _ _ (hXS44 _ _ (hXS41 _ _ (hXS39 _ _ hl0A)))))))))))))))))))))))).1 (fun cy => wAt_11 cy _ (hXS91 _ _ (hXS88 _ _ (hXS87 _ _ (hXS84 _ _ (hXS81 _ _ (hXS79 _ _ (hXS76 _ _ (hXS75 _ _ (hXS72 _ _ (hXS71 _ _ (hXS68 _ _ (hXS67 _ _ (hXS64 _ _ (hXS61 _ _ (hXS59 _ _ (hXS56 _ _ (hXS55 _ _ (hXS52 _ _ (hXS51 _ _ (hXS48 _ _ (hXS47 _ _ (hXS44 _ _ (hXS41 _ _ (hXS39 _ _ hl0A)))))))))))))))))))))))).2) rfl 14 (by decide) (List.mem_of_getElem? (i := 7) rfl) rfl tyX11_ok nmX11 rfl rfl (ty := (.array (.object "Witnessworks$Claim"))) rfl rfl rfl (by show 14 < 19; decide) (fun cy b => by rw [eS92]; exact wSt_11_14 cy _ (hXS91 _ _ (hXS88 _ _ (hXS87 _ _ (hXS84 _ _ (hXS81 _ _ (hXS79 _ _ (hXS76 _ _ (hXS75 _ _ (hXS72 _ _ (hXS71 _ _ (hXS68 _ _ (hXS67 _ _ (hXS64 _ _ (hXS61 _ _ (hXS59 _ _ (hXS56 _ _ (hXS55 _ _ (hXS52 _ _ (hXS51 _ _ (hXS48 _ _ (hXS47 _ _ (hXS44 _ _ (hXS41 _ _ (hXS39 _ _ hl0A)))))))))))))))))))))))).2 (some q90) b) (by rw [eS92]) dX11_init_100 ?_
  have hWS92 : wkTT S92 := trivial
  have hXS92 : wkExt S91 S92 := by rw [eS92]; exact wkExt.rf
  refine wk_aload_n C dX11_init_103 rfl rfl ?_
  refine wk_sipush C (v := 256) dX11_init_104 (by decide) ?_
  obtain ⟨h93a, h93b, h93c, h93d, h⟩ := h
  refine wk_newI C hR (List.mem_of_getElem? (i := 20) rfl) h93a h93b h93c h93d dX11_init_107 (fun q94 h93e => ?_)
  obtain ⟨S95, eS95, h⟩ := wkLt_some (h q94 h93e)
  rw [← eS95]
  obtain ⟨hXS95, hIS95⟩ := wkExt_newI eS95 h93e
  have hWS95 : wkTT S95 := trivial
  obtain ⟨S96, eS96, h⟩ := wkLt_some h
  refine wk_put C (S' := S96) huX11_init_11 (hXS95 _ _ (hXS92 _ _ (hXS91 _ _ (hXS88 _ _ (hXS87 _ _ (hXS84 _ _ (hXS81 _ _ (hXS79 _ _ (hXS76 _ _ (hXS75 _ _ (hXS72 _ _ (hXS71 _ _ (hXS68 _ _ (hXS67 _ _ (hXS64 _ _ (hXS61 _ _ (hXS59 _ _ (hXS56 _ _ (hXS55 _ _ (hXS52 _ _ (hXS51 _ _ (hXS48 _ _ (hXS47 _ _ (hXS44 _ _ (hXS41 _ _ (hXS39 _ _ hl0A)))))))))))))))))))))))))).1 (fun cy => wAt_11 cy _ (hXS95 _ _ (hXS92 _ _ (hXS91 _ _ (hXS88 _ _ (hXS87 _ _ (hXS84 _ _ (hXS81 _ _ (hXS79 _ _ (hXS76 _ _ (hXS75 _ _ (hXS72 _ _ (hXS71 _ _ (hXS68 _ _ (hXS67 _ _ (hXS64 _ _ (hXS61 _ _ (hXS59 _ _ (hXS56 _ _ (hXS55 _ _ (hXS52 _ _ (hXS51 _ _ (hXS48 _ _ (hXS47 _ _ (hXS44 _ _ (hXS41 _ _ (hXS39 _ _ hl0A)))))))))))))))))))))))))).2) rfl 16 (by decide) (List.mem_of_getElem? (i := 33) rfl) rfl tyX11_ok nmX11 rfl (ty := (.array .int)) rfl rfl rfl (by show 16 < 19; decide) (fun cy b => by rw [eS96]; exact wSt_11_16 cy _ (hXS95 _ _ (hXS92 _ _ (hXS91 _ _ (hXS88 _ _ (hXS87 _ _ (hXS84 _ _ (hXS81 _ _ (hXS79 _ _ (hXS76 _ _ (hXS75 _ _ (hXS72 _ _ (hXS71 _ _ (hXS68 _ _ (hXS67 _ _ (hXS64 _ _ (hXS61 _ _ (hXS59 _ _ (hXS56 _ _ (hXS55 _ _ (hXS52 _ _ (hXS51 _ _ (hXS48 _ _ (hXS47 _ _ (hXS44 _ _ (hXS41 _ _ (hXS39 _ _ hl0A)))))))))))))))))))))))))).2 (some q94) b) (by rw [eS96]) dX11_init_109 ?_
  have hWS96 : wkTT S96 := trivial
  have hXS96 : wkExt S95 S96 := by rw [eS96]; exact wkExt.rf
  refine wk_iconst C (v := 0) dX11_init_112 (by decide) ?_
  refine wk_istore_n C (lv' := [some (.ref l0A), some (.int (0 : Int32))]) dX11_init_113 rfl (by decide) rfl ?_
  exact wk_forget (lv' := [some (.ref l0A), some (.int (0 : Int32))]) (wkLs.le ⟨rfl, rfl, trivial⟩) (ih.1 _ _ h93b h93c _ _ _ hWS96 (wkExt.tr (wkExt.tr (wkExt.tr (wkExt.tr (wkExt.tr (wkExt.tr (wkExt.tr (wkExt.tr (wkExt.tr (wkExt.tr (wkExt.tr (wkExt.tr (wkExt.tr (wkExt.tr (wkExt.tr (wkExt.tr (wkExt.tr (wkExt.tr (wkExt.tr (wkExt.tr (wkExt.tr (wkExt.tr (wkExt.tr (wkExt.tr (wkExt.tr (wkExt.tr (wkExt.tr hE hXS39) hXS41) hXS44) hXS47) hXS48) hXS51) hXS52) hXS55) hXS56) hXS59) hXS61) hXS64) hXS67) hXS68) hXS71) hXS72) hXS75) hXS76) hXS79) hXS81) hXS84) hXS87) hXS88) hXS91) hXS92) hXS95) hXS96) (hXS96 _ _ (hXS95 _ _ (hXS92 _ _ (hXS91 _ _ (hXS88 _ _ (hXS87 _ _ (hXS84 _ _ (hXS81 _ _ (hXS79 _ _ (hXS76 _ _ (hXS75 _ _ (hXS72 _ _ (hXS71 _ _ (hXS68 _ _ (hXS67 _ _ (hXS64 _ _ (hXS61 _ _ (hXS59 _ _ (hXS56 _ _ (hXS55 _ _ (hXS52 _ _ (hXS51 _ _ (hXS48 _ _ (hXS47 _ _ (hXS44 _ _ (hXS41 _ _ (hXS39 _ _ hl0A))))))))))))))))))))))))))) h)
