/-! THE LAW'S OWN LOOPS, lifted (lift3.py). -/
section
def mL_law_b0 (G : wkG) (F : Nat) (rec : Nat → (Nat → Nat) → Int32 → Int32 → Int32 → Int32 → Int32 → Int64 → Int32 → Int64 → mV → Option (Int32 × (Nat → Nat) × mV)) (Ln : Nat → Nat) (l2I : Int32) (l3I : Int32) (V : mV) : Option (Int32 × (Nat → Nat) × mV) :=
  (if l2I ≤ l3I then (mBA (mL_person G F Ln V) fun v2 L3 V3 => (if (lg_cmp v2 (0 : Int64)) = 0 then (mBA (mL_areOne G F L3 ((700 : Int32)) V3) fun v8 L9 V9 => (if v8 = 0 then some ((0 : Int32), L9, V9) else (mBA (mL_settle G F L9 V9) fun v14 L15 V15 => (rec 2 L15 (l2I) ((0 : Int32)) 0 0 0 0 0 0 V15)))) else some ((0 : Int32), L3, V3))) else (mBN (mL_drawn G F (((1 : Int32) + l3I)) ((12 : Int32))) fun v19 => (mBN (mJ0_charAt_5068e F (v19)) fun v24 => (mBA (mL_limit G F Ln (v24) ((0 : Int32)) V) fun v29 L30 V30 => (mBA (mL_limit G F L30 (v24) ((1 : Int32)) V30) fun v34 L35 V35 => (mBN (mL_drawn G F (((10 : Int32) + l3I)) (v34)) fun v39 => (mLt (v29 + v39) fun x44 => (mBA (mL_limit G F L35 (v24) ((2 : Int32)) V35) fun v45 L46 V46 => (mBA (mL_limit G F L46 (v24) ((3 : Int32)) V46) fun v50 L51 V51 => (mBN (mL_drawn G F (((20 : Int32) + l3I)) (v50)) fun v55 => (mBA (mL_open G F L51 (v24) (x44) ((v45 + v55)) V51) fun v60 L61 V61 => (if (lg_cmp v60 (Int32.toInt64 l3I)) = 0 then (mBN (mL_drawn G F (((30 : Int32) + l3I)) ((13 : Int32))) fun v66 => (rec 1 L61 (l2I) (l3I) 0 0 (v66) 0 ((0 : Int32)) 0 V61)) else some ((0 : Int32), L61, V61)))))))))))))
def mL_law_b1 (G : wkG) (F : Nat) (rec : Nat → (Nat → Nat) → Int32 → Int32 → Int32 → Int32 → Int32 → Int64 → Int32 → Int64 → mV → Option (Int32 × (Nat → Nat) × mV)) (Ln : Nat → Nat) (l2I : Int32) (l3I : Int32) (l6I : Int32) (l7I : Int32) (V : mV) : Option (Int32 × (Nat → Nat) × mV) :=
  (if l6I ≤ l7I then (mLt (l3I + (1 : Int32)) fun x72 => (rec 0 Ln (l2I) (x72) 0 0 0 0 0 0 V)) else (mBA (mL_writes G F Ln (l3I) ((-1 : Int32)) ((((40 : Int32) + ((100 : Int32) * l3I)) + ((7 : Int32) * l7I))) V) fun v73 L74 V74 => (if (lg_cmp v73 (-4000000000000000001 : Int64)) = 0 then some ((0 : Int32), L74, V74) else (if (lg_cmp v73 (Int32.toInt64 l6I)) ≤ 0 then (mLt (l7I + (1 : Int32)) fun x80 => (rec 1 L74 (l2I) (l3I) 0 0 (l6I) 0 (x80) 0 V74)) else some ((0 : Int32), L74, V74)))))
def mL_law_b2 (G : wkG) (F : Nat) (rec : Nat → (Nat → Nat) → Int32 → Int32 → Int32 → Int32 → Int32 → Int64 → Int32 → Int64 → mV → Option (Int32 × (Nat → Nat) × mV)) (Ln : Nat → Nat) (l2I : Int32) (l3I : Int32) (V : mV) : Option (Int32 × (Nat → Nat) × mV) :=
  (if (14 : Int32) ≤ l3I then (mBA (mL_isAnew G F Ln V) fun v82 L83 V83 => (if v82 = 0 then some ((0 : Int32), L83, V83) else (mBA (mL_settle G F L83 V83) fun v88 L89 V89 => (if (lg_cmp v88 (0 : Int64)) < 0 then some ((0 : Int32), L89, V89) else (mBA (mL_settle G F L89 V89) fun v94 L95 V95 => (if (lg_cmp v94 (0 : Int64)) = 0 then (mBA (mL_isSound G F L95 V95) fun v100 L101 V101 => (if (lg_cmp v100 (1 : Int64)) = 0 then (rec 4 L101 (l2I) ((0 : Int32)) 0 0 0 0 0 0 V101) else some ((0 : Int32), L101, V101))) else some ((0 : Int32), L95, V95))))))) else (mBN (mL_drawn G F (((60 : Int32) + l3I)) ((1000000 : Int32))) fun v106 => (if l2I = 0 then none else (mLt (v106 - v106 / l2I * l2I) fun x112 => (mBA (mL_checksum G F Ln V) fun v113 L114 V114 => (if ((v106 / (10 : Int32)) - (v106 / (10 : Int32)) / (8 : Int32) * (8 : Int32)) = 0 then (mBA (mL_writes G F L114 (x112) ((-1 : Int32)) (((800 : Int32) + ((9 : Int32) * l3I))) V114) fun v120 L121 V121 => (rec 3 L121 (l2I) (l3I) (v106) (x112) 0 (v113) 0 (v120) V121)) else (if ((v106 / (10 : Int32)) - (v106 / (10 : Int32)) / (8 : Int32) * (8 : Int32)) = 1 then (mBA (mL_items G F L114 (x112) V114) fun v126 L127 V127 => (if (lg_cmp v126 (0 : Int64)) = 0 then (rec 3 L127 (l2I) (l3I) (v106) (x112) 0 (v113) 0 ((-4000000000000000000 : Int64)) V127) else (mBA (mL_items G F L127 (x112) V127) fun v132 L133 V133 => (if (Int64.toInt32 v132) = 0 then none else (mBA (mL_writes G F L133 (x112) (((v106 / (80 : Int32)) - (v106 / (80 : Int32)) / (Int64.toInt32 v132) * (Int64.toInt32 v132))) (((800 : Int32) + ((9 : Int32) * l3I))) V133) fun v138 L139 V139 => (rec 3 L139 (l2I) (l3I) (v106) (x112) 0 (v113) 0 (v138) V139)))))) else (if ((v106 / (10 : Int32)) - (v106 / (10 : Int32)) / (8 : Int32) * (8 : Int32)) = 2 then (mBA (mL_drop G F L114 (x112) (((v106 / (80 : Int32)) - (v106 / (80 : Int32)) / (3 : Int32) * (3 : Int32))) V114) fun v144 L145 V145 => (rec 3 L145 (l2I) (l3I) (v106) (x112) 0 (v113) 0 (v144) V145)) else (if ((v106 / (10 : Int32)) - (v106 / (10 : Int32)) / (8 : Int32) * (8 : Int32)) = 3 then (mBA (mL_kindOf G F L114 (x112) V114) fun v150 L151 V151 => (mBA (mL_limit G F L151 (((Int32.toUInt32 (Int64.toInt32 v150)) % 65536).toInt32) ((2 : Int32)) V151) fun v155 L156 V156 => (mBA (mL_kindOf G F L156 (x112) V156) fun v160 L161 V161 => (mBA (mL_limit G F L161 (((Int32.toUInt32 (Int64.toInt32 v160)) % 65536).toInt32) ((3 : Int32)) V161) fun v165 L166 V166 => (if v165 = 0 then none else (mBA (mL_setBound G F L166 (x112) ((v155 + ((v106 / (80 : Int32)) - (v106 / (80 : Int32)) / v165 * v165))) V166) fun v171 L172 V172 => (if (lg_cmp v171 (-4000000000000000002 : Int64)) = 0 then (rec 3 L172 (l2I) (l3I) (v106) (x112) 0 (v113) 0 ((-4000000000000000000 : Int64)) V172) else (rec 3 L172 (l2I) (l3I) (v106) (x112) 0 (v113) 0 ((0 : Int64)) V172)))))))) else (if ((v106 / (10 : Int32)) - (v106 / (10 : Int32)) / (8 : Int32) * (8 : Int32)) = 4 then (if l2I = 0 then none else (mBA (mL_lean G F L114 (x112) (((v106 / (80 : Int32)) - (v106 / (80 : Int32)) / l2I * l2I)) ((((v106 / (800 : Int32)) - (v106 / (800 : Int32)) / (41 : Int32) * (41 : Int32)) - (20 : Int32))) V114) fun v179 L180 V180 => (if 0 ≤ (lg_cmp v179 (-2000000000000000000 : Int64)) then (rec 3 L180 (l2I) (l3I) (v106) (x112) 0 (v113) 0 ((0 : Int64)) V180) else (rec 3 L180 (l2I) (l3I) (v106) (x112) 0 (v113) 0 ((-4000000000000000000 : Int64)) V180)))) else (if ((v106 / (10 : Int32)) - (v106 / (10 : Int32)) / (8 : Int32) * (8 : Int32)) = 5 then (mBA (mL_stand G F L114 (x112) V114) fun v186 L187 V187 => (if 0 ≤ (lg_cmp v186 (-2000000000000000000 : Int64)) then (rec 3 L187 (l2I) (l3I) (v106) (x112) 0 (v113) 0 ((0 : Int64)) V187) else (rec 3 L187 (l2I) (l3I) (v106) (x112) 0 (v113) 0 ((-4000000000000000000 : Int64)) V187))) else (if ((v106 / (10 : Int32)) - (v106 / (10 : Int32)) / (8 : Int32) * (8 : Int32)) = 6 then (mBA (mL_borrow G F L114 (x112) V114) fun v193 L194 V194 => (if (lg_cmp v193 (0 : Int64)) < 0 then (rec 3 L194 (l2I) (l3I) (v106) (x112) 0 (v113) 0 ((-4000000000000000000 : Int64)) V194) else (mBA (mL_answer G F L194 (x112) V194) fun v199 L200 V200 => (if (lg_cmp v199 (110 : Int64)) = 0 then (mBA (mL_claim G F L200 ((0 : Int32)) (x112) ((1 : Int32)) V200) fun v211 L212 V212 => (if 0 ≤ (lg_cmp v211 (1 : Int64)) then (rec 3 L212 (l2I) (l3I) (v106) (x112) 0 (v113) 0 ((-4000000000000000000 : Int64)) V212) else some ((0 : Int32), L212, V212))) else (mBA (mL_claim G F L200 ((0 : Int32)) (x112) ((0 : Int32)) V200) fun v205 L206 V206 => (if 0 ≤ (lg_cmp v205 (1 : Int64)) then (rec 3 L206 (l2I) (l3I) (v106) (x112) 0 (v113) 0 ((-4000000000000000000 : Int64)) V206) else some ((0 : Int32), L206, V206))))))) else (mBA (mL_borrow G F L114 (x112) V114) fun v217 L218 V218 => (if (lg_cmp v217 (0 : Int64)) < 0 then (rec 3 L218 (l2I) (l3I) (v106) (x112) 0 (v113) 0 ((-4000000000000000000 : Int64)) V218) else (mBA (mL_answer G F L218 (x112) V218) fun v223 L224 V224 => (if (lg_cmp v223 (121 : Int64)) = 0 then (mBA (mL_claim G F L224 ((0 : Int32)) (x112) ((1 : Int32)) V224) fun v235 L236 V236 => (if (lg_cmp v235 (0 : Int64)) ≤ 0 then (rec 3 L236 (l2I) (l3I) (v106) (x112) 0 (v113) 0 ((-4000000000000000000 : Int64)) V236) else some ((0 : Int32), L236, V236))) else (mBA (mL_claim G F L224 ((0 : Int32)) (x112) ((0 : Int32)) V224) fun v229 L230 V230 => (if (lg_cmp v229 (0 : Int64)) ≤ 0 then (rec 3 L230 (l2I) (l3I) (v106) (x112) 0 (v113) 0 ((-4000000000000000000 : Int64)) V230) else some ((0 : Int32), L230, V230)))))))))))))))))))
def mL_law_b3 (G : wkG) (F : Nat) (rec : Nat → (Nat → Nat) → Int32 → Int32 → Int32 → Int32 → Int32 → Int64 → Int32 → Int64 → mV → Option (Int32 × (Nat → Nat) × mV)) (Ln : Nat → Nat) (l2I : Int32) (l3I : Int32) (l4I : Int32) (l5I : Int32) (l6J : Int64) (l8J : Int64) (V : mV) : Option (Int32 × (Nat → Nat) × mV) :=
  (if ((l4I / (40000 : Int32)) - (l4I / (40000 : Int32)) / (3 : Int32) * (3 : Int32)) = 0 then (if (lg_cmp l8J (0 : Int64)) < 0 then (mBA (mL_isOne G F Ln (l5I) (((900 : Int32) + ((11 : Int32) * l3I))) V) fun v250 L251 V251 => (if v250 = 0 then some ((0 : Int32), L251, V251) else (mLt (l3I + (1 : Int32)) fun x256 => (rec 2 L251 (l2I) (x256) 0 0 0 0 0 0 V251)))) else (mBA (mL_undo G F Ln V) fun v257 L258 V258 => (if (lg_cmp v257 (0 : Int64)) < 0 then some ((0 : Int32), L258, V258) else (mBA (mL_checksum G F L258 V258) fun v263 L264 V264 => (if (lg_cmp v263 l6J) = 0 then (mBA (mL_isOne G F L264 (l5I) (((900 : Int32) + ((11 : Int32) * l3I))) V264) fun v269 L270 V270 => (if v269 = 0 then some ((0 : Int32), L270, V270) else (mLt (l3I + (1 : Int32)) fun x275 => (rec 2 L270 (l2I) (x275) 0 0 0 0 0 0 V270)))) else some ((0 : Int32), L264, V264)))))) else (mBA (mL_isOne G F Ln (l5I) (((900 : Int32) + ((11 : Int32) * l3I))) V) fun v242 L243 V243 => (if v242 = 0 then some ((0 : Int32), L243, V243) else (mLt (l3I + (1 : Int32)) fun x248 => (rec 2 L243 (l2I) (x248) 0 0 0 0 0 0 V243)))))
def mL_law_b4 (G : wkG) (F : Nat) (rec : Nat → (Nat → Nat) → Int32 → Int32 → Int32 → Int32 → Int32 → Int64 → Int32 → Int64 → mV → Option (Int32 × (Nat → Nat) × mV)) (Ln : Nat → Nat) (l2I : Int32) (l3I : Int32) (V : mV) : Option (Int32 × (Nat → Nat) × mV) :=
  (if l2I ≤ l3I then (mBA (mL_areOne G F Ln ((1100 : Int32)) V) fun v277 L278 V278 => (if v277 = 0 then some ((0 : Int32), L278, V278) else (mBA (mL_isAnew G F L278 V278) fun v283 L284 V284 => (if v283 = 0 then some ((0 : Int32), L284, V284) else (mBA (mL_isSound G F L284 V284) fun v289 L290 V290 => (if (lg_cmp v289 (1 : Int64)) = 0 then some ((1 : Int32), L290, V290) else some ((0 : Int32), L290, V290))))))) else (mBA (mL_kindOf G F Ln (l3I) V) fun v295 L296 V296 => (if (lg_cmp v295 (102 : Int64)) = 0 then (mBA (mL_isCarried G F L296 (l3I) ((108 : Int32)) V296) fun v314 L315 V315 => (if v314 = 0 then some ((0 : Int32), L315, V315) else (mBA (mL_isCarried G F L315 (l3I) ((115 : Int32)) V315) fun v320 L321 V321 => (if v320 = 0 then some ((0 : Int32), L321, V321) else (mLt (l3I + (1 : Int32)) fun x326 => (rec 4 L321 (l2I) (x326) 0 0 0 0 0 0 V321)))))) else (mBA (mL_isCarried G F L296 (l3I) ((102 : Int32)) V296) fun v301 L302 V302 => (if v301 = 0 then some ((0 : Int32), L302, V302) else (mBA (mL_isCarried G F L302 (l3I) ((115 : Int32)) V302) fun v307 L308 V308 => (if v307 = 0 then some ((0 : Int32), L308, V308) else (mLt (l3I + (1 : Int32)) fun x313 => (rec 4 L308 (l2I) (x313) 0 0 0 0 0 0 V308)))))))))
def mL_law_go (G : wkG) (F : Nat) : Nat → Nat → (Nat → Nat) → Int32 → Int32 → Int32 → Int32 → Int32 → Int64 → Int32 → Int64 → mV → Option (Int32 × (Nat → Nat) × mV)
  | 0, _, _, _, _, _, _, _, _, _, _, _ => none
  | k' + 1, lab, Ln, l2I, l3I, l4I, l5I, l6I, l6J, l7I, l8J, V => if lab = 0 then mL_law_b0 G F (mL_law_go G F k') Ln l2I l3I V else if lab = 1 then mL_law_b1 G F (mL_law_go G F k') Ln l2I l3I l6I l7I V else if lab = 2 then mL_law_b2 G F (mL_law_go G F k') Ln l2I l3I V else if lab = 3 then mL_law_b3 G F (mL_law_go G F k') Ln l2I l3I l4I l5I l6J l8J V else if lab = 4 then mL_law_b4 G F (mL_law_go G F k') Ln l2I l3I V else none
set_option maxHeartbeats 4000000 in
set_option maxRecDepth 100000 in
theorem ML_law_go {G : wkG} {F : Nat} {v : Int32} {Ln1 : Nat → Nat} {V1 : mV} : ∀ k' : Nat, (∀ (l2I : Int32) (l3I : Int32) (Ln : Nat → Nat) (V : mV), mL_law_go G F k' 0 Ln l2I l3I 0 0 0 0 0 0 V = some (v, Ln1, V1) → mP Ln1 ≤ mP Ln) ∧ (∀ (l2I : Int32) (l3I : Int32) (l6I : Int32) (l7I : Int32) (Ln : Nat → Nat) (V : mV), mL_law_go G F k' 1 Ln l2I l3I 0 0 l6I 0 l7I 0 V = some (v, Ln1, V1) → mP Ln1 ≤ mP Ln) ∧ (∀ (l2I : Int32) (l3I : Int32) (Ln : Nat → Nat) (V : mV), mL_law_go G F k' 2 Ln l2I l3I 0 0 0 0 0 0 V = some (v, Ln1, V1) → mP Ln1 ≤ mP Ln) ∧ (∀ (l2I : Int32) (l3I : Int32) (l4I : Int32) (l5I : Int32) (l6J : Int64) (l8J : Int64) (Ln : Nat → Nat) (V : mV), mL_law_go G F k' 3 Ln l2I l3I l4I l5I 0 l6J 0 l8J V = some (v, Ln1, V1) → mP Ln1 ≤ mP Ln) ∧ (∀ (l2I : Int32) (l3I : Int32) (Ln : Nat → Nat) (V : mV), mL_law_go G F k' 4 Ln l2I l3I 0 0 0 0 0 0 V = some (v, Ln1, V1) → mP Ln1 ≤ mP Ln) := by
  intro k'
  induction k' with
  | zero => exact ⟨(fun _ _ _ _ h => by cases h), (fun _ _ _ _ _ _ h => by cases h), (fun _ _ _ _ h => by cases h), (fun _ _ _ _ _ _ _ _ h => by cases h), (fun _ _ _ _ h => by cases h)⟩
  | succ k' ihM =>
    refine ⟨?_, ?_, ?_, ?_, ?_⟩
    · intro l2I l3I Ln V h
      rw [mL_law_go, if_pos rfl] at h
      unfold mL_law_b0 at h
      rcases mIf_some h with ⟨_, h⟩ | ⟨_, h⟩
      · obtain ⟨_, _, _, z1, h⟩ := mBA_some h
        refine Nat.le_trans ?_ (ML_person z1)
        rcases mIf_some h with ⟨_, h⟩ | ⟨_, h⟩
        · obtain ⟨_, _, _, z2, h⟩ := mBA_some h
          refine Nat.le_trans ?_ (ML_areOne z2)
          rcases mIf_some h with ⟨_, h⟩ | ⟨_, h⟩
          · cases h
            exact Nat.le_refl _
          · obtain ⟨_, _, _, z3, h⟩ := mBA_some h
            refine Nat.le_trans ?_ (ML_settle z3)
            exact ihM.2.2.1 _ _ _ _ h
        · cases h
          exact Nat.le_refl _
      · obtain ⟨_, _, h⟩ := mBN_some h
        obtain ⟨_, _, h⟩ := mBN_some h
        obtain ⟨_, _, _, z4, h⟩ := mBA_some h
        refine Nat.le_trans ?_ (ML_limit z4)
        obtain ⟨_, _, _, z5, h⟩ := mBA_some h
        refine Nat.le_trans ?_ (ML_limit z5)
        obtain ⟨_, _, h⟩ := mBN_some h
        obtain ⟨_, _, h⟩ := mLt_some h
        obtain ⟨_, _, _, z6, h⟩ := mBA_some h
        refine Nat.le_trans ?_ (ML_limit z6)
        obtain ⟨_, _, _, z7, h⟩ := mBA_some h
        refine Nat.le_trans ?_ (ML_limit z7)
        obtain ⟨_, _, h⟩ := mBN_some h
        obtain ⟨_, _, _, z8, h⟩ := mBA_some h
        refine Nat.le_trans ?_ (ML_open z8)
        rcases mIf_some h with ⟨_, h⟩ | ⟨_, h⟩
        · obtain ⟨_, _, h⟩ := mBN_some h
          exact ihM.2.1 _ _ _ _ _ _ h
        · cases h
          exact Nat.le_refl _
    · intro l2I l3I l6I l7I Ln V h
      rw [mL_law_go, if_neg (by decide), if_pos rfl] at h
      unfold mL_law_b1 at h
      rcases mIf_some h with ⟨_, h⟩ | ⟨_, h⟩
      · obtain ⟨_, _, h⟩ := mLt_some h
        exact ihM.1 _ _ _ _ h
      · obtain ⟨_, _, _, z9, h⟩ := mBA_some h
        refine Nat.le_trans ?_ (ML_writes z9)
        rcases mIf_some h with ⟨_, h⟩ | ⟨_, h⟩
        · cases h
          exact Nat.le_refl _
        · rcases mIf_some h with ⟨_, h⟩ | ⟨_, h⟩
          · obtain ⟨_, _, h⟩ := mLt_some h
            exact ihM.2.1 _ _ _ _ _ _ h
          · cases h
            exact Nat.le_refl _
    · intro l2I l3I Ln V h
      rw [mL_law_go, if_neg (by decide), if_neg (by decide), if_pos rfl] at h
      unfold mL_law_b2 at h
      rcases mIf_some h with ⟨_, h⟩ | ⟨_, h⟩
      · obtain ⟨_, _, _, z10, h⟩ := mBA_some h
        refine Nat.le_trans ?_ (ML_isAnew z10)
        rcases mIf_some h with ⟨_, h⟩ | ⟨_, h⟩
        · cases h
          exact Nat.le_refl _
        · obtain ⟨_, _, _, z11, h⟩ := mBA_some h
          refine Nat.le_trans ?_ (ML_settle z11)
          rcases mIf_some h with ⟨_, h⟩ | ⟨_, h⟩
          · cases h
            exact Nat.le_refl _
          · obtain ⟨_, _, _, z12, h⟩ := mBA_some h
            refine Nat.le_trans ?_ (ML_settle z12)
            rcases mIf_some h with ⟨_, h⟩ | ⟨_, h⟩
            · obtain ⟨_, _, _, z13, h⟩ := mBA_some h
              refine Nat.le_trans ?_ (ML_isSound z13)
              rcases mIf_some h with ⟨_, h⟩ | ⟨_, h⟩
              · exact ihM.2.2.2.2 _ _ _ _ h
              · cases h
                exact Nat.le_refl _
            · cases h
              exact Nat.le_refl _
      · obtain ⟨_, _, h⟩ := mBN_some h
        obtain ⟨_, h⟩ := mGd_some h
        obtain ⟨_, _, h⟩ := mLt_some h
        obtain ⟨_, _, _, z14, h⟩ := mBA_some h
        refine Nat.le_trans ?_ (ML_checksum z14)
        rcases mIf_some h with ⟨_, h⟩ | ⟨_, h⟩
        · obtain ⟨_, _, _, z15, h⟩ := mBA_some h
          refine Nat.le_trans ?_ (ML_writes z15)
          exact ihM.2.2.2.1 _ _ _ _ _ _ _ _ h
        · rcases mIf_some h with ⟨_, h⟩ | ⟨_, h⟩
          · obtain ⟨_, _, _, z16, h⟩ := mBA_some h
            refine Nat.le_trans ?_ (ML_items z16)
            rcases mIf_some h with ⟨_, h⟩ | ⟨_, h⟩
            · exact ihM.2.2.2.1 _ _ _ _ _ _ _ _ h
            · obtain ⟨_, _, _, z17, h⟩ := mBA_some h
              refine Nat.le_trans ?_ (ML_items z17)
              obtain ⟨_, h⟩ := mGd_some h
              obtain ⟨_, _, _, z18, h⟩ := mBA_some h
              refine Nat.le_trans ?_ (ML_writes z18)
              exact ihM.2.2.2.1 _ _ _ _ _ _ _ _ h
          · rcases mIf_some h with ⟨_, h⟩ | ⟨_, h⟩
            · obtain ⟨_, _, _, z19, h⟩ := mBA_some h
              refine Nat.le_trans ?_ (ML_drop z19)
              exact ihM.2.2.2.1 _ _ _ _ _ _ _ _ h
            · rcases mIf_some h with ⟨_, h⟩ | ⟨_, h⟩
              · obtain ⟨_, _, _, z20, h⟩ := mBA_some h
                refine Nat.le_trans ?_ (ML_kindOf z20)
                obtain ⟨_, _, _, z21, h⟩ := mBA_some h
                refine Nat.le_trans ?_ (ML_limit z21)
                obtain ⟨_, _, _, z22, h⟩ := mBA_some h
                refine Nat.le_trans ?_ (ML_kindOf z22)
                obtain ⟨_, _, _, z23, h⟩ := mBA_some h
                refine Nat.le_trans ?_ (ML_limit z23)
                obtain ⟨_, h⟩ := mGd_some h
                obtain ⟨_, _, _, z24, h⟩ := mBA_some h
                refine Nat.le_trans ?_ (ML_setBound z24)
                rcases mIf_some h with ⟨_, h⟩ | ⟨_, h⟩
                · exact ihM.2.2.2.1 _ _ _ _ _ _ _ _ h
                · exact ihM.2.2.2.1 _ _ _ _ _ _ _ _ h
              · rcases mIf_some h with ⟨_, h⟩ | ⟨_, h⟩
                · obtain ⟨_, h⟩ := mGd_some h
                  obtain ⟨_, _, _, z25, h⟩ := mBA_some h
                  refine Nat.le_trans ?_ (ML_lean z25)
                  rcases mIf_some h with ⟨_, h⟩ | ⟨_, h⟩
                  · exact ihM.2.2.2.1 _ _ _ _ _ _ _ _ h
                  · exact ihM.2.2.2.1 _ _ _ _ _ _ _ _ h
                · rcases mIf_some h with ⟨_, h⟩ | ⟨_, h⟩
                  · obtain ⟨_, _, _, z26, h⟩ := mBA_some h
                    refine Nat.le_trans ?_ (ML_stand z26)
                    rcases mIf_some h with ⟨_, h⟩ | ⟨_, h⟩
                    · exact ihM.2.2.2.1 _ _ _ _ _ _ _ _ h
                    · exact ihM.2.2.2.1 _ _ _ _ _ _ _ _ h
                  · rcases mIf_some h with ⟨_, h⟩ | ⟨_, h⟩
                    · obtain ⟨_, _, _, z27, h⟩ := mBA_some h
                      refine Nat.le_trans ?_ (ML_borrow z27)
                      rcases mIf_some h with ⟨_, h⟩ | ⟨_, h⟩
                      · exact ihM.2.2.2.1 _ _ _ _ _ _ _ _ h
                      · obtain ⟨_, _, _, z28, h⟩ := mBA_some h
                        refine Nat.le_trans ?_ (ML_answer z28)
                        rcases mIf_some h with ⟨_, h⟩ | ⟨_, h⟩
                        · obtain ⟨_, _, _, z29, h⟩ := mBA_some h
                          refine Nat.le_trans ?_ (ML_claim z29)
                          rcases mIf_some h with ⟨_, h⟩ | ⟨_, h⟩
                          · exact ihM.2.2.2.1 _ _ _ _ _ _ _ _ h
                          · cases h
                            exact Nat.le_refl _
                        · obtain ⟨_, _, _, z30, h⟩ := mBA_some h
                          refine Nat.le_trans ?_ (ML_claim z30)
                          rcases mIf_some h with ⟨_, h⟩ | ⟨_, h⟩
                          · exact ihM.2.2.2.1 _ _ _ _ _ _ _ _ h
                          · cases h
                            exact Nat.le_refl _
                    · obtain ⟨_, _, _, z31, h⟩ := mBA_some h
                      refine Nat.le_trans ?_ (ML_borrow z31)
                      rcases mIf_some h with ⟨_, h⟩ | ⟨_, h⟩
                      · exact ihM.2.2.2.1 _ _ _ _ _ _ _ _ h
                      · obtain ⟨_, _, _, z32, h⟩ := mBA_some h
                        refine Nat.le_trans ?_ (ML_answer z32)
                        rcases mIf_some h with ⟨_, h⟩ | ⟨_, h⟩
                        · obtain ⟨_, _, _, z33, h⟩ := mBA_some h
                          refine Nat.le_trans ?_ (ML_claim z33)
                          rcases mIf_some h with ⟨_, h⟩ | ⟨_, h⟩
                          · exact ihM.2.2.2.1 _ _ _ _ _ _ _ _ h
                          · cases h
                            exact Nat.le_refl _
                        · obtain ⟨_, _, _, z34, h⟩ := mBA_some h
                          refine Nat.le_trans ?_ (ML_claim z34)
                          rcases mIf_some h with ⟨_, h⟩ | ⟨_, h⟩
                          · exact ihM.2.2.2.1 _ _ _ _ _ _ _ _ h
                          · cases h
                            exact Nat.le_refl _
    · intro l2I l3I l4I l5I l6J l8J Ln V h
      rw [mL_law_go, if_neg (by decide), if_neg (by decide), if_neg (by decide), if_pos rfl] at h
      unfold mL_law_b3 at h
      rcases mIf_some h with ⟨_, h⟩ | ⟨_, h⟩
      · rcases mIf_some h with ⟨_, h⟩ | ⟨_, h⟩
        · obtain ⟨_, _, _, z35, h⟩ := mBA_some h
          refine Nat.le_trans ?_ (ML_isOne z35)
          rcases mIf_some h with ⟨_, h⟩ | ⟨_, h⟩
          · cases h
            exact Nat.le_refl _
          · obtain ⟨_, _, h⟩ := mLt_some h
            exact ihM.2.2.1 _ _ _ _ h
        · obtain ⟨_, _, _, z36, h⟩ := mBA_some h
          refine Nat.le_trans ?_ (ML_undo z36)
          rcases mIf_some h with ⟨_, h⟩ | ⟨_, h⟩
          · cases h
            exact Nat.le_refl _
          · obtain ⟨_, _, _, z37, h⟩ := mBA_some h
            refine Nat.le_trans ?_ (ML_checksum z37)
            rcases mIf_some h with ⟨_, h⟩ | ⟨_, h⟩
            · obtain ⟨_, _, _, z38, h⟩ := mBA_some h
              refine Nat.le_trans ?_ (ML_isOne z38)
              rcases mIf_some h with ⟨_, h⟩ | ⟨_, h⟩
              · cases h
                exact Nat.le_refl _
              · obtain ⟨_, _, h⟩ := mLt_some h
                exact ihM.2.2.1 _ _ _ _ h
            · cases h
              exact Nat.le_refl _
      · obtain ⟨_, _, _, z39, h⟩ := mBA_some h
        refine Nat.le_trans ?_ (ML_isOne z39)
        rcases mIf_some h with ⟨_, h⟩ | ⟨_, h⟩
        · cases h
          exact Nat.le_refl _
        · obtain ⟨_, _, h⟩ := mLt_some h
          exact ihM.2.2.1 _ _ _ _ h
    · intro l2I l3I Ln V h
      rw [mL_law_go, if_neg (by decide), if_neg (by decide), if_neg (by decide), if_neg (by decide), if_pos rfl] at h
      unfold mL_law_b4 at h
      rcases mIf_some h with ⟨_, h⟩ | ⟨_, h⟩
      · obtain ⟨_, _, _, z40, h⟩ := mBA_some h
        refine Nat.le_trans ?_ (ML_areOne z40)
        rcases mIf_some h with ⟨_, h⟩ | ⟨_, h⟩
        · cases h
          exact Nat.le_refl _
        · obtain ⟨_, _, _, z41, h⟩ := mBA_some h
          refine Nat.le_trans ?_ (ML_isAnew z41)
          rcases mIf_some h with ⟨_, h⟩ | ⟨_, h⟩
          · cases h
            exact Nat.le_refl _
          · obtain ⟨_, _, _, z42, h⟩ := mBA_some h
            refine Nat.le_trans ?_ (ML_isSound z42)
            rcases mIf_some h with ⟨_, h⟩ | ⟨_, h⟩
            · cases h
              exact Nat.le_refl _
            · cases h
              exact Nat.le_refl _
      · obtain ⟨_, _, _, z43, h⟩ := mBA_some h
        refine Nat.le_trans ?_ (ML_kindOf z43)
        rcases mIf_some h with ⟨_, h⟩ | ⟨_, h⟩
        · obtain ⟨_, _, _, z44, h⟩ := mBA_some h
          refine Nat.le_trans ?_ (ML_isCarried z44)
          rcases mIf_some h with ⟨_, h⟩ | ⟨_, h⟩
          · cases h
            exact Nat.le_refl _
          · obtain ⟨_, _, _, z45, h⟩ := mBA_some h
            refine Nat.le_trans ?_ (ML_isCarried z45)
            rcases mIf_some h with ⟨_, h⟩ | ⟨_, h⟩
            · cases h
              exact Nat.le_refl _
            · obtain ⟨_, _, h⟩ := mLt_some h
              exact ihM.2.2.2.2 _ _ _ _ h
        · obtain ⟨_, _, _, z46, h⟩ := mBA_some h
          refine Nat.le_trans ?_ (ML_isCarried z46)
          rcases mIf_some h with ⟨_, h⟩ | ⟨_, h⟩
          · cases h
            exact Nat.le_refl _
          · obtain ⟨_, _, _, z47, h⟩ := mBA_some h
            refine Nat.le_trans ?_ (ML_isCarried z47)
            rcases mIf_some h with ⟨_, h⟩ | ⟨_, h⟩
            · cases h
              exact Nat.le_refl _
            · obtain ⟨_, _, h⟩ := mLt_some h
              exact ihM.2.2.2.2 _ _ _ _ h
set_option maxHeartbeats 4000000 in
set_option maxRecDepth 100000 in
theorem LL_law_go {G : wkG} {α : Nat → Nat} {k0 n0 : Nat} {F : Nat} {v : Int32} {Ln1 : Nat → Nat} {V1 : mV} {Φ : (Int32 → wPS → Prop)} : ∀ k' : Nat, (∀ (l2I : Int32) (l3I : Int32) (S : wPS) (V : mV) (Ln : Nat → Nat) (c s : Nat), mRel α S Ln V → wkWF S → mL_law_go G F k' 0 Ln l2I l3I 0 0 0 0 0 0 V = some (v, Ln1, V1) → c + (mP Ln - mP Ln1) / 16 ≤ k0 → s + (mP Ln - mP Ln1) ≤ n0 → (∀ S1, mRel α S1 Ln1 V1 → mFr α S S1 → Φ v S1) → rL_law_go G F k0 n0 k' 0 c s (α 0) l2I l3I 0 0 0 0 0 0 S Φ) ∧ (∀ (l2I : Int32) (l3I : Int32) (l6I : Int32) (l7I : Int32) (S : wPS) (V : mV) (Ln : Nat → Nat) (c s : Nat), mRel α S Ln V → wkWF S → mL_law_go G F k' 1 Ln l2I l3I 0 0 l6I 0 l7I 0 V = some (v, Ln1, V1) → c + (mP Ln - mP Ln1) / 16 ≤ k0 → s + (mP Ln - mP Ln1) ≤ n0 → (∀ S1, mRel α S1 Ln1 V1 → mFr α S S1 → Φ v S1) → rL_law_go G F k0 n0 k' 1 c s (α 0) l2I l3I 0 0 l6I 0 l7I 0 S Φ) ∧ (∀ (l2I : Int32) (l3I : Int32) (S : wPS) (V : mV) (Ln : Nat → Nat) (c s : Nat), mRel α S Ln V → wkWF S → mL_law_go G F k' 2 Ln l2I l3I 0 0 0 0 0 0 V = some (v, Ln1, V1) → c + (mP Ln - mP Ln1) / 16 ≤ k0 → s + (mP Ln - mP Ln1) ≤ n0 → (∀ S1, mRel α S1 Ln1 V1 → mFr α S S1 → Φ v S1) → rL_law_go G F k0 n0 k' 2 c s (α 0) l2I l3I 0 0 0 0 0 0 S Φ) ∧ (∀ (l2I : Int32) (l3I : Int32) (l4I : Int32) (l5I : Int32) (l6J : Int64) (l8J : Int64) (S : wPS) (V : mV) (Ln : Nat → Nat) (c s : Nat), mRel α S Ln V → wkWF S → mL_law_go G F k' 3 Ln l2I l3I l4I l5I 0 l6J 0 l8J V = some (v, Ln1, V1) → c + (mP Ln - mP Ln1) / 16 ≤ k0 → s + (mP Ln - mP Ln1) ≤ n0 → (∀ S1, mRel α S1 Ln1 V1 → mFr α S S1 → Φ v S1) → rL_law_go G F k0 n0 k' 3 c s (α 0) l2I l3I l4I l5I 0 l6J 0 l8J S Φ) ∧ (∀ (l2I : Int32) (l3I : Int32) (S : wPS) (V : mV) (Ln : Nat → Nat) (c s : Nat), mRel α S Ln V → wkWF S → mL_law_go G F k' 4 Ln l2I l3I 0 0 0 0 0 0 V = some (v, Ln1, V1) → c + (mP Ln - mP Ln1) / 16 ≤ k0 → s + (mP Ln - mP Ln1) ≤ n0 → (∀ S1, mRel α S1 Ln1 V1 → mFr α S S1 → Φ v S1) → rL_law_go G F k0 n0 k' 4 c s (α 0) l2I l3I 0 0 0 0 0 0 S Φ) := by
  intro k'
  induction k' with
  | zero => exact ⟨(fun _ _ _ _ _ _ _ _ _ h _ _ _ => by cases h), (fun _ _ _ _ _ _ _ _ _ _ _ h _ _ _ => by cases h), (fun _ _ _ _ _ _ _ _ _ h _ _ _ => by cases h), (fun _ _ _ _ _ _ _ _ _ _ _ _ _ h _ _ _ => by cases h), (fun _ _ _ _ _ _ _ _ _ h _ _ _ => by cases h)⟩
  | succ k' ih =>
    have ihM := ML_law_go (G := G) (F := F) (v := v) (Ln1 := Ln1) (V1 := V1) k'
    refine ⟨?_, ?_, ?_, ?_, ?_⟩
    · intro l2I l3I S V Ln c s R hW h hk hn k
      rw [mL_law_go, if_pos rfl] at h
      rw [rL_law_go, if_pos rfl]
      unfold mL_law_b0 at h
      unfold rL_law_b0
      refine mIf h Iff.rfl (fun c48 h => ?_) (fun c48 h => ?_)
      · obtain ⟨v2, L3, V3, hv2, h⟩ := mBA_some h
        have mv2 : mP L3 ≤ mP Ln := ML_person hv2
        have qv2 : mP Ln1 ≤ mP L3 := by
          rcases mIf_some h with ⟨_, h⟩ | ⟨_, h⟩
          · obtain ⟨_, _, _, z49, h⟩ := mBA_some h
            refine Nat.le_trans ?_ (ML_areOne z49)
            rcases mIf_some h with ⟨_, h⟩ | ⟨_, h⟩
            · cases h
              exact Nat.le_refl _
            · obtain ⟨_, _, _, z50, h⟩ := mBA_some h
              refine Nat.le_trans ?_ (ML_settle z50)
              exact ihM.2.2.1 _ _ _ _ h
          · cases h
            exact Nat.le_refl _
        refine ⟨(mP Ln - mP L3) / 16, mP Ln - mP L3, by omega, by omega, ?_⟩
        refine LL_person hv2 R rfl (by omega) (by omega) (fun S3 R3 F3 => ?_)
        refine mIf h Iff.rfl (fun c51 h => ?_) (fun c51 h => ?_)
        · obtain ⟨v8, L9, V9, hv8, h⟩ := mBA_some h
          have mv8 : mP L9 ≤ mP L3 := ML_areOne hv8
          have qv8 : mP Ln1 ≤ mP L9 := by
            rcases mIf_some h with ⟨_, h⟩ | ⟨_, h⟩
            · cases h
              exact Nat.le_refl _
            · obtain ⟨_, _, _, z52, h⟩ := mBA_some h
              refine Nat.le_trans ?_ (ML_settle z52)
              exact ihM.2.2.1 _ _ _ _ h
          refine ⟨(mP L3 - mP L9) / 16, mP L3 - mP L9, by omega, by omega, ?_⟩
          refine LL_areOne hv8 R3 rfl rfl (by omega) (by omega) (fun S9 R9 F9 => ?_)
          refine mIf h Iff.rfl (fun c53 h => ?_) (fun c53 h => ?_)
          · obtain ⟨rfl, rfl, rfl⟩ := mRA3 h
            exact k _ R9 (F3.tr F9)
          · obtain ⟨v14, L15, V15, hv14, h⟩ := mBA_some h
            have mv14 : mP L15 ≤ mP L9 := ML_settle hv14
            have qv14 : mP Ln1 ≤ mP L15 := by
              exact ihM.2.2.1 _ _ _ _ h
            refine ⟨(mP L9 - mP L15) / 16, mP L9 - mP L15, by omega, by omega, ?_⟩
            refine LL_settle hv14 R9 rfl (by omega) (by omega) (fun S15 R15 F15 => ?_)
            exact ih.2.2.1 _ _ _ _ _ _ _ R15 (F15.2.1 (F9.2.1 (F3.2.1 hW))) h (by omega) (by omega) (fun S1 R1 F1 => k S1 R1 (F3.tr (F9.tr (F15.tr F1))))
        · obtain ⟨rfl, rfl, rfl⟩ := mRA3 h
          exact k _ R3 F3
      · obtain ⟨v19, hv19, h⟩ := mBN_some h
        refine LL_drawn hv19 rfl rfl ?_
        obtain ⟨v24, hv24, h⟩ := mBN_some h
        refine LJ0_charAt_5068e hv24 rfl ?_
        obtain ⟨v29, L30, V30, hv29, h⟩ := mBA_some h
        have mv29 : mP L30 ≤ mP Ln := ML_limit hv29
        have qv29 : mP Ln1 ≤ mP L30 := by
          obtain ⟨_, _, _, z54, h⟩ := mBA_some h
          refine Nat.le_trans ?_ (ML_limit z54)
          obtain ⟨_, _, h⟩ := mBN_some h
          obtain ⟨_, _, h⟩ := mLt_some h
          obtain ⟨_, _, _, z55, h⟩ := mBA_some h
          refine Nat.le_trans ?_ (ML_limit z55)
          obtain ⟨_, _, _, z56, h⟩ := mBA_some h
          refine Nat.le_trans ?_ (ML_limit z56)
          obtain ⟨_, _, h⟩ := mBN_some h
          obtain ⟨_, _, _, z57, h⟩ := mBA_some h
          refine Nat.le_trans ?_ (ML_open z57)
          rcases mIf_some h with ⟨_, h⟩ | ⟨_, h⟩
          · obtain ⟨_, _, h⟩ := mBN_some h
            exact ihM.2.1 _ _ _ _ _ _ h
          · cases h
            exact Nat.le_refl _
        refine ⟨(mP Ln - mP L30) / 16, mP Ln - mP L30, by omega, by omega, ?_⟩
        refine LL_limit hv29 R rfl rfl (by omega) (by omega) (fun S30 R30 F30 => ?_)
        obtain ⟨v34, L35, V35, hv34, h⟩ := mBA_some h
        have mv34 : mP L35 ≤ mP L30 := ML_limit hv34
        have qv34 : mP Ln1 ≤ mP L35 := by
          obtain ⟨_, _, h⟩ := mBN_some h
          obtain ⟨_, _, h⟩ := mLt_some h
          obtain ⟨_, _, _, z58, h⟩ := mBA_some h
          refine Nat.le_trans ?_ (ML_limit z58)
          obtain ⟨_, _, _, z59, h⟩ := mBA_some h
          refine Nat.le_trans ?_ (ML_limit z59)
          obtain ⟨_, _, h⟩ := mBN_some h
          obtain ⟨_, _, _, z60, h⟩ := mBA_some h
          refine Nat.le_trans ?_ (ML_open z60)
          rcases mIf_some h with ⟨_, h⟩ | ⟨_, h⟩
          · obtain ⟨_, _, h⟩ := mBN_some h
            exact ihM.2.1 _ _ _ _ _ _ h
          · cases h
            exact Nat.le_refl _
        refine ⟨(mP L30 - mP L35) / 16, mP L30 - mP L35, by omega, by omega, ?_⟩
        refine LL_limit hv34 R30 rfl rfl (by omega) (by omega) (fun S35 R35 F35 => ?_)
        obtain ⟨v39, hv39, h⟩ := mBN_some h
        refine LL_drawn hv39 rfl rfl ?_
        refine mLet h rfl (fun x44 ex44 h => ?_)
        obtain ⟨v45, L46, V46, hv45, h⟩ := mBA_some h
        have mv45 : mP L46 ≤ mP L35 := ML_limit hv45
        have qv45 : mP Ln1 ≤ mP L46 := by
          obtain ⟨_, _, _, z61, h⟩ := mBA_some h
          refine Nat.le_trans ?_ (ML_limit z61)
          obtain ⟨_, _, h⟩ := mBN_some h
          obtain ⟨_, _, _, z62, h⟩ := mBA_some h
          refine Nat.le_trans ?_ (ML_open z62)
          rcases mIf_some h with ⟨_, h⟩ | ⟨_, h⟩
          · obtain ⟨_, _, h⟩ := mBN_some h
            exact ihM.2.1 _ _ _ _ _ _ h
          · cases h
            exact Nat.le_refl _
        refine ⟨(mP L35 - mP L46) / 16, mP L35 - mP L46, by omega, by omega, ?_⟩
        refine LL_limit hv45 R35 rfl rfl (by omega) (by omega) (fun S46 R46 F46 => ?_)
        obtain ⟨v50, L51, V51, hv50, h⟩ := mBA_some h
        have mv50 : mP L51 ≤ mP L46 := ML_limit hv50
        have qv50 : mP Ln1 ≤ mP L51 := by
          obtain ⟨_, _, h⟩ := mBN_some h
          obtain ⟨_, _, _, z63, h⟩ := mBA_some h
          refine Nat.le_trans ?_ (ML_open z63)
          rcases mIf_some h with ⟨_, h⟩ | ⟨_, h⟩
          · obtain ⟨_, _, h⟩ := mBN_some h
            exact ihM.2.1 _ _ _ _ _ _ h
          · cases h
            exact Nat.le_refl _
        refine ⟨(mP L46 - mP L51) / 16, mP L46 - mP L51, by omega, by omega, ?_⟩
        refine LL_limit hv50 R46 rfl rfl (by omega) (by omega) (fun S51 R51 F51 => ?_)
        obtain ⟨v55, hv55, h⟩ := mBN_some h
        refine LL_drawn hv55 rfl rfl ?_
        obtain ⟨v60, L61, V61, hv60, h⟩ := mBA_some h
        have mv60 : mP L61 ≤ mP L51 := ML_open hv60
        have qv60 : mP Ln1 ≤ mP L61 := by
          rcases mIf_some h with ⟨_, h⟩ | ⟨_, h⟩
          · obtain ⟨_, _, h⟩ := mBN_some h
            exact ihM.2.1 _ _ _ _ _ _ h
          · cases h
            exact Nat.le_refl _
        refine ⟨(mP L51 - mP L61) / 16, mP L51 - mP L61, by omega, by omega, ?_⟩
        refine LL_open hv60 R51 rfl rfl rfl rfl (by omega) (by omega) (fun S61 R61 F61 => ?_)
        refine mIf h Iff.rfl (fun c64 h => ?_) (fun c64 h => ?_)
        · obtain ⟨v66, hv66, h⟩ := mBN_some h
          refine LL_drawn hv66 rfl rfl ?_
          exact ih.2.1 _ _ _ _ _ _ _ _ _ R61 (F61.2.1 (F51.2.1 (F46.2.1 (F35.2.1 (F30.2.1 hW))))) h (by omega) (by omega) (fun S1 R1 F1 => k S1 R1 (F30.tr (F35.tr (F46.tr (F51.tr (F61.tr F1))))))
        · obtain ⟨rfl, rfl, rfl⟩ := mRA3 h
          exact k _ R61 (F30.tr (F35.tr (F46.tr (F51.tr F61))))
    · intro l2I l3I l6I l7I S V Ln c s R hW h hk hn k
      rw [mL_law_go, if_neg (by decide), if_pos rfl] at h
      rw [rL_law_go, if_neg (by decide), if_pos rfl]
      unfold mL_law_b1 at h
      unfold rL_law_b1
      refine mIf h Iff.rfl (fun c65 h => ?_) (fun c65 h => ?_)
      · refine mLet h rfl (fun x72 ex72 h => ?_)
        exact ih.1 _ _ _ _ _ _ _ R hW h (by omega) (by omega) (fun S1 R1 F1 => k S1 R1 F1)
      · obtain ⟨v73, L74, V74, hv73, h⟩ := mBA_some h
        have mv73 : mP L74 ≤ mP Ln := ML_writes hv73
        have qv73 : mP Ln1 ≤ mP L74 := by
          rcases mIf_some h with ⟨_, h⟩ | ⟨_, h⟩
          · cases h
            exact Nat.le_refl _
          · rcases mIf_some h with ⟨_, h⟩ | ⟨_, h⟩
            · obtain ⟨_, _, h⟩ := mLt_some h
              exact ihM.2.1 _ _ _ _ _ _ h
            · cases h
              exact Nat.le_refl _
        refine ⟨(mP Ln - mP L74) / 16, mP Ln - mP L74, by omega, by omega, ?_⟩
        refine LL_writes hv73 R rfl rfl rfl rfl (by omega) (by omega) (fun S74 R74 F74 => ?_)
        refine mIf h Iff.rfl (fun c66 h => ?_) (fun c66 h => ?_)
        · obtain ⟨rfl, rfl, rfl⟩ := mRA3 h
          exact k _ R74 F74
        · refine mIf h Iff.rfl (fun c67 h => ?_) (fun c67 h => ?_)
          · refine mLet h rfl (fun x80 ex80 h => ?_)
            exact ih.2.1 _ _ _ _ _ _ _ _ _ R74 (F74.2.1 hW) h (by omega) (by omega) (fun S1 R1 F1 => k S1 R1 (F74.tr F1))
          · obtain ⟨rfl, rfl, rfl⟩ := mRA3 h
            exact k _ R74 F74
    · intro l2I l3I S V Ln c s R hW h hk hn k
      rw [mL_law_go, if_neg (by decide), if_neg (by decide), if_pos rfl] at h
      rw [rL_law_go, if_neg (by decide), if_neg (by decide), if_pos rfl]
      unfold mL_law_b2 at h
      unfold rL_law_b2
      refine mIf h Iff.rfl (fun c68 h => ?_) (fun c68 h => ?_)
      · obtain ⟨v82, L83, V83, hv82, h⟩ := mBA_some h
        have mv82 : mP L83 ≤ mP Ln := ML_isAnew hv82
        have qv82 : mP Ln1 ≤ mP L83 := by
          rcases mIf_some h with ⟨_, h⟩ | ⟨_, h⟩
          · cases h
            exact Nat.le_refl _
          · obtain ⟨_, _, _, z69, h⟩ := mBA_some h
            refine Nat.le_trans ?_ (ML_settle z69)
            rcases mIf_some h with ⟨_, h⟩ | ⟨_, h⟩
            · cases h
              exact Nat.le_refl _
            · obtain ⟨_, _, _, z70, h⟩ := mBA_some h
              refine Nat.le_trans ?_ (ML_settle z70)
              rcases mIf_some h with ⟨_, h⟩ | ⟨_, h⟩
              · obtain ⟨_, _, _, z71, h⟩ := mBA_some h
                refine Nat.le_trans ?_ (ML_isSound z71)
                rcases mIf_some h with ⟨_, h⟩ | ⟨_, h⟩
                · exact ihM.2.2.2.2 _ _ _ _ h
                · cases h
                  exact Nat.le_refl _
              · cases h
                exact Nat.le_refl _
        refine ⟨(mP Ln - mP L83) / 16, mP Ln - mP L83, by omega, by omega, ?_⟩
        refine LL_isAnew hv82 R hW (by omega) (by omega) (fun S83 R83 F83 => ?_)
        refine mIf h Iff.rfl (fun c72 h => ?_) (fun c72 h => ?_)
        · obtain ⟨rfl, rfl, rfl⟩ := mRA3 h
          exact k _ R83 F83
        · obtain ⟨v88, L89, V89, hv88, h⟩ := mBA_some h
          have mv88 : mP L89 ≤ mP L83 := ML_settle hv88
          have qv88 : mP Ln1 ≤ mP L89 := by
            rcases mIf_some h with ⟨_, h⟩ | ⟨_, h⟩
            · cases h
              exact Nat.le_refl _
            · obtain ⟨_, _, _, z73, h⟩ := mBA_some h
              refine Nat.le_trans ?_ (ML_settle z73)
              rcases mIf_some h with ⟨_, h⟩ | ⟨_, h⟩
              · obtain ⟨_, _, _, z74, h⟩ := mBA_some h
                refine Nat.le_trans ?_ (ML_isSound z74)
                rcases mIf_some h with ⟨_, h⟩ | ⟨_, h⟩
                · exact ihM.2.2.2.2 _ _ _ _ h
                · cases h
                  exact Nat.le_refl _
              · cases h
                exact Nat.le_refl _
          refine ⟨(mP L83 - mP L89) / 16, mP L83 - mP L89, by omega, by omega, ?_⟩
          refine LL_settle hv88 R83 rfl (by omega) (by omega) (fun S89 R89 F89 => ?_)
          refine mIf h Iff.rfl (fun c75 h => ?_) (fun c75 h => ?_)
          · obtain ⟨rfl, rfl, rfl⟩ := mRA3 h
            exact k _ R89 (F83.tr F89)
          · obtain ⟨v94, L95, V95, hv94, h⟩ := mBA_some h
            have mv94 : mP L95 ≤ mP L89 := ML_settle hv94
            have qv94 : mP Ln1 ≤ mP L95 := by
              rcases mIf_some h with ⟨_, h⟩ | ⟨_, h⟩
              · obtain ⟨_, _, _, z76, h⟩ := mBA_some h
                refine Nat.le_trans ?_ (ML_isSound z76)
                rcases mIf_some h with ⟨_, h⟩ | ⟨_, h⟩
                · exact ihM.2.2.2.2 _ _ _ _ h
                · cases h
                  exact Nat.le_refl _
              · cases h
                exact Nat.le_refl _
            refine ⟨(mP L89 - mP L95) / 16, mP L89 - mP L95, by omega, by omega, ?_⟩
            refine LL_settle hv94 R89 rfl (by omega) (by omega) (fun S95 R95 F95 => ?_)
            refine mIf h Iff.rfl (fun c77 h => ?_) (fun c77 h => ?_)
            · obtain ⟨v100, L101, V101, hv100, h⟩ := mBA_some h
              have mv100 : mP L101 ≤ mP L95 := ML_isSound hv100
              have qv100 : mP Ln1 ≤ mP L101 := by
                rcases mIf_some h with ⟨_, h⟩ | ⟨_, h⟩
                · exact ihM.2.2.2.2 _ _ _ _ h
                · cases h
                  exact Nat.le_refl _
              refine ⟨(mP L95 - mP L101) / 16, mP L95 - mP L101, by omega, by omega, ?_⟩
              refine LL_isSound hv100 R95 rfl (by omega) (by omega) (fun S101 R101 F101 => ?_)
              refine mIf h Iff.rfl (fun c78 h => ?_) (fun c78 h => ?_)
              · exact ih.2.2.2.2 _ _ _ _ _ _ _ R101 (F101.2.1 (F95.2.1 (F89.2.1 (F83.2.1 hW)))) h (by omega) (by omega) (fun S1 R1 F1 => k S1 R1 (F83.tr (F89.tr (F95.tr (F101.tr F1)))))
              · obtain ⟨rfl, rfl, rfl⟩ := mRA3 h
                exact k _ R101 (F83.tr (F89.tr (F95.tr F101)))
            · obtain ⟨rfl, rfl, rfl⟩ := mRA3 h
              exact k _ R95 (F83.tr (F89.tr F95))
      · obtain ⟨v106, hv106, h⟩ := mBN_some h
        refine LL_drawn hv106 rfl rfl ?_
        refine mGd h Iff.rfl (fun c79 h => ?_)
        refine mLet h rfl (fun x112 ex112 h => ?_)
        obtain ⟨v113, L114, V114, hv113, h⟩ := mBA_some h
        have mv113 : mP L114 ≤ mP Ln := ML_checksum hv113
        have qv113 : mP Ln1 ≤ mP L114 := by
          rcases mIf_some h with ⟨_, h⟩ | ⟨_, h⟩
          · obtain ⟨_, _, _, z80, h⟩ := mBA_some h
            refine Nat.le_trans ?_ (ML_writes z80)
            exact ihM.2.2.2.1 _ _ _ _ _ _ _ _ h
          · rcases mIf_some h with ⟨_, h⟩ | ⟨_, h⟩
            · obtain ⟨_, _, _, z81, h⟩ := mBA_some h
              refine Nat.le_trans ?_ (ML_items z81)
              rcases mIf_some h with ⟨_, h⟩ | ⟨_, h⟩
              · exact ihM.2.2.2.1 _ _ _ _ _ _ _ _ h
              · obtain ⟨_, _, _, z82, h⟩ := mBA_some h
                refine Nat.le_trans ?_ (ML_items z82)
                obtain ⟨_, h⟩ := mGd_some h
                obtain ⟨_, _, _, z83, h⟩ := mBA_some h
                refine Nat.le_trans ?_ (ML_writes z83)
                exact ihM.2.2.2.1 _ _ _ _ _ _ _ _ h
            · rcases mIf_some h with ⟨_, h⟩ | ⟨_, h⟩
              · obtain ⟨_, _, _, z84, h⟩ := mBA_some h
                refine Nat.le_trans ?_ (ML_drop z84)
                exact ihM.2.2.2.1 _ _ _ _ _ _ _ _ h
              · rcases mIf_some h with ⟨_, h⟩ | ⟨_, h⟩
                · obtain ⟨_, _, _, z85, h⟩ := mBA_some h
                  refine Nat.le_trans ?_ (ML_kindOf z85)
                  obtain ⟨_, _, _, z86, h⟩ := mBA_some h
                  refine Nat.le_trans ?_ (ML_limit z86)
                  obtain ⟨_, _, _, z87, h⟩ := mBA_some h
                  refine Nat.le_trans ?_ (ML_kindOf z87)
                  obtain ⟨_, _, _, z88, h⟩ := mBA_some h
                  refine Nat.le_trans ?_ (ML_limit z88)
                  obtain ⟨_, h⟩ := mGd_some h
                  obtain ⟨_, _, _, z89, h⟩ := mBA_some h
                  refine Nat.le_trans ?_ (ML_setBound z89)
                  rcases mIf_some h with ⟨_, h⟩ | ⟨_, h⟩
                  · exact ihM.2.2.2.1 _ _ _ _ _ _ _ _ h
                  · exact ihM.2.2.2.1 _ _ _ _ _ _ _ _ h
                · rcases mIf_some h with ⟨_, h⟩ | ⟨_, h⟩
                  · obtain ⟨_, h⟩ := mGd_some h
                    obtain ⟨_, _, _, z90, h⟩ := mBA_some h
                    refine Nat.le_trans ?_ (ML_lean z90)
                    rcases mIf_some h with ⟨_, h⟩ | ⟨_, h⟩
                    · exact ihM.2.2.2.1 _ _ _ _ _ _ _ _ h
                    · exact ihM.2.2.2.1 _ _ _ _ _ _ _ _ h
                  · rcases mIf_some h with ⟨_, h⟩ | ⟨_, h⟩
                    · obtain ⟨_, _, _, z91, h⟩ := mBA_some h
                      refine Nat.le_trans ?_ (ML_stand z91)
                      rcases mIf_some h with ⟨_, h⟩ | ⟨_, h⟩
                      · exact ihM.2.2.2.1 _ _ _ _ _ _ _ _ h
                      · exact ihM.2.2.2.1 _ _ _ _ _ _ _ _ h
                    · rcases mIf_some h with ⟨_, h⟩ | ⟨_, h⟩
                      · obtain ⟨_, _, _, z92, h⟩ := mBA_some h
                        refine Nat.le_trans ?_ (ML_borrow z92)
                        rcases mIf_some h with ⟨_, h⟩ | ⟨_, h⟩
                        · exact ihM.2.2.2.1 _ _ _ _ _ _ _ _ h
                        · obtain ⟨_, _, _, z93, h⟩ := mBA_some h
                          refine Nat.le_trans ?_ (ML_answer z93)
                          rcases mIf_some h with ⟨_, h⟩ | ⟨_, h⟩
                          · obtain ⟨_, _, _, z94, h⟩ := mBA_some h
                            refine Nat.le_trans ?_ (ML_claim z94)
                            rcases mIf_some h with ⟨_, h⟩ | ⟨_, h⟩
                            · exact ihM.2.2.2.1 _ _ _ _ _ _ _ _ h
                            · cases h
                              exact Nat.le_refl _
                          · obtain ⟨_, _, _, z95, h⟩ := mBA_some h
                            refine Nat.le_trans ?_ (ML_claim z95)
                            rcases mIf_some h with ⟨_, h⟩ | ⟨_, h⟩
                            · exact ihM.2.2.2.1 _ _ _ _ _ _ _ _ h
                            · cases h
                              exact Nat.le_refl _
                      · obtain ⟨_, _, _, z96, h⟩ := mBA_some h
                        refine Nat.le_trans ?_ (ML_borrow z96)
                        rcases mIf_some h with ⟨_, h⟩ | ⟨_, h⟩
                        · exact ihM.2.2.2.1 _ _ _ _ _ _ _ _ h
                        · obtain ⟨_, _, _, z97, h⟩ := mBA_some h
                          refine Nat.le_trans ?_ (ML_answer z97)
                          rcases mIf_some h with ⟨_, h⟩ | ⟨_, h⟩
                          · obtain ⟨_, _, _, z98, h⟩ := mBA_some h
                            refine Nat.le_trans ?_ (ML_claim z98)
                            rcases mIf_some h with ⟨_, h⟩ | ⟨_, h⟩
                            · exact ihM.2.2.2.1 _ _ _ _ _ _ _ _ h
                            · cases h
                              exact Nat.le_refl _
                          · obtain ⟨_, _, _, z99, h⟩ := mBA_some h
                            refine Nat.le_trans ?_ (ML_claim z99)
                            rcases mIf_some h with ⟨_, h⟩ | ⟨_, h⟩
                            · exact ihM.2.2.2.1 _ _ _ _ _ _ _ _ h
                            · cases h
                              exact Nat.le_refl _
        refine ⟨(mP Ln - mP L114) / 16, mP Ln - mP L114, by omega, by omega, ?_⟩
        refine LL_checksum hv113 R rfl (by omega) (by omega) (fun S114 R114 F114 => ?_)
        refine mIf h Iff.rfl (fun c100 h => ?_) (fun c100 h => ?_)
        · obtain ⟨v120, L121, V121, hv120, h⟩ := mBA_some h
          have mv120 : mP L121 ≤ mP L114 := ML_writes hv120
          have qv120 : mP Ln1 ≤ mP L121 := by
            exact ihM.2.2.2.1 _ _ _ _ _ _ _ _ h
          refine ⟨(mP L114 - mP L121) / 16, mP L114 - mP L121, by omega, by omega, ?_⟩
          refine LL_writes hv120 R114 rfl rfl rfl rfl (by omega) (by omega) (fun S121 R121 F121 => ?_)
          exact ih.2.2.2.1 _ _ _ _ _ _ _ _ _ _ _ R121 (F121.2.1 (F114.2.1 hW)) h (by omega) (by omega) (fun S1 R1 F1 => k S1 R1 (F114.tr (F121.tr F1)))
        · refine mIf h Iff.rfl (fun c101 h => ?_) (fun c101 h => ?_)
          · obtain ⟨v126, L127, V127, hv126, h⟩ := mBA_some h
            have mv126 : mP L127 ≤ mP L114 := ML_items hv126
            have qv126 : mP Ln1 ≤ mP L127 := by
              rcases mIf_some h with ⟨_, h⟩ | ⟨_, h⟩
              · exact ihM.2.2.2.1 _ _ _ _ _ _ _ _ h
              · obtain ⟨_, _, _, z102, h⟩ := mBA_some h
                refine Nat.le_trans ?_ (ML_items z102)
                obtain ⟨_, h⟩ := mGd_some h
                obtain ⟨_, _, _, z103, h⟩ := mBA_some h
                refine Nat.le_trans ?_ (ML_writes z103)
                exact ihM.2.2.2.1 _ _ _ _ _ _ _ _ h
            refine ⟨(mP L114 - mP L127) / 16, mP L114 - mP L127, by omega, by omega, ?_⟩
            refine LL_items hv126 R114 rfl rfl (by omega) (by omega) (fun S127 R127 F127 => ?_)
            refine mIf h Iff.rfl (fun c104 h => ?_) (fun c104 h => ?_)
            · exact ih.2.2.2.1 _ _ _ _ _ _ _ _ _ _ _ R127 (F127.2.1 (F114.2.1 hW)) h (by omega) (by omega) (fun S1 R1 F1 => k S1 R1 (F114.tr (F127.tr F1)))
            · obtain ⟨v132, L133, V133, hv132, h⟩ := mBA_some h
              have mv132 : mP L133 ≤ mP L127 := ML_items hv132
              have qv132 : mP Ln1 ≤ mP L133 := by
                obtain ⟨_, h⟩ := mGd_some h
                obtain ⟨_, _, _, z105, h⟩ := mBA_some h
                refine Nat.le_trans ?_ (ML_writes z105)
                exact ihM.2.2.2.1 _ _ _ _ _ _ _ _ h
              refine ⟨(mP L127 - mP L133) / 16, mP L127 - mP L133, by omega, by omega, ?_⟩
              refine LL_items hv132 R127 rfl rfl (by omega) (by omega) (fun S133 R133 F133 => ?_)
              refine mGd h Iff.rfl (fun c106 h => ?_)
              obtain ⟨v138, L139, V139, hv138, h⟩ := mBA_some h
              have mv138 : mP L139 ≤ mP L133 := ML_writes hv138
              have qv138 : mP Ln1 ≤ mP L139 := by
                exact ihM.2.2.2.1 _ _ _ _ _ _ _ _ h
              refine ⟨(mP L133 - mP L139) / 16, mP L133 - mP L139, by omega, by omega, ?_⟩
              refine LL_writes hv138 R133 rfl rfl rfl rfl (by omega) (by omega) (fun S139 R139 F139 => ?_)
              exact ih.2.2.2.1 _ _ _ _ _ _ _ _ _ _ _ R139 (F139.2.1 (F133.2.1 (F127.2.1 (F114.2.1 hW)))) h (by omega) (by omega) (fun S1 R1 F1 => k S1 R1 (F114.tr (F127.tr (F133.tr (F139.tr F1)))))
          · refine mIf h Iff.rfl (fun c107 h => ?_) (fun c107 h => ?_)
            · obtain ⟨v144, L145, V145, hv144, h⟩ := mBA_some h
              have mv144 : mP L145 ≤ mP L114 := ML_drop hv144
              have qv144 : mP Ln1 ≤ mP L145 := by
                exact ihM.2.2.2.1 _ _ _ _ _ _ _ _ h
              refine ⟨(mP L114 - mP L145) / 16, mP L114 - mP L145, by omega, by omega, ?_⟩
              refine LL_drop hv144 R114 rfl rfl rfl (by omega) (by omega) (fun S145 R145 F145 => ?_)
              exact ih.2.2.2.1 _ _ _ _ _ _ _ _ _ _ _ R145 (F145.2.1 (F114.2.1 hW)) h (by omega) (by omega) (fun S1 R1 F1 => k S1 R1 (F114.tr (F145.tr F1)))
            · refine mIf h Iff.rfl (fun c108 h => ?_) (fun c108 h => ?_)
              · obtain ⟨v150, L151, V151, hv150, h⟩ := mBA_some h
                have mv150 : mP L151 ≤ mP L114 := ML_kindOf hv150
                have qv150 : mP Ln1 ≤ mP L151 := by
                  obtain ⟨_, _, _, z109, h⟩ := mBA_some h
                  refine Nat.le_trans ?_ (ML_limit z109)
                  obtain ⟨_, _, _, z110, h⟩ := mBA_some h
                  refine Nat.le_trans ?_ (ML_kindOf z110)
                  obtain ⟨_, _, _, z111, h⟩ := mBA_some h
                  refine Nat.le_trans ?_ (ML_limit z111)
                  obtain ⟨_, h⟩ := mGd_some h
                  obtain ⟨_, _, _, z112, h⟩ := mBA_some h
                  refine Nat.le_trans ?_ (ML_setBound z112)
                  rcases mIf_some h with ⟨_, h⟩ | ⟨_, h⟩
                  · exact ihM.2.2.2.1 _ _ _ _ _ _ _ _ h
                  · exact ihM.2.2.2.1 _ _ _ _ _ _ _ _ h
                refine ⟨(mP L114 - mP L151) / 16, mP L114 - mP L151, by omega, by omega, ?_⟩
                refine LL_kindOf hv150 R114 rfl rfl (by omega) (by omega) (fun S151 R151 F151 => ?_)
                obtain ⟨v155, L156, V156, hv155, h⟩ := mBA_some h
                have mv155 : mP L156 ≤ mP L151 := ML_limit hv155
                have qv155 : mP Ln1 ≤ mP L156 := by
                  obtain ⟨_, _, _, z113, h⟩ := mBA_some h
                  refine Nat.le_trans ?_ (ML_kindOf z113)
                  obtain ⟨_, _, _, z114, h⟩ := mBA_some h
                  refine Nat.le_trans ?_ (ML_limit z114)
                  obtain ⟨_, h⟩ := mGd_some h
                  obtain ⟨_, _, _, z115, h⟩ := mBA_some h
                  refine Nat.le_trans ?_ (ML_setBound z115)
                  rcases mIf_some h with ⟨_, h⟩ | ⟨_, h⟩
                  · exact ihM.2.2.2.1 _ _ _ _ _ _ _ _ h
                  · exact ihM.2.2.2.1 _ _ _ _ _ _ _ _ h
                refine ⟨(mP L151 - mP L156) / 16, mP L151 - mP L156, by omega, by omega, ?_⟩
                refine LL_limit hv155 R151 rfl rfl (by omega) (by omega) (fun S156 R156 F156 => ?_)
                obtain ⟨v160, L161, V161, hv160, h⟩ := mBA_some h
                have mv160 : mP L161 ≤ mP L156 := ML_kindOf hv160
                have qv160 : mP Ln1 ≤ mP L161 := by
                  obtain ⟨_, _, _, z116, h⟩ := mBA_some h
                  refine Nat.le_trans ?_ (ML_limit z116)
                  obtain ⟨_, h⟩ := mGd_some h
                  obtain ⟨_, _, _, z117, h⟩ := mBA_some h
                  refine Nat.le_trans ?_ (ML_setBound z117)
                  rcases mIf_some h with ⟨_, h⟩ | ⟨_, h⟩
                  · exact ihM.2.2.2.1 _ _ _ _ _ _ _ _ h
                  · exact ihM.2.2.2.1 _ _ _ _ _ _ _ _ h
                refine ⟨(mP L156 - mP L161) / 16, mP L156 - mP L161, by omega, by omega, ?_⟩
                refine LL_kindOf hv160 R156 rfl rfl (by omega) (by omega) (fun S161 R161 F161 => ?_)
                obtain ⟨v165, L166, V166, hv165, h⟩ := mBA_some h
                have mv165 : mP L166 ≤ mP L161 := ML_limit hv165
                have qv165 : mP Ln1 ≤ mP L166 := by
                  obtain ⟨_, h⟩ := mGd_some h
                  obtain ⟨_, _, _, z118, h⟩ := mBA_some h
                  refine Nat.le_trans ?_ (ML_setBound z118)
                  rcases mIf_some h with ⟨_, h⟩ | ⟨_, h⟩
                  · exact ihM.2.2.2.1 _ _ _ _ _ _ _ _ h
                  · exact ihM.2.2.2.1 _ _ _ _ _ _ _ _ h
                refine ⟨(mP L161 - mP L166) / 16, mP L161 - mP L166, by omega, by omega, ?_⟩
                refine LL_limit hv165 R161 rfl rfl (by omega) (by omega) (fun S166 R166 F166 => ?_)
                refine mGd h Iff.rfl (fun c119 h => ?_)
                obtain ⟨v171, L172, V172, hv171, h⟩ := mBA_some h
                have mv171 : mP L172 ≤ mP L166 := ML_setBound hv171
                have qv171 : mP Ln1 ≤ mP L172 := by
                  rcases mIf_some h with ⟨_, h⟩ | ⟨_, h⟩
                  · exact ihM.2.2.2.1 _ _ _ _ _ _ _ _ h
                  · exact ihM.2.2.2.1 _ _ _ _ _ _ _ _ h
                refine ⟨(mP L166 - mP L172) / 16, mP L166 - mP L172, by omega, by omega, ?_⟩
                refine LL_setBound hv171 R166 rfl rfl rfl (by omega) (by omega) (fun S172 R172 F172 => ?_)
                refine mIf h Iff.rfl (fun c120 h => ?_) (fun c120 h => ?_)
                · exact ih.2.2.2.1 _ _ _ _ _ _ _ _ _ _ _ R172 (F172.2.1 (F166.2.1 (F161.2.1 (F156.2.1 (F151.2.1 (F114.2.1 hW)))))) h (by omega) (by omega) (fun S1 R1 F1 => k S1 R1 (F114.tr (F151.tr (F156.tr (F161.tr (F166.tr (F172.tr F1)))))))
                · exact ih.2.2.2.1 _ _ _ _ _ _ _ _ _ _ _ R172 (F172.2.1 (F166.2.1 (F161.2.1 (F156.2.1 (F151.2.1 (F114.2.1 hW)))))) h (by omega) (by omega) (fun S1 R1 F1 => k S1 R1 (F114.tr (F151.tr (F156.tr (F161.tr (F166.tr (F172.tr F1)))))))
              · refine mIf h Iff.rfl (fun c121 h => ?_) (fun c121 h => ?_)
                · refine mGd h Iff.rfl (fun c122 h => ?_)
                  obtain ⟨v179, L180, V180, hv179, h⟩ := mBA_some h
                  have mv179 : mP L180 ≤ mP L114 := ML_lean hv179
                  have qv179 : mP Ln1 ≤ mP L180 := by
                    rcases mIf_some h with ⟨_, h⟩ | ⟨_, h⟩
                    · exact ihM.2.2.2.1 _ _ _ _ _ _ _ _ h
                    · exact ihM.2.2.2.1 _ _ _ _ _ _ _ _ h
                  refine ⟨(mP L114 - mP L180) / 16, mP L114 - mP L180, by omega, by omega, ?_⟩
                  refine LL_lean hv179 R114 rfl rfl rfl rfl (by omega) (by omega) (fun S180 R180 F180 => ?_)
                  refine mIf h Iff.rfl (fun c123 h => ?_) (fun c123 h => ?_)
                  · exact ih.2.2.2.1 _ _ _ _ _ _ _ _ _ _ _ R180 (F180.2.1 (F114.2.1 hW)) h (by omega) (by omega) (fun S1 R1 F1 => k S1 R1 (F114.tr (F180.tr F1)))
                  · exact ih.2.2.2.1 _ _ _ _ _ _ _ _ _ _ _ R180 (F180.2.1 (F114.2.1 hW)) h (by omega) (by omega) (fun S1 R1 F1 => k S1 R1 (F114.tr (F180.tr F1)))
                · refine mIf h Iff.rfl (fun c124 h => ?_) (fun c124 h => ?_)
                  · obtain ⟨v186, L187, V187, hv186, h⟩ := mBA_some h
                    have mv186 : mP L187 ≤ mP L114 := ML_stand hv186
                    have qv186 : mP Ln1 ≤ mP L187 := by
                      rcases mIf_some h with ⟨_, h⟩ | ⟨_, h⟩
                      · exact ihM.2.2.2.1 _ _ _ _ _ _ _ _ h
                      · exact ihM.2.2.2.1 _ _ _ _ _ _ _ _ h
                    refine ⟨(mP L114 - mP L187) / 16, mP L114 - mP L187, by omega, by omega, ?_⟩
                    refine LL_stand hv186 R114 rfl rfl (by omega) (by omega) (fun S187 R187 F187 => ?_)
                    refine mIf h Iff.rfl (fun c125 h => ?_) (fun c125 h => ?_)
                    · exact ih.2.2.2.1 _ _ _ _ _ _ _ _ _ _ _ R187 (F187.2.1 (F114.2.1 hW)) h (by omega) (by omega) (fun S1 R1 F1 => k S1 R1 (F114.tr (F187.tr F1)))
                    · exact ih.2.2.2.1 _ _ _ _ _ _ _ _ _ _ _ R187 (F187.2.1 (F114.2.1 hW)) h (by omega) (by omega) (fun S1 R1 F1 => k S1 R1 (F114.tr (F187.tr F1)))
                  · refine mIf h Iff.rfl (fun c126 h => ?_) (fun c126 h => ?_)
                    · obtain ⟨v193, L194, V194, hv193, h⟩ := mBA_some h
                      have mv193 : mP L194 ≤ mP L114 := ML_borrow hv193
                      have qv193 : mP Ln1 ≤ mP L194 := by
                        rcases mIf_some h with ⟨_, h⟩ | ⟨_, h⟩
                        · exact ihM.2.2.2.1 _ _ _ _ _ _ _ _ h
                        · obtain ⟨_, _, _, z127, h⟩ := mBA_some h
                          refine Nat.le_trans ?_ (ML_answer z127)
                          rcases mIf_some h with ⟨_, h⟩ | ⟨_, h⟩
                          · obtain ⟨_, _, _, z128, h⟩ := mBA_some h
                            refine Nat.le_trans ?_ (ML_claim z128)
                            rcases mIf_some h with ⟨_, h⟩ | ⟨_, h⟩
                            · exact ihM.2.2.2.1 _ _ _ _ _ _ _ _ h
                            · cases h
                              exact Nat.le_refl _
                          · obtain ⟨_, _, _, z129, h⟩ := mBA_some h
                            refine Nat.le_trans ?_ (ML_claim z129)
                            rcases mIf_some h with ⟨_, h⟩ | ⟨_, h⟩
                            · exact ihM.2.2.2.1 _ _ _ _ _ _ _ _ h
                            · cases h
                              exact Nat.le_refl _
                      refine ⟨(mP L114 - mP L194) / 16, mP L114 - mP L194, by omega, by omega, ?_⟩
                      refine LL_borrow hv193 R114 rfl rfl (by omega) (by omega) (fun S194 R194 F194 => ?_)
                      refine mIf h Iff.rfl (fun c130 h => ?_) (fun c130 h => ?_)
                      · exact ih.2.2.2.1 _ _ _ _ _ _ _ _ _ _ _ R194 (F194.2.1 (F114.2.1 hW)) h (by omega) (by omega) (fun S1 R1 F1 => k S1 R1 (F114.tr (F194.tr F1)))
                      · obtain ⟨v199, L200, V200, hv199, h⟩ := mBA_some h
                        have mv199 : mP L200 ≤ mP L194 := ML_answer hv199
                        have qv199 : mP Ln1 ≤ mP L200 := by
                          rcases mIf_some h with ⟨_, h⟩ | ⟨_, h⟩
                          · obtain ⟨_, _, _, z131, h⟩ := mBA_some h
                            refine Nat.le_trans ?_ (ML_claim z131)
                            rcases mIf_some h with ⟨_, h⟩ | ⟨_, h⟩
                            · exact ihM.2.2.2.1 _ _ _ _ _ _ _ _ h
                            · cases h
                              exact Nat.le_refl _
                          · obtain ⟨_, _, _, z132, h⟩ := mBA_some h
                            refine Nat.le_trans ?_ (ML_claim z132)
                            rcases mIf_some h with ⟨_, h⟩ | ⟨_, h⟩
                            · exact ihM.2.2.2.1 _ _ _ _ _ _ _ _ h
                            · cases h
                              exact Nat.le_refl _
                        refine ⟨(mP L194 - mP L200) / 16, mP L194 - mP L200, by omega, by omega, ?_⟩
                        refine LL_answer hv199 R194 rfl rfl (by omega) (by omega) (fun S200 R200 F200 => ?_)
                        refine mIf h Iff.rfl (fun c133 h => ?_) (fun c133 h => ?_)
                        · obtain ⟨v211, L212, V212, hv211, h⟩ := mBA_some h
                          have mv211 : mP L212 ≤ mP L200 := ML_claim hv211
                          have qv211 : mP Ln1 ≤ mP L212 := by
                            rcases mIf_some h with ⟨_, h⟩ | ⟨_, h⟩
                            · exact ihM.2.2.2.1 _ _ _ _ _ _ _ _ h
                            · cases h
                              exact Nat.le_refl _
                          refine ⟨(mP L200 - mP L212) / 16, mP L200 - mP L212, by omega, by omega, ?_⟩
                          refine LL_claim hv211 R200 rfl rfl rfl rfl (by omega) (by omega) (fun S212 R212 F212 => ?_)
                          refine mIf h Iff.rfl (fun c134 h => ?_) (fun c134 h => ?_)
                          · exact ih.2.2.2.1 _ _ _ _ _ _ _ _ _ _ _ R212 (F212.2.1 (F200.2.1 (F194.2.1 (F114.2.1 hW)))) h (by omega) (by omega) (fun S1 R1 F1 => k S1 R1 (F114.tr (F194.tr (F200.tr (F212.tr F1)))))
                          · obtain ⟨rfl, rfl, rfl⟩ := mRA3 h
                            exact k _ R212 (F114.tr (F194.tr (F200.tr F212)))
                        · obtain ⟨v205, L206, V206, hv205, h⟩ := mBA_some h
                          have mv205 : mP L206 ≤ mP L200 := ML_claim hv205
                          have qv205 : mP Ln1 ≤ mP L206 := by
                            rcases mIf_some h with ⟨_, h⟩ | ⟨_, h⟩
                            · exact ihM.2.2.2.1 _ _ _ _ _ _ _ _ h
                            · cases h
                              exact Nat.le_refl _
                          refine ⟨(mP L200 - mP L206) / 16, mP L200 - mP L206, by omega, by omega, ?_⟩
                          refine LL_claim hv205 R200 rfl rfl rfl rfl (by omega) (by omega) (fun S206 R206 F206 => ?_)
                          refine mIf h Iff.rfl (fun c135 h => ?_) (fun c135 h => ?_)
                          · exact ih.2.2.2.1 _ _ _ _ _ _ _ _ _ _ _ R206 (F206.2.1 (F200.2.1 (F194.2.1 (F114.2.1 hW)))) h (by omega) (by omega) (fun S1 R1 F1 => k S1 R1 (F114.tr (F194.tr (F200.tr (F206.tr F1)))))
                          · obtain ⟨rfl, rfl, rfl⟩ := mRA3 h
                            exact k _ R206 (F114.tr (F194.tr (F200.tr F206)))
                    · obtain ⟨v217, L218, V218, hv217, h⟩ := mBA_some h
                      have mv217 : mP L218 ≤ mP L114 := ML_borrow hv217
                      have qv217 : mP Ln1 ≤ mP L218 := by
                        rcases mIf_some h with ⟨_, h⟩ | ⟨_, h⟩
                        · exact ihM.2.2.2.1 _ _ _ _ _ _ _ _ h
                        · obtain ⟨_, _, _, z136, h⟩ := mBA_some h
                          refine Nat.le_trans ?_ (ML_answer z136)
                          rcases mIf_some h with ⟨_, h⟩ | ⟨_, h⟩
                          · obtain ⟨_, _, _, z137, h⟩ := mBA_some h
                            refine Nat.le_trans ?_ (ML_claim z137)
                            rcases mIf_some h with ⟨_, h⟩ | ⟨_, h⟩
                            · exact ihM.2.2.2.1 _ _ _ _ _ _ _ _ h
                            · cases h
                              exact Nat.le_refl _
                          · obtain ⟨_, _, _, z138, h⟩ := mBA_some h
                            refine Nat.le_trans ?_ (ML_claim z138)
                            rcases mIf_some h with ⟨_, h⟩ | ⟨_, h⟩
                            · exact ihM.2.2.2.1 _ _ _ _ _ _ _ _ h
                            · cases h
                              exact Nat.le_refl _
                      refine ⟨(mP L114 - mP L218) / 16, mP L114 - mP L218, by omega, by omega, ?_⟩
                      refine LL_borrow hv217 R114 rfl rfl (by omega) (by omega) (fun S218 R218 F218 => ?_)
                      refine mIf h Iff.rfl (fun c139 h => ?_) (fun c139 h => ?_)
                      · exact ih.2.2.2.1 _ _ _ _ _ _ _ _ _ _ _ R218 (F218.2.1 (F114.2.1 hW)) h (by omega) (by omega) (fun S1 R1 F1 => k S1 R1 (F114.tr (F218.tr F1)))
                      · obtain ⟨v223, L224, V224, hv223, h⟩ := mBA_some h
                        have mv223 : mP L224 ≤ mP L218 := ML_answer hv223
                        have qv223 : mP Ln1 ≤ mP L224 := by
                          rcases mIf_some h with ⟨_, h⟩ | ⟨_, h⟩
                          · obtain ⟨_, _, _, z140, h⟩ := mBA_some h
                            refine Nat.le_trans ?_ (ML_claim z140)
                            rcases mIf_some h with ⟨_, h⟩ | ⟨_, h⟩
                            · exact ihM.2.2.2.1 _ _ _ _ _ _ _ _ h
                            · cases h
                              exact Nat.le_refl _
                          · obtain ⟨_, _, _, z141, h⟩ := mBA_some h
                            refine Nat.le_trans ?_ (ML_claim z141)
                            rcases mIf_some h with ⟨_, h⟩ | ⟨_, h⟩
                            · exact ihM.2.2.2.1 _ _ _ _ _ _ _ _ h
                            · cases h
                              exact Nat.le_refl _
                        refine ⟨(mP L218 - mP L224) / 16, mP L218 - mP L224, by omega, by omega, ?_⟩
                        refine LL_answer hv223 R218 rfl rfl (by omega) (by omega) (fun S224 R224 F224 => ?_)
                        refine mIf h Iff.rfl (fun c142 h => ?_) (fun c142 h => ?_)
                        · obtain ⟨v235, L236, V236, hv235, h⟩ := mBA_some h
                          have mv235 : mP L236 ≤ mP L224 := ML_claim hv235
                          have qv235 : mP Ln1 ≤ mP L236 := by
                            rcases mIf_some h with ⟨_, h⟩ | ⟨_, h⟩
                            · exact ihM.2.2.2.1 _ _ _ _ _ _ _ _ h
                            · cases h
                              exact Nat.le_refl _
                          refine ⟨(mP L224 - mP L236) / 16, mP L224 - mP L236, by omega, by omega, ?_⟩
                          refine LL_claim hv235 R224 rfl rfl rfl rfl (by omega) (by omega) (fun S236 R236 F236 => ?_)
                          refine mIf h Iff.rfl (fun c143 h => ?_) (fun c143 h => ?_)
                          · exact ih.2.2.2.1 _ _ _ _ _ _ _ _ _ _ _ R236 (F236.2.1 (F224.2.1 (F218.2.1 (F114.2.1 hW)))) h (by omega) (by omega) (fun S1 R1 F1 => k S1 R1 (F114.tr (F218.tr (F224.tr (F236.tr F1)))))
                          · obtain ⟨rfl, rfl, rfl⟩ := mRA3 h
                            exact k _ R236 (F114.tr (F218.tr (F224.tr F236)))
                        · obtain ⟨v229, L230, V230, hv229, h⟩ := mBA_some h
                          have mv229 : mP L230 ≤ mP L224 := ML_claim hv229
                          have qv229 : mP Ln1 ≤ mP L230 := by
                            rcases mIf_some h with ⟨_, h⟩ | ⟨_, h⟩
                            · exact ihM.2.2.2.1 _ _ _ _ _ _ _ _ h
                            · cases h
                              exact Nat.le_refl _
                          refine ⟨(mP L224 - mP L230) / 16, mP L224 - mP L230, by omega, by omega, ?_⟩
                          refine LL_claim hv229 R224 rfl rfl rfl rfl (by omega) (by omega) (fun S230 R230 F230 => ?_)
                          refine mIf h Iff.rfl (fun c144 h => ?_) (fun c144 h => ?_)
                          · exact ih.2.2.2.1 _ _ _ _ _ _ _ _ _ _ _ R230 (F230.2.1 (F224.2.1 (F218.2.1 (F114.2.1 hW)))) h (by omega) (by omega) (fun S1 R1 F1 => k S1 R1 (F114.tr (F218.tr (F224.tr (F230.tr F1)))))
                          · obtain ⟨rfl, rfl, rfl⟩ := mRA3 h
                            exact k _ R230 (F114.tr (F218.tr (F224.tr F230)))
    · intro l2I l3I l4I l5I l6J l8J S V Ln c s R hW h hk hn k
      rw [mL_law_go, if_neg (by decide), if_neg (by decide), if_neg (by decide), if_pos rfl] at h
      rw [rL_law_go, if_neg (by decide), if_neg (by decide), if_neg (by decide), if_pos rfl]
      unfold mL_law_b3 at h
      unfold rL_law_b3
      refine mIf h Iff.rfl (fun c145 h => ?_) (fun c145 h => ?_)
      · refine mIf h Iff.rfl (fun c146 h => ?_) (fun c146 h => ?_)
        · obtain ⟨v250, L251, V251, hv250, h⟩ := mBA_some h
          have mv250 : mP L251 ≤ mP Ln := ML_isOne hv250
          have qv250 : mP Ln1 ≤ mP L251 := by
            rcases mIf_some h with ⟨_, h⟩ | ⟨_, h⟩
            · cases h
              exact Nat.le_refl _
            · obtain ⟨_, _, h⟩ := mLt_some h
              exact ihM.2.2.1 _ _ _ _ h
          refine ⟨(mP Ln - mP L251) / 16, mP Ln - mP L251, by omega, by omega, ?_⟩
          refine LL_isOne hv250 R rfl rfl rfl (by omega) (by omega) (fun S251 R251 F251 => ?_)
          refine mIf h Iff.rfl (fun c147 h => ?_) (fun c147 h => ?_)
          · obtain ⟨rfl, rfl, rfl⟩ := mRA3 h
            exact k _ R251 F251
          · refine mLet h rfl (fun x256 ex256 h => ?_)
            exact ih.2.2.1 _ _ _ _ _ _ _ R251 (F251.2.1 hW) h (by omega) (by omega) (fun S1 R1 F1 => k S1 R1 (F251.tr F1))
        · obtain ⟨v257, L258, V258, hv257, h⟩ := mBA_some h
          have mv257 : mP L258 ≤ mP Ln := ML_undo hv257
          have qv257 : mP Ln1 ≤ mP L258 := by
            rcases mIf_some h with ⟨_, h⟩ | ⟨_, h⟩
            · cases h
              exact Nat.le_refl _
            · obtain ⟨_, _, _, z148, h⟩ := mBA_some h
              refine Nat.le_trans ?_ (ML_checksum z148)
              rcases mIf_some h with ⟨_, h⟩ | ⟨_, h⟩
              · obtain ⟨_, _, _, z149, h⟩ := mBA_some h
                refine Nat.le_trans ?_ (ML_isOne z149)
                rcases mIf_some h with ⟨_, h⟩ | ⟨_, h⟩
                · cases h
                  exact Nat.le_refl _
                · obtain ⟨_, _, h⟩ := mLt_some h
                  exact ihM.2.2.1 _ _ _ _ h
              · cases h
                exact Nat.le_refl _
          refine ⟨(mP Ln - mP L258) / 16, mP Ln - mP L258, by omega, by omega, ?_⟩
          refine LL_undo hv257 R rfl (by omega) (by omega) (fun S258 R258 F258 => ?_)
          refine mIf h Iff.rfl (fun c150 h => ?_) (fun c150 h => ?_)
          · obtain ⟨rfl, rfl, rfl⟩ := mRA3 h
            exact k _ R258 F258
          · obtain ⟨v263, L264, V264, hv263, h⟩ := mBA_some h
            have mv263 : mP L264 ≤ mP L258 := ML_checksum hv263
            have qv263 : mP Ln1 ≤ mP L264 := by
              rcases mIf_some h with ⟨_, h⟩ | ⟨_, h⟩
              · obtain ⟨_, _, _, z151, h⟩ := mBA_some h
                refine Nat.le_trans ?_ (ML_isOne z151)
                rcases mIf_some h with ⟨_, h⟩ | ⟨_, h⟩
                · cases h
                  exact Nat.le_refl _
                · obtain ⟨_, _, h⟩ := mLt_some h
                  exact ihM.2.2.1 _ _ _ _ h
              · cases h
                exact Nat.le_refl _
            refine ⟨(mP L258 - mP L264) / 16, mP L258 - mP L264, by omega, by omega, ?_⟩
            refine LL_checksum hv263 R258 rfl (by omega) (by omega) (fun S264 R264 F264 => ?_)
            refine mIf h Iff.rfl (fun c152 h => ?_) (fun c152 h => ?_)
            · obtain ⟨v269, L270, V270, hv269, h⟩ := mBA_some h
              have mv269 : mP L270 ≤ mP L264 := ML_isOne hv269
              have qv269 : mP Ln1 ≤ mP L270 := by
                rcases mIf_some h with ⟨_, h⟩ | ⟨_, h⟩
                · cases h
                  exact Nat.le_refl _
                · obtain ⟨_, _, h⟩ := mLt_some h
                  exact ihM.2.2.1 _ _ _ _ h
              refine ⟨(mP L264 - mP L270) / 16, mP L264 - mP L270, by omega, by omega, ?_⟩
              refine LL_isOne hv269 R264 rfl rfl rfl (by omega) (by omega) (fun S270 R270 F270 => ?_)
              refine mIf h Iff.rfl (fun c153 h => ?_) (fun c153 h => ?_)
              · obtain ⟨rfl, rfl, rfl⟩ := mRA3 h
                exact k _ R270 (F258.tr (F264.tr F270))
              · refine mLet h rfl (fun x275 ex275 h => ?_)
                exact ih.2.2.1 _ _ _ _ _ _ _ R270 (F270.2.1 (F264.2.1 (F258.2.1 hW))) h (by omega) (by omega) (fun S1 R1 F1 => k S1 R1 (F258.tr (F264.tr (F270.tr F1))))
            · obtain ⟨rfl, rfl, rfl⟩ := mRA3 h
              exact k _ R264 (F258.tr F264)
      · obtain ⟨v242, L243, V243, hv242, h⟩ := mBA_some h
        have mv242 : mP L243 ≤ mP Ln := ML_isOne hv242
        have qv242 : mP Ln1 ≤ mP L243 := by
          rcases mIf_some h with ⟨_, h⟩ | ⟨_, h⟩
          · cases h
            exact Nat.le_refl _
          · obtain ⟨_, _, h⟩ := mLt_some h
            exact ihM.2.2.1 _ _ _ _ h
        refine ⟨(mP Ln - mP L243) / 16, mP Ln - mP L243, by omega, by omega, ?_⟩
        refine LL_isOne hv242 R rfl rfl rfl (by omega) (by omega) (fun S243 R243 F243 => ?_)
        refine mIf h Iff.rfl (fun c154 h => ?_) (fun c154 h => ?_)
        · obtain ⟨rfl, rfl, rfl⟩ := mRA3 h
          exact k _ R243 F243
        · refine mLet h rfl (fun x248 ex248 h => ?_)
          exact ih.2.2.1 _ _ _ _ _ _ _ R243 (F243.2.1 hW) h (by omega) (by omega) (fun S1 R1 F1 => k S1 R1 (F243.tr F1))
    · intro l2I l3I S V Ln c s R hW h hk hn k
      rw [mL_law_go, if_neg (by decide), if_neg (by decide), if_neg (by decide), if_neg (by decide), if_pos rfl] at h
      rw [rL_law_go, if_neg (by decide), if_neg (by decide), if_neg (by decide), if_neg (by decide), if_pos rfl]
      unfold mL_law_b4 at h
      unfold rL_law_b4
      refine mIf h Iff.rfl (fun c155 h => ?_) (fun c155 h => ?_)
      · obtain ⟨v277, L278, V278, hv277, h⟩ := mBA_some h
        have mv277 : mP L278 ≤ mP Ln := ML_areOne hv277
        have qv277 : mP Ln1 ≤ mP L278 := by
          rcases mIf_some h with ⟨_, h⟩ | ⟨_, h⟩
          · cases h
            exact Nat.le_refl _
          · obtain ⟨_, _, _, z156, h⟩ := mBA_some h
            refine Nat.le_trans ?_ (ML_isAnew z156)
            rcases mIf_some h with ⟨_, h⟩ | ⟨_, h⟩
            · cases h
              exact Nat.le_refl _
            · obtain ⟨_, _, _, z157, h⟩ := mBA_some h
              refine Nat.le_trans ?_ (ML_isSound z157)
              rcases mIf_some h with ⟨_, h⟩ | ⟨_, h⟩
              · cases h
                exact Nat.le_refl _
              · cases h
                exact Nat.le_refl _
        refine ⟨(mP Ln - mP L278) / 16, mP Ln - mP L278, by omega, by omega, ?_⟩
        refine LL_areOne hv277 R rfl rfl (by omega) (by omega) (fun S278 R278 F278 => ?_)
        refine mIf h Iff.rfl (fun c158 h => ?_) (fun c158 h => ?_)
        · obtain ⟨rfl, rfl, rfl⟩ := mRA3 h
          exact k _ R278 F278
        · obtain ⟨v283, L284, V284, hv283, h⟩ := mBA_some h
          have mv283 : mP L284 ≤ mP L278 := ML_isAnew hv283
          have qv283 : mP Ln1 ≤ mP L284 := by
            rcases mIf_some h with ⟨_, h⟩ | ⟨_, h⟩
            · cases h
              exact Nat.le_refl _
            · obtain ⟨_, _, _, z159, h⟩ := mBA_some h
              refine Nat.le_trans ?_ (ML_isSound z159)
              rcases mIf_some h with ⟨_, h⟩ | ⟨_, h⟩
              · cases h
                exact Nat.le_refl _
              · cases h
                exact Nat.le_refl _
          refine ⟨(mP L278 - mP L284) / 16, mP L278 - mP L284, by omega, by omega, ?_⟩
          refine LL_isAnew hv283 R278 (F278.2.1 hW) (by omega) (by omega) (fun S284 R284 F284 => ?_)
          refine mIf h Iff.rfl (fun c160 h => ?_) (fun c160 h => ?_)
          · obtain ⟨rfl, rfl, rfl⟩ := mRA3 h
            exact k _ R284 (F278.tr F284)
          · obtain ⟨v289, L290, V290, hv289, h⟩ := mBA_some h
            have mv289 : mP L290 ≤ mP L284 := ML_isSound hv289
            have qv289 : mP Ln1 ≤ mP L290 := by
              rcases mIf_some h with ⟨_, h⟩ | ⟨_, h⟩
              · cases h
                exact Nat.le_refl _
              · cases h
                exact Nat.le_refl _
            refine ⟨(mP L284 - mP L290) / 16, mP L284 - mP L290, by omega, by omega, ?_⟩
            refine LL_isSound hv289 R284 rfl (by omega) (by omega) (fun S290 R290 F290 => ?_)
            refine mIf h Iff.rfl (fun c161 h => ?_) (fun c161 h => ?_)
            · obtain ⟨rfl, rfl, rfl⟩ := mRA3 h
              exact k _ R290 (F278.tr (F284.tr F290))
            · obtain ⟨rfl, rfl, rfl⟩ := mRA3 h
              exact k _ R290 (F278.tr (F284.tr F290))
      · obtain ⟨v295, L296, V296, hv295, h⟩ := mBA_some h
        have mv295 : mP L296 ≤ mP Ln := ML_kindOf hv295
        have qv295 : mP Ln1 ≤ mP L296 := by
          rcases mIf_some h with ⟨_, h⟩ | ⟨_, h⟩
          · obtain ⟨_, _, _, z162, h⟩ := mBA_some h
            refine Nat.le_trans ?_ (ML_isCarried z162)
            rcases mIf_some h with ⟨_, h⟩ | ⟨_, h⟩
            · cases h
              exact Nat.le_refl _
            · obtain ⟨_, _, _, z163, h⟩ := mBA_some h
              refine Nat.le_trans ?_ (ML_isCarried z163)
              rcases mIf_some h with ⟨_, h⟩ | ⟨_, h⟩
              · cases h
                exact Nat.le_refl _
              · obtain ⟨_, _, h⟩ := mLt_some h
                exact ihM.2.2.2.2 _ _ _ _ h
          · obtain ⟨_, _, _, z164, h⟩ := mBA_some h
            refine Nat.le_trans ?_ (ML_isCarried z164)
            rcases mIf_some h with ⟨_, h⟩ | ⟨_, h⟩
            · cases h
              exact Nat.le_refl _
            · obtain ⟨_, _, _, z165, h⟩ := mBA_some h
              refine Nat.le_trans ?_ (ML_isCarried z165)
              rcases mIf_some h with ⟨_, h⟩ | ⟨_, h⟩
              · cases h
                exact Nat.le_refl _
              · obtain ⟨_, _, h⟩ := mLt_some h
                exact ihM.2.2.2.2 _ _ _ _ h
        refine ⟨(mP Ln - mP L296) / 16, mP Ln - mP L296, by omega, by omega, ?_⟩
        refine LL_kindOf hv295 R rfl rfl (by omega) (by omega) (fun S296 R296 F296 => ?_)
        refine mIf h Iff.rfl (fun c166 h => ?_) (fun c166 h => ?_)
        · obtain ⟨v314, L315, V315, hv314, h⟩ := mBA_some h
          have mv314 : mP L315 ≤ mP L296 := ML_isCarried hv314
          have qv314 : mP Ln1 ≤ mP L315 := by
            rcases mIf_some h with ⟨_, h⟩ | ⟨_, h⟩
            · cases h
              exact Nat.le_refl _
            · obtain ⟨_, _, _, z167, h⟩ := mBA_some h
              refine Nat.le_trans ?_ (ML_isCarried z167)
              rcases mIf_some h with ⟨_, h⟩ | ⟨_, h⟩
              · cases h
                exact Nat.le_refl _
              · obtain ⟨_, _, h⟩ := mLt_some h
                exact ihM.2.2.2.2 _ _ _ _ h
          refine ⟨(mP L296 - mP L315) / 16, mP L296 - mP L315, by omega, by omega, ?_⟩
          refine LL_isCarried hv314 R296 rfl rfl rfl (by omega) (by omega) (fun S315 R315 F315 => ?_)
          refine mIf h Iff.rfl (fun c168 h => ?_) (fun c168 h => ?_)
          · obtain ⟨rfl, rfl, rfl⟩ := mRA3 h
            exact k _ R315 (F296.tr F315)
          · obtain ⟨v320, L321, V321, hv320, h⟩ := mBA_some h
            have mv320 : mP L321 ≤ mP L315 := ML_isCarried hv320
            have qv320 : mP Ln1 ≤ mP L321 := by
              rcases mIf_some h with ⟨_, h⟩ | ⟨_, h⟩
              · cases h
                exact Nat.le_refl _
              · obtain ⟨_, _, h⟩ := mLt_some h
                exact ihM.2.2.2.2 _ _ _ _ h
            refine ⟨(mP L315 - mP L321) / 16, mP L315 - mP L321, by omega, by omega, ?_⟩
            refine LL_isCarried hv320 R315 rfl rfl rfl (by omega) (by omega) (fun S321 R321 F321 => ?_)
            refine mIf h Iff.rfl (fun c169 h => ?_) (fun c169 h => ?_)
            · obtain ⟨rfl, rfl, rfl⟩ := mRA3 h
              exact k _ R321 (F296.tr (F315.tr F321))
            · refine mLet h rfl (fun x326 ex326 h => ?_)
              exact ih.2.2.2.2 _ _ _ _ _ _ _ R321 (F321.2.1 (F315.2.1 (F296.2.1 hW))) h (by omega) (by omega) (fun S1 R1 F1 => k S1 R1 (F296.tr (F315.tr (F321.tr F1))))
        · obtain ⟨v301, L302, V302, hv301, h⟩ := mBA_some h
          have mv301 : mP L302 ≤ mP L296 := ML_isCarried hv301
          have qv301 : mP Ln1 ≤ mP L302 := by
            rcases mIf_some h with ⟨_, h⟩ | ⟨_, h⟩
            · cases h
              exact Nat.le_refl _
            · obtain ⟨_, _, _, z170, h⟩ := mBA_some h
              refine Nat.le_trans ?_ (ML_isCarried z170)
              rcases mIf_some h with ⟨_, h⟩ | ⟨_, h⟩
              · cases h
                exact Nat.le_refl _
              · obtain ⟨_, _, h⟩ := mLt_some h
                exact ihM.2.2.2.2 _ _ _ _ h
          refine ⟨(mP L296 - mP L302) / 16, mP L296 - mP L302, by omega, by omega, ?_⟩
          refine LL_isCarried hv301 R296 rfl rfl rfl (by omega) (by omega) (fun S302 R302 F302 => ?_)
          refine mIf h Iff.rfl (fun c171 h => ?_) (fun c171 h => ?_)
          · obtain ⟨rfl, rfl, rfl⟩ := mRA3 h
            exact k _ R302 (F296.tr F302)
          · obtain ⟨v307, L308, V308, hv307, h⟩ := mBA_some h
            have mv307 : mP L308 ≤ mP L302 := ML_isCarried hv307
            have qv307 : mP Ln1 ≤ mP L308 := by
              rcases mIf_some h with ⟨_, h⟩ | ⟨_, h⟩
              · cases h
                exact Nat.le_refl _
              · obtain ⟨_, _, h⟩ := mLt_some h
                exact ihM.2.2.2.2 _ _ _ _ h
            refine ⟨(mP L302 - mP L308) / 16, mP L302 - mP L308, by omega, by omega, ?_⟩
            refine LL_isCarried hv307 R302 rfl rfl rfl (by omega) (by omega) (fun S308 R308 F308 => ?_)
            refine mIf h Iff.rfl (fun c172 h => ?_) (fun c172 h => ?_)
            · obtain ⟨rfl, rfl, rfl⟩ := mRA3 h
              exact k _ R308 (F296.tr (F302.tr F308))
            · refine mLet h rfl (fun x313 ex313 h => ?_)
              exact ih.2.2.2.2 _ _ _ _ _ _ _ R308 (F308.2.1 (F302.2.1 (F296.2.1 hW))) h (by omega) (by omega) (fun S1 R1 F1 => k S1 R1 (F296.tr (F302.tr (F308.tr F1))))
end
