def f_Reader_readPart_b (r_f_Reader_readPart : (VReader → VTape → VTown → VLaws → Int32 → Option (Int32 × Int32 × (Nat → Int32) × Int32))) (r_f_Reader_readJoined : (VReader → VTape → VTown → VLaws → Int32 → Int32 → Option (Int32 × Int32 × (Nat → Int32) × Int32))) (N : Nat) (v0 : VReader) (v1 : VTape) (v2 : VTown) (v3 : VLaws) (a1 : Int32) : Option (Int32 × Int32 × (Nat → Int32) × Int32) := ((f_Tape_token N v1).bind (fun q1 => (zlet ((if (q1 < 150) then 0 else (if ((150 + (Reader_factsKnown v0)) ≤ q1) then 0 else 1)) : Int32) (fun z5 => (if (q1 = 2) then (if (a1 < 5) then ((f_Tape_value N v1).bind (fun q8 => ((f_Tape_advance N v1).bind (fun q9 => (if (q1 = 2) then ((f_Laws_addCode N v3 (Int64.toInt32 q8)).bind (fun q23 => (some (q9, (Tape_fault v1), q23.1, q23.2)))) else (if (z5 = 0) then (if (q1 = 147) then ((r_f_Reader_readPart v0 (Tape_at_s v1 q9) v2 v3 (a1 + 1)).bind (fun q17 => ((f_Laws_addCode N (Laws_s_codes_size v3 q17.2.2.1 q17.2.2.2) (-147)).bind (fun q18 => (some (q17.1, q17.2.1, q18.1, q18.2)))))) else ((r_f_Reader_readJoined v0 (Tape_at_s v1 q9) v2 v3 0 (a1 + 1)).bind (fun q13 => ((f_Tape_expect N (Tape_s_at_fault v1 q13.1 q13.2.1) 41).bind (fun q14 => (some (q14.1, q14.2, q13.2.2.1, q13.2.2.2))))))) else ((f_Laws_addCode N v3 ((-1) - (q1 - 150))).bind (fun q21 => (some (q9, (Tape_fault v1), q21.1, q21.2)))))))))) else ((f_Tape_wrong N v1 5).bind (fun q27 => (some ((Tape_at v1), q27, (Laws_codes v3), (Laws_size v3)))))) else (if (q1 = 147) then (if (a1 < 5) then ((f_Tape_value N v1).bind (fun q31 => ((f_Tape_advance N v1).bind (fun q32 => (if (q1 = 2) then ((f_Laws_addCode N v3 (Int64.toInt32 q31)).bind (fun q46 => (some (q32, (Tape_fault v1), q46.1, q46.2)))) else (if (z5 = 0) then (if (q1 = 147) then ((r_f_Reader_readPart v0 (Tape_at_s v1 q32) v2 v3 (a1 + 1)).bind (fun q40 => ((f_Laws_addCode N (Laws_s_codes_size v3 q40.2.2.1 q40.2.2.2) (-147)).bind (fun q41 => (some (q40.1, q40.2.1, q41.1, q41.2)))))) else ((r_f_Reader_readJoined v0 (Tape_at_s v1 q32) v2 v3 0 (a1 + 1)).bind (fun q36 => ((f_Tape_expect N (Tape_s_at_fault v1 q36.1 q36.2.1) 41).bind (fun q37 => (some (q37.1, q37.2, q36.2.2.1, q36.2.2.2))))))) else ((f_Laws_addCode N v3 ((-1) - (q1 - 150))).bind (fun q44 => (some (q32, (Tape_fault v1), q44.1, q44.2)))))))))) else ((f_Tape_wrong N v1 5).bind (fun q50 => (some ((Tape_at v1), q50, (Laws_codes v3), (Laws_size v3)))))) else (if (q1 = 40) then (if (a1 < 5) then ((f_Tape_value N v1).bind (fun q54 => ((f_Tape_advance N v1).bind (fun q55 => (if (q1 = 2) then ((f_Laws_addCode N v3 (Int64.toInt32 q54)).bind (fun q69 => (some (q55, (Tape_fault v1), q69.1, q69.2)))) else (if (z5 = 0) then (if (q1 = 147) then ((r_f_Reader_readPart v0 (Tape_at_s v1 q55) v2 v3 (a1 + 1)).bind (fun q63 => ((f_Laws_addCode N (Laws_s_codes_size v3 q63.2.2.1 q63.2.2.2) (-147)).bind (fun q64 => (some (q63.1, q63.2.1, q64.1, q64.2)))))) else ((r_f_Reader_readJoined v0 (Tape_at_s v1 q55) v2 v3 0 (a1 + 1)).bind (fun q59 => ((f_Tape_expect N (Tape_s_at_fault v1 q59.1 q59.2.1) 41).bind (fun q60 => (some (q60.1, q60.2, q59.2.2.1, q59.2.2.2))))))) else ((f_Laws_addCode N v3 ((-1) - (q1 - 150))).bind (fun q67 => (some (q55, (Tape_fault v1), q67.1, q67.2)))))))))) else ((f_Tape_wrong N v1 5).bind (fun q73 => (some ((Tape_at v1), q73, (Laws_codes v3), (Laws_size v3)))))) else (if (z5 = 0) then ((f_Tape_wrong N v1 1).bind (fun q98 => (some ((Tape_at v1), q98, (Laws_codes v3), (Laws_size v3))))) else (if (a1 < 5) then ((f_Tape_value N v1).bind (fun q77 => ((f_Tape_advance N v1).bind (fun q78 => (if (q1 = 2) then ((f_Laws_addCode N v3 (Int64.toInt32 q77)).bind (fun q92 => (some (q78, (Tape_fault v1), q92.1, q92.2)))) else (if (z5 = 0) then (if (q1 = 147) then ((r_f_Reader_readPart v0 (Tape_at_s v1 q78) v2 v3 (a1 + 1)).bind (fun q86 => ((f_Laws_addCode N (Laws_s_codes_size v3 q86.2.2.1 q86.2.2.2) (-147)).bind (fun q87 => (some (q86.1, q86.2.1, q87.1, q87.2)))))) else ((r_f_Reader_readJoined v0 (Tape_at_s v1 q78) v2 v3 0 (a1 + 1)).bind (fun q82 => ((f_Tape_expect N (Tape_s_at_fault v1 q82.1 q82.2.1) 41).bind (fun q83 => (some (q83.1, q83.2, q82.2.2.1, q82.2.2.2))))))) else ((f_Laws_addCode N v3 ((-1) - (q1 - 150))).bind (fun q90 => (some (q78, (Tape_fault v1), q90.1, q90.2)))))))))) else ((f_Tape_wrong N v1 5).bind (fun q96 => (some ((Tape_at v1), q96, (Laws_codes v3), (Laws_size v3))))))))))))))
def f_Reader_readJoined_L35 (r_f_Reader_readPart : (VReader → VTape → VTown → VLaws → Int32 → Option (Int32 × Int32 × (Nat → Int32) × Int32))) (r_f_Reader_readJoined : (VReader → VTape → VTown → VLaws → Int32 → Int32 → Option (Int32 × Int32 × (Nat → Int32) × Int32))) (N : Nat) : Nat → VReader → VTape → VTown → VLaws → Int32 → Int32 → Int32 → Int32 → Int32 → Int32 → (Nat → Int32) → Int32 → Option (Int32 × Int32 × (Nat → Int32) × Int32)
  | 0, _, _, _, _, _, _, _, _, _, _, _, _ => none
  | fuel + 1, v0, v1, v2, v3, y1, y2, y3, x4, m_at0, m_fault1, m_codes2, m_size3 => (if (y3 ≤ x4) then (some (m_at0, m_fault1, m_codes2, m_size3)) else ((f_Tape_token N (Tape_s_at_fault v1 m_at0 m_fault1)).bind (fun q6 => ((f_Reader_levelOf N q6).bind (fun q7 => (if (q7 = y1) then ((f_Tape_token N (Tape_s_at_fault v1 m_at0 m_fault1)).bind (fun q9 => ((f_Tape_advance N (Tape_s_at_fault v1 m_at0 m_fault1)).bind (fun q10 => ((r_f_Reader_readJoined v0 (Tape_s_at_fault v1 q10 m_fault1) v2 (Laws_s_codes_size v3 m_codes2 m_size3) (y1 + 1) y2).bind (fun q11 => ((f_Laws_addCode N (Laws_s_codes_size v3 q11.2.2.1 q11.2.2.2) (-q9)).bind (fun q12 => (f_Reader_readJoined_L35 r_f_Reader_readPart r_f_Reader_readJoined N fuel v0 v1 v2 v3 y1 y2 y3 (x4 + 1) q11.1 q11.2.1 q12.1 q12.2))))))))) else (some (m_at0, m_fault1, m_codes2, m_size3))))))))
def f_Reader_readJoined_b (r_f_Reader_readPart : (VReader → VTape → VTown → VLaws → Int32 → Option (Int32 × Int32 × (Nat → Int32) × Int32))) (r_f_Reader_readJoined : (VReader → VTape → VTown → VLaws → Int32 → Int32 → Option (Int32 × Int32 × (Nat → Int32) × Int32))) (N : Nat) (v0 : VReader) (v1 : VTape) (v2 : VTown) (v3 : VLaws) (a1 : Int32) (a2 : Int32) : Option (Int32 × Int32 × (Nat → Int32) × Int32) := (if (a1 ≤ 3) then ((r_f_Reader_readJoined v0 v1 v2 v3 (a1 + 1) a2).bind (fun q2 => ((f_Reader_readJoined_L35 r_f_Reader_readPart r_f_Reader_readJoined N N v0 (Tape_s_at_fault v1 q2.1 q2.2.1) v2 (Laws_s_codes_size v3 q2.2.2.1 q2.2.2.2) a1 a2 (if (a1 = 1) then 1 else 1000) 0 q2.1 q2.2.1 q2.2.2.1 q2.2.2.2).bind (fun q19 => (some (q19.1, q19.2.1, q19.2.2.1, q19.2.2.2)))))) else ((r_f_Reader_readPart v0 v1 v2 v3 a2).bind (fun q22 => (some (q22.1, q22.2.1, q22.2.2.1, q22.2.2.2)))))
def g_Reader_readPart_Reader_readJoined (N : Nat) : Nat → (VReader → VTape → VTown → VLaws → Int32 → Option (Int32 × Int32 × (Nat → Int32) × Int32)) × (VReader → VTape → VTown → VLaws → Int32 → Int32 → Option (Int32 × Int32 × (Nat → Int32) × Int32))
  | 0 => ((fun _ _ _ _ _ => none), (fun _ _ _ _ _ _ => none))
  | n + 1 => (f_Reader_readPart_b (g_Reader_readPart_Reader_readJoined N n).1 (g_Reader_readPart_Reader_readJoined N n).2 N, f_Reader_readJoined_b (g_Reader_readPart_Reader_readJoined N n).1 (g_Reader_readPart_Reader_readJoined N n).2 N)
def f_Reader_readPart (e N : Nat) (v0 : VReader) (v1 : VTape) (v2 : VTown) (v3 : VLaws) (a1 : Int32) : Option (Int32 × Int32 × (Nat → Int32) × Int32) := (g_Reader_readPart_Reader_readJoined N e).1 v0 v1 v2 v3 a1
def f_Reader_readJoined (e N : Nat) (v0 : VReader) (v1 : VTape) (v2 : VTown) (v3 : VLaws) (a1 : Int32) (a2 : Int32) : Option (Int32 × Int32 × (Nat → Int32) × Int32) := (g_Reader_readPart_Reader_readJoined N e).2 v0 v1 v2 v3 a1 a2
set_option maxRecDepth 20000 in
set_option maxHeartbeats 4000000 in
theorem c_Reader_readPart_b {r_f_Reader_readPart : (VReader → VTape → VTown → VLaws → Int32 → Option (Int32 × Int32 × (Nat → Int32) × Int32))} {r_f_Reader_readJoined : (VReader → VTape → VTown → VLaws → Int32 → Int32 → Option (Int32 × Int32 × (Nat → Int32) × Int32))} {e : Nat} (hr_f_Reader_readPart : ∀ (v0 : VReader) (v1 : VTape) (v2 : VTown) (v3 : VLaws) (a1 : Int32) (R : Int32 × Int32 × (Nat → Int32) × Int32), r_f_Reader_readPart v0 v1 v2 v3 a1 = some R → Ct zMX9_readPart (e + 2) 0 0 0 [.ref 0, .int a1] ([kReader 0 1 6 v0, kTape 1 v1, kTown 6 14 v2, kLaws 14 v3] : List (List zE)).flatten (fun v cc => v = none ∧ cc = ([kReader 0 1 6 v0, kTape 1 (Tape_s_at_fault v1 R.1 R.2.1), kTown 6 14 v2, kLaws 14 (Laws_s_codes_size v3 R.2.2.1 R.2.2.2)] : List (List zE)).flatten)) (hr_f_Reader_readJoined : ∀ (v0 : VReader) (v1 : VTape) (v2 : VTown) (v3 : VLaws) (a1 : Int32) (a2 : Int32) (R : Int32 × Int32 × (Nat → Int32) × Int32), r_f_Reader_readJoined v0 v1 v2 v3 a1 a2 = some R → Ct zMX9_readJoined (e + 2) 0 0 0 [.ref 0, .int a1, .int a2] ([kReader 0 1 6 v0, kTape 1 v1, kTown 6 14 v2, kLaws 14 v3] : List (List zE)).flatten (fun v cc => v = none ∧ cc = ([kReader 0 1 6 v0, kTape 1 (Tape_s_at_fault v1 R.1 R.2.1), kTown 6 14 v2, kLaws 14 (Laws_s_codes_size v3 R.2.2.1 R.2.2.2)] : List (List zE)).flatten)) (N : Nat) (v0 : VReader) (v1 : VTape) (v2 : VTown) (v3 : VLaws) (a1 : Int32) (R : Int32 × Int32 × (Nat → Int32) × Int32) (hf : f_Reader_readPart_b r_f_Reader_readPart r_f_Reader_readJoined N v0 v1 v2 v3 a1 = some R) : Ct zMX9_readPart (e + 3) 0 0 0 [.ref 0, .int a1] ([kReader 0 1 6 v0, kTape 1 v1, kTown 6 14 v2, kLaws 14 v3] : List (List zE)).flatten (fun v cc => v = none ∧ cc = ([kReader 0 1 6 v0, kTape 1 (Tape_s_at_fault v1 R.1 R.2.1), kTown 6 14 v2, kLaws 14 (Laws_s_codes_size v3 R.2.2.1 R.2.2.2)] : List (List zE)).flatten) := by
  refine Ct.of zMX9_readPart_ok (by omega) (Nat.le_of_ble_eq_true rfl) ?_
  intro Z hZ hR hN hE
  have hRm : zRoom Z 0 0 := zRoom0 Z
  unfold f_Reader_readPart_b at hf
  show AW Z 0 0 0 [some (.ref 0), some (.int a1), none, none, none, none, none] [] ([kReader 0 1 6 v0, kTape 1 v1, kTown 6 14 v2, kLaws 14 v3] : List (List zE)).flatten
  refine AW.run hZ hRm [14] 400 ?_
  show AW Z 0 0 14 [some (.ref 0), some (.int a1), some (.ref 1), some (.ref 14), none, none, none] [.ref 1] ([kReader 0 1 6 v0, kTape 1 v1, kTown 6 14 v2, kLaws 14 v3] : List (List zE)).flatten
  obtain ⟨q1, h100, hf⟩ := zbind hf
  refine AW.callVc hZ hR hN (c_Tape_token N v1 q1 h100) zMX7_token_ok rfl rfl zK_BorrowedLives_TownReader_46 zV_X7_token rfl [1, 5, 8, 6] [1] [1, 2, 3, 4, 5] rfl rfl rfl (by decide) (by decide) (by omega) (by decide) (Nat.zero_le _) (Nat.zero_le _) rfl rfl rfl rfl rfl ?_
  rintro v cc ⟨rfl, rfl⟩
  refine ⟨_, rfl, rfl, ?_⟩
  show AW Z 0 0 17 [some (.ref 0), some (.int a1), some (.ref 1), some (.ref 14), none, none, none] [.int q1] ([kReader 0 1 6 v0, kTape 1 v1, kTown 6 14 v2, kLaws 14 v3] : List (List zE)).flatten
  refine AW.run hZ hRm [24] 400 ?_
  show AW Z 0 0 24 [some (.ref 0), some (.int a1), some (.ref 1), some (.ref 14), some (.int q1), none, none] [.int 150, .int q1] ([kReader 0 1 6 v0, kTape 1 v1, kTown 6 14 v2, kLaws 14 v3] : List (List zE)).flatten
  suffices H2 : AW Z 0 0 45 [some (.ref 0), some (.int a1), some (.ref 1), some (.ref 14), some (.int q1), none, none] [.int (if (q1 < 150) then 0 else (if ((150 + (Reader_factsKnown v0)) ≤ q1) then 0 else 1))] ([kReader 0 1 6 v0, kTape 1 v1, kTown 6 14 v2, kLaws 14 v3] : List (List zE)).flatten from by
    refine AW.run hZ hRm [45] 400 ?_
    show (((q1 < 150) → AW Z 0 0 45 [some (.ref 0), some (.int a1), some (.ref 1), some (.ref 14), some (.int q1), none, none] [.int 0] ([kReader 0 1 6 v0, kTape 1 v1, kTown 6 14 v2, kLaws 14 v3] : List (List zE)).flatten) ∧ (¬ (q1 < 150) → ((((150 + (Reader_factsKnown v0)) ≤ q1) → AW Z 0 0 45 [some (.ref 0), some (.int a1), some (.ref 1), some (.ref 14), some (.int q1), none, none] [.int 0] ([kReader 0 1 6 v0, kTape 1 v1, kTown 6 14 v2, kLaws 14 v3] : List (List zE)).flatten) ∧ (¬ ((150 + (Reader_factsKnown v0)) ≤ q1) → AW Z 0 0 45 [some (.ref 0), some (.int a1), some (.ref 1), some (.ref 14), some (.int q1), none, none] [.int 1] ([kReader 0 1 6 v0, kTape 1 v1, kTown 6 14 v2, kLaws 14 v3] : List (List zE)).flatten))))
    refine ⟨fun c3 => ?_, fun c3 => ?_⟩
    · simpa only [if_pos c3] using H2
    · refine ⟨fun c4 => ?_, fun c4 => ?_⟩
      · simpa only [if_neg c3, if_pos c4] using H2
      · simpa only [if_neg c3, if_neg c4] using H2
  replace hf := zlet_gen hf
  generalize ((if (q1 < 150) then 0 else (if ((150 + (Reader_factsKnown v0)) ≤ q1) then 0 else 1)) : Int32) = z5 at hf ⊢
  refine AW.run hZ hRm [75, 86, 91] 400 ?_
  show (((q1 = 2) → (((a1 < 5) → AW Z 0 0 91 [some (.ref 0), some (.int a1), some (.ref 1), some (.ref 14), some (.int q1), some (.int z5), none] [.ref 1] ([kReader 0 1 6 v0, kTape 1 v1, kTown 6 14 v2, kLaws 14 v3] : List (List zE)).flatten) ∧ (¬ (a1 < 5) → AW Z 0 0 86 [some (.ref 0), some (.int a1), some (.ref 1), some (.ref 14), some (.int q1), some (.int z5), none] [.int 5, .ref 1] ([kReader 0 1 6 v0, kTape 1 v1, kTown 6 14 v2, kLaws 14 v3] : List (List zE)).flatten))) ∧ (¬ (q1 = 2) → (((q1 = 147) → (((a1 < 5) → AW Z 0 0 91 [some (.ref 0), some (.int a1), some (.ref 1), some (.ref 14), some (.int q1), some (.int z5), none] [.ref 1] ([kReader 0 1 6 v0, kTape 1 v1, kTown 6 14 v2, kLaws 14 v3] : List (List zE)).flatten) ∧ (¬ (a1 < 5) → AW Z 0 0 86 [some (.ref 0), some (.int a1), some (.ref 1), some (.ref 14), some (.int q1), some (.int z5), none] [.int 5, .ref 1] ([kReader 0 1 6 v0, kTape 1 v1, kTown 6 14 v2, kLaws 14 v3] : List (List zE)).flatten))) ∧ (¬ (q1 = 147) → (((q1 = 40) → (((a1 < 5) → AW Z 0 0 91 [some (.ref 0), some (.int a1), some (.ref 1), some (.ref 14), some (.int q1), some (.int z5), none] [.ref 1] ([kReader 0 1 6 v0, kTape 1 v1, kTown 6 14 v2, kLaws 14 v3] : List (List zE)).flatten) ∧ (¬ (a1 < 5) → AW Z 0 0 86 [some (.ref 0), some (.int a1), some (.ref 1), some (.ref 14), some (.int q1), some (.int z5), none] [.int 5, .ref 1] ([kReader 0 1 6 v0, kTape 1 v1, kTown 6 14 v2, kLaws 14 v3] : List (List zE)).flatten))) ∧ (¬ (q1 = 40) → ((¬ (z5 = 0) → (((a1 < 5) → AW Z 0 0 91 [some (.ref 0), some (.int a1), some (.ref 1), some (.ref 14), some (.int q1), some (.int z5), none] [.ref 1] ([kReader 0 1 6 v0, kTape 1 v1, kTown 6 14 v2, kLaws 14 v3] : List (List zE)).flatten) ∧ (¬ (a1 < 5) → AW Z 0 0 86 [some (.ref 0), some (.int a1), some (.ref 1), some (.ref 14), some (.int q1), some (.int z5), none] [.int 5, .ref 1] ([kReader 0 1 6 v0, kTape 1 v1, kTown 6 14 v2, kLaws 14 v3] : List (List zE)).flatten))) ∧ ((z5 = 0) → AW Z 0 0 75 [some (.ref 0), some (.int a1), some (.ref 1), some (.ref 14), some (.int q1), some (.int z5), none] [.int 1, .ref 1] ([kReader 0 1 6 v0, kTape 1 v1, kTown 6 14 v2, kLaws 14 v3] : List (List zE)).flatten))))))))
  refine ⟨fun c6 => ?_, fun c6 => ?_⟩
  · rw [if_pos c6] at hf
    refine ⟨fun c7 => ?_, fun c7 => ?_⟩
    · rw [if_pos c7] at hf
      obtain ⟨q8, h26, hf⟩ := zbind hf
      refine AW.callVc hZ hR hN (c_Tape_value N v1 q8 h26) zMX7_value_ok rfl rfl zK_BorrowedLives_TownReader_104 zV_X7_value rfl [1, 5, 8, 6] [1] [1, 2, 3, 4, 5] rfl rfl rfl (by decide) (by decide) (by omega) (by decide) (Nat.zero_le _) (Nat.zero_le _) rfl rfl rfl rfl rfl ?_
      rintro v cc ⟨rfl, rfl⟩
      refine ⟨_, rfl, rfl, ?_⟩
      show AW Z 0 0 94 [some (.ref 0), some (.int a1), some (.ref 1), some (.ref 14), some (.int q1), some (.int z5), none] [.long q8] ([kReader 0 1 6 v0, kTape 1 v1, kTown 6 14 v2, kLaws 14 v3] : List (List zE)).flatten
      refine AW.run hZ hRm [98] 400 ?_
      show AW Z 0 0 98 [some (.ref 0), some (.int a1), some (.ref 1), some (.ref 14), some (.int q1), some (.int z5), some (.int (Int64.toInt32 q8))] [.ref 1] ([kReader 0 1 6 v0, kTape 1 v1, kTown 6 14 v2, kLaws 14 v3] : List (List zE)).flatten
      obtain ⟨q9, h25, hf⟩ := zbind hf
      refine AW.callVc hZ hR hN (c_Tape_advance N v1 q9 h25) zMX7_advance_ok rfl rfl zK_BorrowedLives_TownReader_72 zV_X7_advance rfl [1, 5, 8, 6] [1] [1, 2, 3, 4, 5] rfl rfl rfl (by decide) (by decide) (by omega) (by decide) (Nat.zero_le _) (Nat.zero_le _) rfl rfl rfl rfl rfl ?_
      rintro v cc ⟨rfl, rfl⟩
      refine ⟨_, rfl, rfl, ?_⟩
      show AW Z 0 0 101 [some (.ref 0), some (.int a1), some (.ref 1), some (.ref 14), some (.int q1), some (.int z5), some (.int (Int64.toInt32 q8))] [] ([kReader 0 1 6 v0, kTape 1 (Tape_at_s v1 q9), kTown 6 14 v2, kLaws 14 v3] : List (List zE)).flatten
      refine AW.run hZ hRm [110, 130, 148, 166] 400 ?_
      show ((¬ (q1 = 2) → (((z5 = 0) → ((¬ (q1 = 147) → AW Z 0 0 166 [some (.ref 0), some (.int a1), some (.ref 1), some (.ref 14), some (.int q1), some (.int z5), some (.int (Int64.toInt32 q8))] [.int (a1 + 1), .int 0, .ref 0] ([kReader 0 1 6 v0, kTape 1 (Tape_at_s v1 q9), kTown 6 14 v2, kLaws 14 v3] : List (List zE)).flatten) ∧ ((q1 = 147) → AW Z 0 0 148 [some (.ref 0), some (.int a1), some (.ref 1), some (.ref 14), some (.int q1), some (.int z5), some (.int (Int64.toInt32 q8))] [.int (a1 + 1), .ref 0] ([kReader 0 1 6 v0, kTape 1 (Tape_at_s v1 q9), kTown 6 14 v2, kLaws 14 v3] : List (List zE)).flatten))) ∧ (¬ (z5 = 0) → AW Z 0 0 130 [some (.ref 0), some (.int a1), some (.ref 1), some (.ref 14), some (.int q1), some (.int z5), some (.int (Int64.toInt32 q8))] [.int ((-1) - (q1 - 150)), .ref 14] ([kReader 0 1 6 v0, kTape 1 (Tape_at_s v1 q9), kTown 6 14 v2, kLaws 14 v3] : List (List zE)).flatten))) ∧ ((q1 = 2) → AW Z 0 0 110 [some (.ref 0), some (.int a1), some (.ref 1), some (.ref 14), some (.int q1), some (.int z5), some (.int (Int64.toInt32 q8))] [.int (Int64.toInt32 q8), .ref 14] ([kReader 0 1 6 v0, kTape 1 (Tape_at_s v1 q9), kTown 6 14 v2, kLaws 14 v3] : List (List zE)).flatten))
      refine ⟨fun c10 => ?_, fun c10 => ?_⟩
      · rw [if_neg c10] at hf
        refine ⟨fun c11 => ?_, fun c11 => ?_⟩
        · rw [if_pos c11] at hf
          refine ⟨fun c12 => ?_, fun c12 => ?_⟩
          · rw [if_neg c12] at hf
            obtain ⟨q13, h16, hf⟩ := zbind hf
            refine AW.callSc hZ hR hN (hr_f_Reader_readJoined v0 (Tape_at_s v1 q9) v2 v3 0 (a1 + 1) q13 h16) zMX9_readJoined_ok rfl rfl zK_BorrowedLives_TownReader_147 zV_X9_readJoined rfl [1, 5, 8, 6] [0, 1, 2, 3] [0, 1, 2, 3, 4, 5, 6, 7, 8, 9, 10, 11, 12, 13, 14, 15, 16, 17, 18, 19] rfl rfl rfl (by decide) (by decide) (by omega) (by decide) (Nat.zero_le _) (Nat.zero_le _) rfl rfl ?_
            rintro v cc ⟨rfl, rfl⟩
            refine ⟨_, rfl, rfl, ?_⟩
            show AW Z 0 0 169 [some (.ref 0), some (.int a1), some (.ref 1), some (.ref 14), some (.int q1), some (.int z5), some (.int (Int64.toInt32 q8))] [] ([kReader 0 1 6 v0, kTape 1 (Tape_s_at_fault v1 q13.1 q13.2.1), kTown 6 14 v2, kLaws 14 (Laws_s_codes_size v3 q13.2.2.1 q13.2.2.2)] : List (List zE)).flatten
            refine AW.run hZ hRm [172] 400 ?_
            show AW Z 0 0 172 [some (.ref 0), some (.int a1), some (.ref 1), some (.ref 14), some (.int q1), some (.int z5), some (.int (Int64.toInt32 q8))] [.int 41, .ref 1] ([kReader 0 1 6 v0, kTape 1 (Tape_s_at_fault v1 q13.1 q13.2.1), kTown 6 14 v2, kLaws 14 (Laws_s_codes_size v3 q13.2.2.1 q13.2.2.2)] : List (List zE)).flatten
            obtain ⟨q14, h15, hf⟩ := zbind hf
            refine AW.callVc hZ hR hN (c_Tape_expect N (Tape_s_at_fault v1 q13.1 q13.2.1) 41 q14 h15) zMX7_expect_ok rfl rfl zK_BorrowedLives_TownReader_66 zV_X7_expect rfl [1, 5, 8, 6] [1] [1, 2, 3, 4, 5] rfl rfl rfl (by decide) (by decide) (by omega) (by decide) (Nat.zero_le _) (Nat.zero_le _) rfl rfl rfl rfl rfl ?_
            rintro v cc ⟨rfl, rfl⟩
            refine ⟨_, rfl, rfl, ?_⟩
            show AW Z 0 0 175 [some (.ref 0), some (.int a1), some (.ref 1), some (.ref 14), some (.int q1), some (.int z5), some (.int (Int64.toInt32 q8))] [] ([kReader 0 1 6 v0, kTape 1 (Tape_s_at_fault v1 q14.1 q14.2), kTown 6 14 v2, kLaws 14 (Laws_s_codes_size v3 q13.2.2.1 q13.2.2.2)] : List (List zE)).flatten
            cases hf
            exact AW.vret hZ hE rfl rfl rfl (Nat.le_refl 0) (Nat.le_refl 0) rfl ⟨rfl, rfl⟩
          · rw [if_pos c12] at hf
            obtain ⟨q17, h20, hf⟩ := zbind hf
            refine AW.callSc hZ hR hN (hr_f_Reader_readPart v0 (Tape_at_s v1 q9) v2 v3 (a1 + 1) q17 h20) zMX9_readPart_ok rfl rfl zK_BorrowedLives_TownReader_154 zV_X9_readPart rfl [1, 5, 8, 6] [0, 1, 2, 3] [0, 1, 2, 3, 4, 5, 6, 7, 8, 9, 10, 11, 12, 13, 14, 15, 16, 17, 18, 19] rfl rfl rfl (by decide) (by decide) (by omega) (by decide) (Nat.zero_le _) (Nat.zero_le _) rfl rfl ?_
            rintro v cc ⟨rfl, rfl⟩
            refine ⟨_, rfl, rfl, ?_⟩
            show AW Z 0 0 151 [some (.ref 0), some (.int a1), some (.ref 1), some (.ref 14), some (.int q1), some (.int z5), some (.int (Int64.toInt32 q8))] [] ([kReader 0 1 6 v0, kTape 1 (Tape_s_at_fault v1 q17.1 q17.2.1), kTown 6 14 v2, kLaws 14 (Laws_s_codes_size v3 q17.2.2.1 q17.2.2.2)] : List (List zE)).flatten
            refine AW.run hZ hRm [155] 400 ?_
            show AW Z 0 0 155 [some (.ref 0), some (.int a1), some (.ref 1), some (.ref 14), some (.int q1), some (.int z5), some (.int (Int64.toInt32 q8))] [.int (-147), .ref 14] ([kReader 0 1 6 v0, kTape 1 (Tape_s_at_fault v1 q17.1 q17.2.1), kTown 6 14 v2, kLaws 14 (Laws_s_codes_size v3 q17.2.2.1 q17.2.2.2)] : List (List zE)).flatten
            obtain ⟨q18, h19, hf⟩ := zbind hf
            refine AW.callVc hZ hR hN (c_Laws_addCode N (Laws_s_codes_size v3 q17.2.2.1 q17.2.2.2) (-147) q18 h19) zMX2_addCode_ok rfl rfl zK_BorrowedLives_TownReader_161 zV_X2_addCode rfl [1, 5, 8, 6] [3] [14, 15, 16, 17, 18, 19] rfl rfl rfl (by decide) (by decide) (by omega) (by decide) (Nat.zero_le _) (Nat.zero_le _) rfl rfl rfl rfl rfl ?_
            rintro v cc ⟨rfl, rfl⟩
            refine ⟨_, rfl, rfl, ?_⟩
            show AW Z 0 0 158 [some (.ref 0), some (.int a1), some (.ref 1), some (.ref 14), some (.int q1), some (.int z5), some (.int (Int64.toInt32 q8))] [] ([kReader 0 1 6 v0, kTape 1 (Tape_s_at_fault v1 q17.1 q17.2.1), kTown 6 14 v2, kLaws 14 (Laws_s_codes_size v3 q18.1 q18.2)] : List (List zE)).flatten
            refine AW.run hZ hRm [175] 400 ?_
            show AW Z 0 0 175 [some (.ref 0), some (.int a1), some (.ref 1), some (.ref 14), some (.int q1), some (.int z5), some (.int (Int64.toInt32 q8))] [] ([kReader 0 1 6 v0, kTape 1 (Tape_s_at_fault v1 q17.1 q17.2.1), kTown 6 14 v2, kLaws 14 (Laws_s_codes_size v3 q18.1 q18.2)] : List (List zE)).flatten
            cases hf
            exact AW.vret hZ hE rfl rfl rfl (Nat.le_refl 0) (Nat.le_refl 0) rfl ⟨rfl, rfl⟩
        · rw [if_neg c11] at hf
          obtain ⟨q21, h22, hf⟩ := zbind hf
          refine AW.callVc hZ hR hN (c_Laws_addCode N v3 ((-1) - (q1 - 150)) q21 h22) zMX2_addCode_ok rfl rfl zK_BorrowedLives_TownReader_161 zV_X2_addCode rfl [1, 5, 8, 6] [3] [14, 15, 16, 17, 18, 19] rfl rfl rfl (by decide) (by decide) (by omega) (by decide) (Nat.zero_le _) (Nat.zero_le _) rfl rfl rfl rfl rfl ?_
          rintro v cc ⟨rfl, rfl⟩
          refine ⟨_, rfl, rfl, ?_⟩
          show AW Z 0 0 133 [some (.ref 0), some (.int a1), some (.ref 1), some (.ref 14), some (.int q1), some (.int z5), some (.int (Int64.toInt32 q8))] [] ([kReader 0 1 6 v0, kTape 1 (Tape_at_s v1 q9), kTown 6 14 v2, kLaws 14 (Laws_s_codes_size v3 q21.1 q21.2)] : List (List zE)).flatten
          refine AW.run hZ hRm [175] 400 ?_
          show AW Z 0 0 175 [some (.ref 0), some (.int a1), some (.ref 1), some (.ref 14), some (.int q1), some (.int z5), some (.int (Int64.toInt32 q8))] [] ([kReader 0 1 6 v0, kTape 1 (Tape_at_s v1 q9), kTown 6 14 v2, kLaws 14 (Laws_s_codes_size v3 q21.1 q21.2)] : List (List zE)).flatten
          cases hf
          exact AW.vret hZ hE rfl rfl rfl (Nat.le_refl 0) (Nat.le_refl 0) rfl ⟨rfl, rfl⟩
      · rw [if_pos c10] at hf
        obtain ⟨q23, h24, hf⟩ := zbind hf
        refine AW.callVc hZ hR hN (c_Laws_addCode N v3 (Int64.toInt32 q8) q23 h24) zMX2_addCode_ok rfl rfl zK_BorrowedLives_TownReader_161 zV_X2_addCode rfl [1, 5, 8, 6] [3] [14, 15, 16, 17, 18, 19] rfl rfl rfl (by decide) (by decide) (by omega) (by decide) (Nat.zero_le _) (Nat.zero_le _) rfl rfl rfl rfl rfl ?_
        rintro v cc ⟨rfl, rfl⟩
        refine ⟨_, rfl, rfl, ?_⟩
        show AW Z 0 0 113 [some (.ref 0), some (.int a1), some (.ref 1), some (.ref 14), some (.int q1), some (.int z5), some (.int (Int64.toInt32 q8))] [] ([kReader 0 1 6 v0, kTape 1 (Tape_at_s v1 q9), kTown 6 14 v2, kLaws 14 (Laws_s_codes_size v3 q23.1 q23.2)] : List (List zE)).flatten
        refine AW.run hZ hRm [175] 400 ?_
        show AW Z 0 0 175 [some (.ref 0), some (.int a1), some (.ref 1), some (.ref 14), some (.int q1), some (.int z5), some (.int (Int64.toInt32 q8))] [] ([kReader 0 1 6 v0, kTape 1 (Tape_at_s v1 q9), kTown 6 14 v2, kLaws 14 (Laws_s_codes_size v3 q23.1 q23.2)] : List (List zE)).flatten
        cases hf
        exact AW.vret hZ hE rfl rfl rfl (Nat.le_refl 0) (Nat.le_refl 0) rfl ⟨rfl, rfl⟩
    · rw [if_neg c7] at hf
      obtain ⟨q27, h28, hf⟩ := zbind hf
      refine AW.callVc hZ hR hN (c_Tape_wrong N v1 5 q27 h28) zMX7_wrong_ok rfl rfl zK_BorrowedLives_TownReader_63 zV_X7_wrong rfl [1, 5, 8, 6] [1] [1, 2, 3, 4, 5] rfl rfl rfl (by decide) (by decide) (by omega) (by decide) (Nat.zero_le _) (Nat.zero_le _) rfl rfl rfl rfl rfl ?_
      rintro v cc ⟨rfl, rfl⟩
      refine ⟨_, rfl, rfl, ?_⟩
      show AW Z 0 0 89 [some (.ref 0), some (.int a1), some (.ref 1), some (.ref 14), some (.int q1), some (.int z5), none] [] ([kReader 0 1 6 v0, kTape 1 (Tape_fault_s v1 q27), kTown 6 14 v2, kLaws 14 v3] : List (List zE)).flatten
      cases hf
      exact AW.vret hZ hE rfl rfl rfl (Nat.le_refl 0) (Nat.le_refl 0) rfl ⟨rfl, rfl⟩
  · rw [if_neg c6] at hf
    refine ⟨fun c29 => ?_, fun c29 => ?_⟩
    · rw [if_pos c29] at hf
      refine ⟨fun c30 => ?_, fun c30 => ?_⟩
      · rw [if_pos c30] at hf
        obtain ⟨q31, h49, hf⟩ := zbind hf
        refine AW.callVc hZ hR hN (c_Tape_value N v1 q31 h49) zMX7_value_ok rfl rfl zK_BorrowedLives_TownReader_104 zV_X7_value rfl [1, 5, 8, 6] [1] [1, 2, 3, 4, 5] rfl rfl rfl (by decide) (by decide) (by omega) (by decide) (Nat.zero_le _) (Nat.zero_le _) rfl rfl rfl rfl rfl ?_
        rintro v cc ⟨rfl, rfl⟩
        refine ⟨_, rfl, rfl, ?_⟩
        show AW Z 0 0 94 [some (.ref 0), some (.int a1), some (.ref 1), some (.ref 14), some (.int q1), some (.int z5), none] [.long q31] ([kReader 0 1 6 v0, kTape 1 v1, kTown 6 14 v2, kLaws 14 v3] : List (List zE)).flatten
        refine AW.run hZ hRm [98] 400 ?_
        show AW Z 0 0 98 [some (.ref 0), some (.int a1), some (.ref 1), some (.ref 14), some (.int q1), some (.int z5), some (.int (Int64.toInt32 q31))] [.ref 1] ([kReader 0 1 6 v0, kTape 1 v1, kTown 6 14 v2, kLaws 14 v3] : List (List zE)).flatten
        obtain ⟨q32, h48, hf⟩ := zbind hf
        refine AW.callVc hZ hR hN (c_Tape_advance N v1 q32 h48) zMX7_advance_ok rfl rfl zK_BorrowedLives_TownReader_72 zV_X7_advance rfl [1, 5, 8, 6] [1] [1, 2, 3, 4, 5] rfl rfl rfl (by decide) (by decide) (by omega) (by decide) (Nat.zero_le _) (Nat.zero_le _) rfl rfl rfl rfl rfl ?_
        rintro v cc ⟨rfl, rfl⟩
        refine ⟨_, rfl, rfl, ?_⟩
        show AW Z 0 0 101 [some (.ref 0), some (.int a1), some (.ref 1), some (.ref 14), some (.int q1), some (.int z5), some (.int (Int64.toInt32 q31))] [] ([kReader 0 1 6 v0, kTape 1 (Tape_at_s v1 q32), kTown 6 14 v2, kLaws 14 v3] : List (List zE)).flatten
        refine AW.run hZ hRm [110, 130, 148, 166] 400 ?_
        show ((¬ (q1 = 2) → (((z5 = 0) → ((¬ (q1 = 147) → AW Z 0 0 166 [some (.ref 0), some (.int a1), some (.ref 1), some (.ref 14), some (.int q1), some (.int z5), some (.int (Int64.toInt32 q31))] [.int (a1 + 1), .int 0, .ref 0] ([kReader 0 1 6 v0, kTape 1 (Tape_at_s v1 q32), kTown 6 14 v2, kLaws 14 v3] : List (List zE)).flatten) ∧ ((q1 = 147) → AW Z 0 0 148 [some (.ref 0), some (.int a1), some (.ref 1), some (.ref 14), some (.int q1), some (.int z5), some (.int (Int64.toInt32 q31))] [.int (a1 + 1), .ref 0] ([kReader 0 1 6 v0, kTape 1 (Tape_at_s v1 q32), kTown 6 14 v2, kLaws 14 v3] : List (List zE)).flatten))) ∧ (¬ (z5 = 0) → AW Z 0 0 130 [some (.ref 0), some (.int a1), some (.ref 1), some (.ref 14), some (.int q1), some (.int z5), some (.int (Int64.toInt32 q31))] [.int ((-1) - (q1 - 150)), .ref 14] ([kReader 0 1 6 v0, kTape 1 (Tape_at_s v1 q32), kTown 6 14 v2, kLaws 14 v3] : List (List zE)).flatten))) ∧ ((q1 = 2) → AW Z 0 0 110 [some (.ref 0), some (.int a1), some (.ref 1), some (.ref 14), some (.int q1), some (.int z5), some (.int (Int64.toInt32 q31))] [.int (Int64.toInt32 q31), .ref 14] ([kReader 0 1 6 v0, kTape 1 (Tape_at_s v1 q32), kTown 6 14 v2, kLaws 14 v3] : List (List zE)).flatten))
        refine ⟨fun c33 => ?_, fun c33 => ?_⟩
        · rw [if_neg c33] at hf
          refine ⟨fun c34 => ?_, fun c34 => ?_⟩
          · rw [if_pos c34] at hf
            refine ⟨fun c35 => ?_, fun c35 => ?_⟩
            · rw [if_neg c35] at hf
              obtain ⟨q36, h39, hf⟩ := zbind hf
              refine AW.callSc hZ hR hN (hr_f_Reader_readJoined v0 (Tape_at_s v1 q32) v2 v3 0 (a1 + 1) q36 h39) zMX9_readJoined_ok rfl rfl zK_BorrowedLives_TownReader_147 zV_X9_readJoined rfl [1, 5, 8, 6] [0, 1, 2, 3] [0, 1, 2, 3, 4, 5, 6, 7, 8, 9, 10, 11, 12, 13, 14, 15, 16, 17, 18, 19] rfl rfl rfl (by decide) (by decide) (by omega) (by decide) (Nat.zero_le _) (Nat.zero_le _) rfl rfl ?_
              rintro v cc ⟨rfl, rfl⟩
              refine ⟨_, rfl, rfl, ?_⟩
              show AW Z 0 0 169 [some (.ref 0), some (.int a1), some (.ref 1), some (.ref 14), some (.int q1), some (.int z5), some (.int (Int64.toInt32 q31))] [] ([kReader 0 1 6 v0, kTape 1 (Tape_s_at_fault v1 q36.1 q36.2.1), kTown 6 14 v2, kLaws 14 (Laws_s_codes_size v3 q36.2.2.1 q36.2.2.2)] : List (List zE)).flatten
              refine AW.run hZ hRm [172] 400 ?_
              show AW Z 0 0 172 [some (.ref 0), some (.int a1), some (.ref 1), some (.ref 14), some (.int q1), some (.int z5), some (.int (Int64.toInt32 q31))] [.int 41, .ref 1] ([kReader 0 1 6 v0, kTape 1 (Tape_s_at_fault v1 q36.1 q36.2.1), kTown 6 14 v2, kLaws 14 (Laws_s_codes_size v3 q36.2.2.1 q36.2.2.2)] : List (List zE)).flatten
              obtain ⟨q37, h38, hf⟩ := zbind hf
              refine AW.callVc hZ hR hN (c_Tape_expect N (Tape_s_at_fault v1 q36.1 q36.2.1) 41 q37 h38) zMX7_expect_ok rfl rfl zK_BorrowedLives_TownReader_66 zV_X7_expect rfl [1, 5, 8, 6] [1] [1, 2, 3, 4, 5] rfl rfl rfl (by decide) (by decide) (by omega) (by decide) (Nat.zero_le _) (Nat.zero_le _) rfl rfl rfl rfl rfl ?_
              rintro v cc ⟨rfl, rfl⟩
              refine ⟨_, rfl, rfl, ?_⟩
              show AW Z 0 0 175 [some (.ref 0), some (.int a1), some (.ref 1), some (.ref 14), some (.int q1), some (.int z5), some (.int (Int64.toInt32 q31))] [] ([kReader 0 1 6 v0, kTape 1 (Tape_s_at_fault v1 q37.1 q37.2), kTown 6 14 v2, kLaws 14 (Laws_s_codes_size v3 q36.2.2.1 q36.2.2.2)] : List (List zE)).flatten
              cases hf
              exact AW.vret hZ hE rfl rfl rfl (Nat.le_refl 0) (Nat.le_refl 0) rfl ⟨rfl, rfl⟩
            · rw [if_pos c35] at hf
              obtain ⟨q40, h43, hf⟩ := zbind hf
              refine AW.callSc hZ hR hN (hr_f_Reader_readPart v0 (Tape_at_s v1 q32) v2 v3 (a1 + 1) q40 h43) zMX9_readPart_ok rfl rfl zK_BorrowedLives_TownReader_154 zV_X9_readPart rfl [1, 5, 8, 6] [0, 1, 2, 3] [0, 1, 2, 3, 4, 5, 6, 7, 8, 9, 10, 11, 12, 13, 14, 15, 16, 17, 18, 19] rfl rfl rfl (by decide) (by decide) (by omega) (by decide) (Nat.zero_le _) (Nat.zero_le _) rfl rfl ?_
              rintro v cc ⟨rfl, rfl⟩
              refine ⟨_, rfl, rfl, ?_⟩
              show AW Z 0 0 151 [some (.ref 0), some (.int a1), some (.ref 1), some (.ref 14), some (.int q1), some (.int z5), some (.int (Int64.toInt32 q31))] [] ([kReader 0 1 6 v0, kTape 1 (Tape_s_at_fault v1 q40.1 q40.2.1), kTown 6 14 v2, kLaws 14 (Laws_s_codes_size v3 q40.2.2.1 q40.2.2.2)] : List (List zE)).flatten
              refine AW.run hZ hRm [155] 400 ?_
              show AW Z 0 0 155 [some (.ref 0), some (.int a1), some (.ref 1), some (.ref 14), some (.int q1), some (.int z5), some (.int (Int64.toInt32 q31))] [.int (-147), .ref 14] ([kReader 0 1 6 v0, kTape 1 (Tape_s_at_fault v1 q40.1 q40.2.1), kTown 6 14 v2, kLaws 14 (Laws_s_codes_size v3 q40.2.2.1 q40.2.2.2)] : List (List zE)).flatten
              obtain ⟨q41, h42, hf⟩ := zbind hf
              refine AW.callVc hZ hR hN (c_Laws_addCode N (Laws_s_codes_size v3 q40.2.2.1 q40.2.2.2) (-147) q41 h42) zMX2_addCode_ok rfl rfl zK_BorrowedLives_TownReader_161 zV_X2_addCode rfl [1, 5, 8, 6] [3] [14, 15, 16, 17, 18, 19] rfl rfl rfl (by decide) (by decide) (by omega) (by decide) (Nat.zero_le _) (Nat.zero_le _) rfl rfl rfl rfl rfl ?_
              rintro v cc ⟨rfl, rfl⟩
              refine ⟨_, rfl, rfl, ?_⟩
              show AW Z 0 0 158 [some (.ref 0), some (.int a1), some (.ref 1), some (.ref 14), some (.int q1), some (.int z5), some (.int (Int64.toInt32 q31))] [] ([kReader 0 1 6 v0, kTape 1 (Tape_s_at_fault v1 q40.1 q40.2.1), kTown 6 14 v2, kLaws 14 (Laws_s_codes_size v3 q41.1 q41.2)] : List (List zE)).flatten
              refine AW.run hZ hRm [175] 400 ?_
              show AW Z 0 0 175 [some (.ref 0), some (.int a1), some (.ref 1), some (.ref 14), some (.int q1), some (.int z5), some (.int (Int64.toInt32 q31))] [] ([kReader 0 1 6 v0, kTape 1 (Tape_s_at_fault v1 q40.1 q40.2.1), kTown 6 14 v2, kLaws 14 (Laws_s_codes_size v3 q41.1 q41.2)] : List (List zE)).flatten
              cases hf
              exact AW.vret hZ hE rfl rfl rfl (Nat.le_refl 0) (Nat.le_refl 0) rfl ⟨rfl, rfl⟩
          · rw [if_neg c34] at hf
            obtain ⟨q44, h45, hf⟩ := zbind hf
            refine AW.callVc hZ hR hN (c_Laws_addCode N v3 ((-1) - (q1 - 150)) q44 h45) zMX2_addCode_ok rfl rfl zK_BorrowedLives_TownReader_161 zV_X2_addCode rfl [1, 5, 8, 6] [3] [14, 15, 16, 17, 18, 19] rfl rfl rfl (by decide) (by decide) (by omega) (by decide) (Nat.zero_le _) (Nat.zero_le _) rfl rfl rfl rfl rfl ?_
            rintro v cc ⟨rfl, rfl⟩
            refine ⟨_, rfl, rfl, ?_⟩
            show AW Z 0 0 133 [some (.ref 0), some (.int a1), some (.ref 1), some (.ref 14), some (.int q1), some (.int z5), some (.int (Int64.toInt32 q31))] [] ([kReader 0 1 6 v0, kTape 1 (Tape_at_s v1 q32), kTown 6 14 v2, kLaws 14 (Laws_s_codes_size v3 q44.1 q44.2)] : List (List zE)).flatten
            refine AW.run hZ hRm [175] 400 ?_
            show AW Z 0 0 175 [some (.ref 0), some (.int a1), some (.ref 1), some (.ref 14), some (.int q1), some (.int z5), some (.int (Int64.toInt32 q31))] [] ([kReader 0 1 6 v0, kTape 1 (Tape_at_s v1 q32), kTown 6 14 v2, kLaws 14 (Laws_s_codes_size v3 q44.1 q44.2)] : List (List zE)).flatten
            cases hf
            exact AW.vret hZ hE rfl rfl rfl (Nat.le_refl 0) (Nat.le_refl 0) rfl ⟨rfl, rfl⟩
        · rw [if_pos c33] at hf
          obtain ⟨q46, h47, hf⟩ := zbind hf
          refine AW.callVc hZ hR hN (c_Laws_addCode N v3 (Int64.toInt32 q31) q46 h47) zMX2_addCode_ok rfl rfl zK_BorrowedLives_TownReader_161 zV_X2_addCode rfl [1, 5, 8, 6] [3] [14, 15, 16, 17, 18, 19] rfl rfl rfl (by decide) (by decide) (by omega) (by decide) (Nat.zero_le _) (Nat.zero_le _) rfl rfl rfl rfl rfl ?_
          rintro v cc ⟨rfl, rfl⟩
          refine ⟨_, rfl, rfl, ?_⟩
          show AW Z 0 0 113 [some (.ref 0), some (.int a1), some (.ref 1), some (.ref 14), some (.int q1), some (.int z5), some (.int (Int64.toInt32 q31))] [] ([kReader 0 1 6 v0, kTape 1 (Tape_at_s v1 q32), kTown 6 14 v2, kLaws 14 (Laws_s_codes_size v3 q46.1 q46.2)] : List (List zE)).flatten
          refine AW.run hZ hRm [175] 400 ?_
          show AW Z 0 0 175 [some (.ref 0), some (.int a1), some (.ref 1), some (.ref 14), some (.int q1), some (.int z5), some (.int (Int64.toInt32 q31))] [] ([kReader 0 1 6 v0, kTape 1 (Tape_at_s v1 q32), kTown 6 14 v2, kLaws 14 (Laws_s_codes_size v3 q46.1 q46.2)] : List (List zE)).flatten
          cases hf
          exact AW.vret hZ hE rfl rfl rfl (Nat.le_refl 0) (Nat.le_refl 0) rfl ⟨rfl, rfl⟩
      · rw [if_neg c30] at hf
        obtain ⟨q50, h51, hf⟩ := zbind hf
        refine AW.callVc hZ hR hN (c_Tape_wrong N v1 5 q50 h51) zMX7_wrong_ok rfl rfl zK_BorrowedLives_TownReader_63 zV_X7_wrong rfl [1, 5, 8, 6] [1] [1, 2, 3, 4, 5] rfl rfl rfl (by decide) (by decide) (by omega) (by decide) (Nat.zero_le _) (Nat.zero_le _) rfl rfl rfl rfl rfl ?_
        rintro v cc ⟨rfl, rfl⟩
        refine ⟨_, rfl, rfl, ?_⟩
        show AW Z 0 0 89 [some (.ref 0), some (.int a1), some (.ref 1), some (.ref 14), some (.int q1), some (.int z5), none] [] ([kReader 0 1 6 v0, kTape 1 (Tape_fault_s v1 q50), kTown 6 14 v2, kLaws 14 v3] : List (List zE)).flatten
        cases hf
        exact AW.vret hZ hE rfl rfl rfl (Nat.le_refl 0) (Nat.le_refl 0) rfl ⟨rfl, rfl⟩
    · rw [if_neg c29] at hf
      refine ⟨fun c52 => ?_, fun c52 => ?_⟩
      · rw [if_pos c52] at hf
        refine ⟨fun c53 => ?_, fun c53 => ?_⟩
        · rw [if_pos c53] at hf
          obtain ⟨q54, h72, hf⟩ := zbind hf
          refine AW.callVc hZ hR hN (c_Tape_value N v1 q54 h72) zMX7_value_ok rfl rfl zK_BorrowedLives_TownReader_104 zV_X7_value rfl [1, 5, 8, 6] [1] [1, 2, 3, 4, 5] rfl rfl rfl (by decide) (by decide) (by omega) (by decide) (Nat.zero_le _) (Nat.zero_le _) rfl rfl rfl rfl rfl ?_
          rintro v cc ⟨rfl, rfl⟩
          refine ⟨_, rfl, rfl, ?_⟩
          show AW Z 0 0 94 [some (.ref 0), some (.int a1), some (.ref 1), some (.ref 14), some (.int q1), some (.int z5), none] [.long q54] ([kReader 0 1 6 v0, kTape 1 v1, kTown 6 14 v2, kLaws 14 v3] : List (List zE)).flatten
          refine AW.run hZ hRm [98] 400 ?_
          show AW Z 0 0 98 [some (.ref 0), some (.int a1), some (.ref 1), some (.ref 14), some (.int q1), some (.int z5), some (.int (Int64.toInt32 q54))] [.ref 1] ([kReader 0 1 6 v0, kTape 1 v1, kTown 6 14 v2, kLaws 14 v3] : List (List zE)).flatten
          obtain ⟨q55, h71, hf⟩ := zbind hf
          refine AW.callVc hZ hR hN (c_Tape_advance N v1 q55 h71) zMX7_advance_ok rfl rfl zK_BorrowedLives_TownReader_72 zV_X7_advance rfl [1, 5, 8, 6] [1] [1, 2, 3, 4, 5] rfl rfl rfl (by decide) (by decide) (by omega) (by decide) (Nat.zero_le _) (Nat.zero_le _) rfl rfl rfl rfl rfl ?_
          rintro v cc ⟨rfl, rfl⟩
          refine ⟨_, rfl, rfl, ?_⟩
          show AW Z 0 0 101 [some (.ref 0), some (.int a1), some (.ref 1), some (.ref 14), some (.int q1), some (.int z5), some (.int (Int64.toInt32 q54))] [] ([kReader 0 1 6 v0, kTape 1 (Tape_at_s v1 q55), kTown 6 14 v2, kLaws 14 v3] : List (List zE)).flatten
          refine AW.run hZ hRm [110, 130, 148, 166] 400 ?_
          show ((¬ (q1 = 2) → (((z5 = 0) → ((¬ (q1 = 147) → AW Z 0 0 166 [some (.ref 0), some (.int a1), some (.ref 1), some (.ref 14), some (.int q1), some (.int z5), some (.int (Int64.toInt32 q54))] [.int (a1 + 1), .int 0, .ref 0] ([kReader 0 1 6 v0, kTape 1 (Tape_at_s v1 q55), kTown 6 14 v2, kLaws 14 v3] : List (List zE)).flatten) ∧ ((q1 = 147) → AW Z 0 0 148 [some (.ref 0), some (.int a1), some (.ref 1), some (.ref 14), some (.int q1), some (.int z5), some (.int (Int64.toInt32 q54))] [.int (a1 + 1), .ref 0] ([kReader 0 1 6 v0, kTape 1 (Tape_at_s v1 q55), kTown 6 14 v2, kLaws 14 v3] : List (List zE)).flatten))) ∧ (¬ (z5 = 0) → AW Z 0 0 130 [some (.ref 0), some (.int a1), some (.ref 1), some (.ref 14), some (.int q1), some (.int z5), some (.int (Int64.toInt32 q54))] [.int ((-1) - (q1 - 150)), .ref 14] ([kReader 0 1 6 v0, kTape 1 (Tape_at_s v1 q55), kTown 6 14 v2, kLaws 14 v3] : List (List zE)).flatten))) ∧ ((q1 = 2) → AW Z 0 0 110 [some (.ref 0), some (.int a1), some (.ref 1), some (.ref 14), some (.int q1), some (.int z5), some (.int (Int64.toInt32 q54))] [.int (Int64.toInt32 q54), .ref 14] ([kReader 0 1 6 v0, kTape 1 (Tape_at_s v1 q55), kTown 6 14 v2, kLaws 14 v3] : List (List zE)).flatten))
          refine ⟨fun c56 => ?_, fun c56 => ?_⟩
          · rw [if_neg c56] at hf
            refine ⟨fun c57 => ?_, fun c57 => ?_⟩
            · rw [if_pos c57] at hf
              refine ⟨fun c58 => ?_, fun c58 => ?_⟩
              · rw [if_neg c58] at hf
                obtain ⟨q59, h62, hf⟩ := zbind hf
                refine AW.callSc hZ hR hN (hr_f_Reader_readJoined v0 (Tape_at_s v1 q55) v2 v3 0 (a1 + 1) q59 h62) zMX9_readJoined_ok rfl rfl zK_BorrowedLives_TownReader_147 zV_X9_readJoined rfl [1, 5, 8, 6] [0, 1, 2, 3] [0, 1, 2, 3, 4, 5, 6, 7, 8, 9, 10, 11, 12, 13, 14, 15, 16, 17, 18, 19] rfl rfl rfl (by decide) (by decide) (by omega) (by decide) (Nat.zero_le _) (Nat.zero_le _) rfl rfl ?_
                rintro v cc ⟨rfl, rfl⟩
                refine ⟨_, rfl, rfl, ?_⟩
                show AW Z 0 0 169 [some (.ref 0), some (.int a1), some (.ref 1), some (.ref 14), some (.int q1), some (.int z5), some (.int (Int64.toInt32 q54))] [] ([kReader 0 1 6 v0, kTape 1 (Tape_s_at_fault v1 q59.1 q59.2.1), kTown 6 14 v2, kLaws 14 (Laws_s_codes_size v3 q59.2.2.1 q59.2.2.2)] : List (List zE)).flatten
                refine AW.run hZ hRm [172] 400 ?_
                show AW Z 0 0 172 [some (.ref 0), some (.int a1), some (.ref 1), some (.ref 14), some (.int q1), some (.int z5), some (.int (Int64.toInt32 q54))] [.int 41, .ref 1] ([kReader 0 1 6 v0, kTape 1 (Tape_s_at_fault v1 q59.1 q59.2.1), kTown 6 14 v2, kLaws 14 (Laws_s_codes_size v3 q59.2.2.1 q59.2.2.2)] : List (List zE)).flatten
                obtain ⟨q60, h61, hf⟩ := zbind hf
                refine AW.callVc hZ hR hN (c_Tape_expect N (Tape_s_at_fault v1 q59.1 q59.2.1) 41 q60 h61) zMX7_expect_ok rfl rfl zK_BorrowedLives_TownReader_66 zV_X7_expect rfl [1, 5, 8, 6] [1] [1, 2, 3, 4, 5] rfl rfl rfl (by decide) (by decide) (by omega) (by decide) (Nat.zero_le _) (Nat.zero_le _) rfl rfl rfl rfl rfl ?_
                rintro v cc ⟨rfl, rfl⟩
                refine ⟨_, rfl, rfl, ?_⟩
                show AW Z 0 0 175 [some (.ref 0), some (.int a1), some (.ref 1), some (.ref 14), some (.int q1), some (.int z5), some (.int (Int64.toInt32 q54))] [] ([kReader 0 1 6 v0, kTape 1 (Tape_s_at_fault v1 q60.1 q60.2), kTown 6 14 v2, kLaws 14 (Laws_s_codes_size v3 q59.2.2.1 q59.2.2.2)] : List (List zE)).flatten
                cases hf
                exact AW.vret hZ hE rfl rfl rfl (Nat.le_refl 0) (Nat.le_refl 0) rfl ⟨rfl, rfl⟩
              · rw [if_pos c58] at hf
                obtain ⟨q63, h66, hf⟩ := zbind hf
                refine AW.callSc hZ hR hN (hr_f_Reader_readPart v0 (Tape_at_s v1 q55) v2 v3 (a1 + 1) q63 h66) zMX9_readPart_ok rfl rfl zK_BorrowedLives_TownReader_154 zV_X9_readPart rfl [1, 5, 8, 6] [0, 1, 2, 3] [0, 1, 2, 3, 4, 5, 6, 7, 8, 9, 10, 11, 12, 13, 14, 15, 16, 17, 18, 19] rfl rfl rfl (by decide) (by decide) (by omega) (by decide) (Nat.zero_le _) (Nat.zero_le _) rfl rfl ?_
                rintro v cc ⟨rfl, rfl⟩
                refine ⟨_, rfl, rfl, ?_⟩
                show AW Z 0 0 151 [some (.ref 0), some (.int a1), some (.ref 1), some (.ref 14), some (.int q1), some (.int z5), some (.int (Int64.toInt32 q54))] [] ([kReader 0 1 6 v0, kTape 1 (Tape_s_at_fault v1 q63.1 q63.2.1), kTown 6 14 v2, kLaws 14 (Laws_s_codes_size v3 q63.2.2.1 q63.2.2.2)] : List (List zE)).flatten
                refine AW.run hZ hRm [155] 400 ?_
                show AW Z 0 0 155 [some (.ref 0), some (.int a1), some (.ref 1), some (.ref 14), some (.int q1), some (.int z5), some (.int (Int64.toInt32 q54))] [.int (-147), .ref 14] ([kReader 0 1 6 v0, kTape 1 (Tape_s_at_fault v1 q63.1 q63.2.1), kTown 6 14 v2, kLaws 14 (Laws_s_codes_size v3 q63.2.2.1 q63.2.2.2)] : List (List zE)).flatten
                obtain ⟨q64, h65, hf⟩ := zbind hf
                refine AW.callVc hZ hR hN (c_Laws_addCode N (Laws_s_codes_size v3 q63.2.2.1 q63.2.2.2) (-147) q64 h65) zMX2_addCode_ok rfl rfl zK_BorrowedLives_TownReader_161 zV_X2_addCode rfl [1, 5, 8, 6] [3] [14, 15, 16, 17, 18, 19] rfl rfl rfl (by decide) (by decide) (by omega) (by decide) (Nat.zero_le _) (Nat.zero_le _) rfl rfl rfl rfl rfl ?_
                rintro v cc ⟨rfl, rfl⟩
                refine ⟨_, rfl, rfl, ?_⟩
                show AW Z 0 0 158 [some (.ref 0), some (.int a1), some (.ref 1), some (.ref 14), some (.int q1), some (.int z5), some (.int (Int64.toInt32 q54))] [] ([kReader 0 1 6 v0, kTape 1 (Tape_s_at_fault v1 q63.1 q63.2.1), kTown 6 14 v2, kLaws 14 (Laws_s_codes_size v3 q64.1 q64.2)] : List (List zE)).flatten
                refine AW.run hZ hRm [175] 400 ?_
                show AW Z 0 0 175 [some (.ref 0), some (.int a1), some (.ref 1), some (.ref 14), some (.int q1), some (.int z5), some (.int (Int64.toInt32 q54))] [] ([kReader 0 1 6 v0, kTape 1 (Tape_s_at_fault v1 q63.1 q63.2.1), kTown 6 14 v2, kLaws 14 (Laws_s_codes_size v3 q64.1 q64.2)] : List (List zE)).flatten
                cases hf
                exact AW.vret hZ hE rfl rfl rfl (Nat.le_refl 0) (Nat.le_refl 0) rfl ⟨rfl, rfl⟩
            · rw [if_neg c57] at hf
              obtain ⟨q67, h68, hf⟩ := zbind hf
              refine AW.callVc hZ hR hN (c_Laws_addCode N v3 ((-1) - (q1 - 150)) q67 h68) zMX2_addCode_ok rfl rfl zK_BorrowedLives_TownReader_161 zV_X2_addCode rfl [1, 5, 8, 6] [3] [14, 15, 16, 17, 18, 19] rfl rfl rfl (by decide) (by decide) (by omega) (by decide) (Nat.zero_le _) (Nat.zero_le _) rfl rfl rfl rfl rfl ?_
              rintro v cc ⟨rfl, rfl⟩
              refine ⟨_, rfl, rfl, ?_⟩
              show AW Z 0 0 133 [some (.ref 0), some (.int a1), some (.ref 1), some (.ref 14), some (.int q1), some (.int z5), some (.int (Int64.toInt32 q54))] [] ([kReader 0 1 6 v0, kTape 1 (Tape_at_s v1 q55), kTown 6 14 v2, kLaws 14 (Laws_s_codes_size v3 q67.1 q67.2)] : List (List zE)).flatten
              refine AW.run hZ hRm [175] 400 ?_
              show AW Z 0 0 175 [some (.ref 0), some (.int a1), some (.ref 1), some (.ref 14), some (.int q1), some (.int z5), some (.int (Int64.toInt32 q54))] [] ([kReader 0 1 6 v0, kTape 1 (Tape_at_s v1 q55), kTown 6 14 v2, kLaws 14 (Laws_s_codes_size v3 q67.1 q67.2)] : List (List zE)).flatten
              cases hf
              exact AW.vret hZ hE rfl rfl rfl (Nat.le_refl 0) (Nat.le_refl 0) rfl ⟨rfl, rfl⟩
          · rw [if_pos c56] at hf
            obtain ⟨q69, h70, hf⟩ := zbind hf
            refine AW.callVc hZ hR hN (c_Laws_addCode N v3 (Int64.toInt32 q54) q69 h70) zMX2_addCode_ok rfl rfl zK_BorrowedLives_TownReader_161 zV_X2_addCode rfl [1, 5, 8, 6] [3] [14, 15, 16, 17, 18, 19] rfl rfl rfl (by decide) (by decide) (by omega) (by decide) (Nat.zero_le _) (Nat.zero_le _) rfl rfl rfl rfl rfl ?_
            rintro v cc ⟨rfl, rfl⟩
            refine ⟨_, rfl, rfl, ?_⟩
            show AW Z 0 0 113 [some (.ref 0), some (.int a1), some (.ref 1), some (.ref 14), some (.int q1), some (.int z5), some (.int (Int64.toInt32 q54))] [] ([kReader 0 1 6 v0, kTape 1 (Tape_at_s v1 q55), kTown 6 14 v2, kLaws 14 (Laws_s_codes_size v3 q69.1 q69.2)] : List (List zE)).flatten
            refine AW.run hZ hRm [175] 400 ?_
            show AW Z 0 0 175 [some (.ref 0), some (.int a1), some (.ref 1), some (.ref 14), some (.int q1), some (.int z5), some (.int (Int64.toInt32 q54))] [] ([kReader 0 1 6 v0, kTape 1 (Tape_at_s v1 q55), kTown 6 14 v2, kLaws 14 (Laws_s_codes_size v3 q69.1 q69.2)] : List (List zE)).flatten
            cases hf
            exact AW.vret hZ hE rfl rfl rfl (Nat.le_refl 0) (Nat.le_refl 0) rfl ⟨rfl, rfl⟩
        · rw [if_neg c53] at hf
          obtain ⟨q73, h74, hf⟩ := zbind hf
          refine AW.callVc hZ hR hN (c_Tape_wrong N v1 5 q73 h74) zMX7_wrong_ok rfl rfl zK_BorrowedLives_TownReader_63 zV_X7_wrong rfl [1, 5, 8, 6] [1] [1, 2, 3, 4, 5] rfl rfl rfl (by decide) (by decide) (by omega) (by decide) (Nat.zero_le _) (Nat.zero_le _) rfl rfl rfl rfl rfl ?_
          rintro v cc ⟨rfl, rfl⟩
          refine ⟨_, rfl, rfl, ?_⟩
          show AW Z 0 0 89 [some (.ref 0), some (.int a1), some (.ref 1), some (.ref 14), some (.int q1), some (.int z5), none] [] ([kReader 0 1 6 v0, kTape 1 (Tape_fault_s v1 q73), kTown 6 14 v2, kLaws 14 v3] : List (List zE)).flatten
          cases hf
          exact AW.vret hZ hE rfl rfl rfl (Nat.le_refl 0) (Nat.le_refl 0) rfl ⟨rfl, rfl⟩
      · rw [if_neg c52] at hf
        refine ⟨fun c75 => ?_, fun c75 => ?_⟩
        · rw [if_neg c75] at hf
          refine ⟨fun c76 => ?_, fun c76 => ?_⟩
          · rw [if_pos c76] at hf
            obtain ⟨q77, h95, hf⟩ := zbind hf
            refine AW.callVc hZ hR hN (c_Tape_value N v1 q77 h95) zMX7_value_ok rfl rfl zK_BorrowedLives_TownReader_104 zV_X7_value rfl [1, 5, 8, 6] [1] [1, 2, 3, 4, 5] rfl rfl rfl (by decide) (by decide) (by omega) (by decide) (Nat.zero_le _) (Nat.zero_le _) rfl rfl rfl rfl rfl ?_
            rintro v cc ⟨rfl, rfl⟩
            refine ⟨_, rfl, rfl, ?_⟩
            show AW Z 0 0 94 [some (.ref 0), some (.int a1), some (.ref 1), some (.ref 14), some (.int q1), some (.int z5), none] [.long q77] ([kReader 0 1 6 v0, kTape 1 v1, kTown 6 14 v2, kLaws 14 v3] : List (List zE)).flatten
            refine AW.run hZ hRm [98] 400 ?_
            show AW Z 0 0 98 [some (.ref 0), some (.int a1), some (.ref 1), some (.ref 14), some (.int q1), some (.int z5), some (.int (Int64.toInt32 q77))] [.ref 1] ([kReader 0 1 6 v0, kTape 1 v1, kTown 6 14 v2, kLaws 14 v3] : List (List zE)).flatten
            obtain ⟨q78, h94, hf⟩ := zbind hf
            refine AW.callVc hZ hR hN (c_Tape_advance N v1 q78 h94) zMX7_advance_ok rfl rfl zK_BorrowedLives_TownReader_72 zV_X7_advance rfl [1, 5, 8, 6] [1] [1, 2, 3, 4, 5] rfl rfl rfl (by decide) (by decide) (by omega) (by decide) (Nat.zero_le _) (Nat.zero_le _) rfl rfl rfl rfl rfl ?_
            rintro v cc ⟨rfl, rfl⟩
            refine ⟨_, rfl, rfl, ?_⟩
            show AW Z 0 0 101 [some (.ref 0), some (.int a1), some (.ref 1), some (.ref 14), some (.int q1), some (.int z5), some (.int (Int64.toInt32 q77))] [] ([kReader 0 1 6 v0, kTape 1 (Tape_at_s v1 q78), kTown 6 14 v2, kLaws 14 v3] : List (List zE)).flatten
            refine AW.run hZ hRm [110, 130, 148, 166] 400 ?_
            show ((¬ (q1 = 2) → (((z5 = 0) → ((¬ (q1 = 147) → AW Z 0 0 166 [some (.ref 0), some (.int a1), some (.ref 1), some (.ref 14), some (.int q1), some (.int z5), some (.int (Int64.toInt32 q77))] [.int (a1 + 1), .int 0, .ref 0] ([kReader 0 1 6 v0, kTape 1 (Tape_at_s v1 q78), kTown 6 14 v2, kLaws 14 v3] : List (List zE)).flatten) ∧ ((q1 = 147) → AW Z 0 0 148 [some (.ref 0), some (.int a1), some (.ref 1), some (.ref 14), some (.int q1), some (.int z5), some (.int (Int64.toInt32 q77))] [.int (a1 + 1), .ref 0] ([kReader 0 1 6 v0, kTape 1 (Tape_at_s v1 q78), kTown 6 14 v2, kLaws 14 v3] : List (List zE)).flatten))) ∧ (¬ (z5 = 0) → AW Z 0 0 130 [some (.ref 0), some (.int a1), some (.ref 1), some (.ref 14), some (.int q1), some (.int z5), some (.int (Int64.toInt32 q77))] [.int ((-1) - (q1 - 150)), .ref 14] ([kReader 0 1 6 v0, kTape 1 (Tape_at_s v1 q78), kTown 6 14 v2, kLaws 14 v3] : List (List zE)).flatten))) ∧ ((q1 = 2) → AW Z 0 0 110 [some (.ref 0), some (.int a1), some (.ref 1), some (.ref 14), some (.int q1), some (.int z5), some (.int (Int64.toInt32 q77))] [.int (Int64.toInt32 q77), .ref 14] ([kReader 0 1 6 v0, kTape 1 (Tape_at_s v1 q78), kTown 6 14 v2, kLaws 14 v3] : List (List zE)).flatten))
            refine ⟨fun c79 => ?_, fun c79 => ?_⟩
            · rw [if_neg c79] at hf
              refine ⟨fun c80 => ?_, fun c80 => ?_⟩
              · rw [if_pos c80] at hf
                refine ⟨fun c81 => ?_, fun c81 => ?_⟩
                · rw [if_neg c81] at hf
                  obtain ⟨q82, h85, hf⟩ := zbind hf
                  refine AW.callSc hZ hR hN (hr_f_Reader_readJoined v0 (Tape_at_s v1 q78) v2 v3 0 (a1 + 1) q82 h85) zMX9_readJoined_ok rfl rfl zK_BorrowedLives_TownReader_147 zV_X9_readJoined rfl [1, 5, 8, 6] [0, 1, 2, 3] [0, 1, 2, 3, 4, 5, 6, 7, 8, 9, 10, 11, 12, 13, 14, 15, 16, 17, 18, 19] rfl rfl rfl (by decide) (by decide) (by omega) (by decide) (Nat.zero_le _) (Nat.zero_le _) rfl rfl ?_
                  rintro v cc ⟨rfl, rfl⟩
                  refine ⟨_, rfl, rfl, ?_⟩
                  show AW Z 0 0 169 [some (.ref 0), some (.int a1), some (.ref 1), some (.ref 14), some (.int q1), some (.int z5), some (.int (Int64.toInt32 q77))] [] ([kReader 0 1 6 v0, kTape 1 (Tape_s_at_fault v1 q82.1 q82.2.1), kTown 6 14 v2, kLaws 14 (Laws_s_codes_size v3 q82.2.2.1 q82.2.2.2)] : List (List zE)).flatten
                  refine AW.run hZ hRm [172] 400 ?_
                  show AW Z 0 0 172 [some (.ref 0), some (.int a1), some (.ref 1), some (.ref 14), some (.int q1), some (.int z5), some (.int (Int64.toInt32 q77))] [.int 41, .ref 1] ([kReader 0 1 6 v0, kTape 1 (Tape_s_at_fault v1 q82.1 q82.2.1), kTown 6 14 v2, kLaws 14 (Laws_s_codes_size v3 q82.2.2.1 q82.2.2.2)] : List (List zE)).flatten
                  obtain ⟨q83, h84, hf⟩ := zbind hf
                  refine AW.callVc hZ hR hN (c_Tape_expect N (Tape_s_at_fault v1 q82.1 q82.2.1) 41 q83 h84) zMX7_expect_ok rfl rfl zK_BorrowedLives_TownReader_66 zV_X7_expect rfl [1, 5, 8, 6] [1] [1, 2, 3, 4, 5] rfl rfl rfl (by decide) (by decide) (by omega) (by decide) (Nat.zero_le _) (Nat.zero_le _) rfl rfl rfl rfl rfl ?_
                  rintro v cc ⟨rfl, rfl⟩
                  refine ⟨_, rfl, rfl, ?_⟩
                  show AW Z 0 0 175 [some (.ref 0), some (.int a1), some (.ref 1), some (.ref 14), some (.int q1), some (.int z5), some (.int (Int64.toInt32 q77))] [] ([kReader 0 1 6 v0, kTape 1 (Tape_s_at_fault v1 q83.1 q83.2), kTown 6 14 v2, kLaws 14 (Laws_s_codes_size v3 q82.2.2.1 q82.2.2.2)] : List (List zE)).flatten
                  cases hf
                  exact AW.vret hZ hE rfl rfl rfl (Nat.le_refl 0) (Nat.le_refl 0) rfl ⟨rfl, rfl⟩
                · rw [if_pos c81] at hf
                  obtain ⟨q86, h89, hf⟩ := zbind hf
                  refine AW.callSc hZ hR hN (hr_f_Reader_readPart v0 (Tape_at_s v1 q78) v2 v3 (a1 + 1) q86 h89) zMX9_readPart_ok rfl rfl zK_BorrowedLives_TownReader_154 zV_X9_readPart rfl [1, 5, 8, 6] [0, 1, 2, 3] [0, 1, 2, 3, 4, 5, 6, 7, 8, 9, 10, 11, 12, 13, 14, 15, 16, 17, 18, 19] rfl rfl rfl (by decide) (by decide) (by omega) (by decide) (Nat.zero_le _) (Nat.zero_le _) rfl rfl ?_
                  rintro v cc ⟨rfl, rfl⟩
                  refine ⟨_, rfl, rfl, ?_⟩
                  show AW Z 0 0 151 [some (.ref 0), some (.int a1), some (.ref 1), some (.ref 14), some (.int q1), some (.int z5), some (.int (Int64.toInt32 q77))] [] ([kReader 0 1 6 v0, kTape 1 (Tape_s_at_fault v1 q86.1 q86.2.1), kTown 6 14 v2, kLaws 14 (Laws_s_codes_size v3 q86.2.2.1 q86.2.2.2)] : List (List zE)).flatten
                  refine AW.run hZ hRm [155] 400 ?_
                  show AW Z 0 0 155 [some (.ref 0), some (.int a1), some (.ref 1), some (.ref 14), some (.int q1), some (.int z5), some (.int (Int64.toInt32 q77))] [.int (-147), .ref 14] ([kReader 0 1 6 v0, kTape 1 (Tape_s_at_fault v1 q86.1 q86.2.1), kTown 6 14 v2, kLaws 14 (Laws_s_codes_size v3 q86.2.2.1 q86.2.2.2)] : List (List zE)).flatten
                  obtain ⟨q87, h88, hf⟩ := zbind hf
                  refine AW.callVc hZ hR hN (c_Laws_addCode N (Laws_s_codes_size v3 q86.2.2.1 q86.2.2.2) (-147) q87 h88) zMX2_addCode_ok rfl rfl zK_BorrowedLives_TownReader_161 zV_X2_addCode rfl [1, 5, 8, 6] [3] [14, 15, 16, 17, 18, 19] rfl rfl rfl (by decide) (by decide) (by omega) (by decide) (Nat.zero_le _) (Nat.zero_le _) rfl rfl rfl rfl rfl ?_
                  rintro v cc ⟨rfl, rfl⟩
                  refine ⟨_, rfl, rfl, ?_⟩
                  show AW Z 0 0 158 [some (.ref 0), some (.int a1), some (.ref 1), some (.ref 14), some (.int q1), some (.int z5), some (.int (Int64.toInt32 q77))] [] ([kReader 0 1 6 v0, kTape 1 (Tape_s_at_fault v1 q86.1 q86.2.1), kTown 6 14 v2, kLaws 14 (Laws_s_codes_size v3 q87.1 q87.2)] : List (List zE)).flatten
                  refine AW.run hZ hRm [175] 400 ?_
                  show AW Z 0 0 175 [some (.ref 0), some (.int a1), some (.ref 1), some (.ref 14), some (.int q1), some (.int z5), some (.int (Int64.toInt32 q77))] [] ([kReader 0 1 6 v0, kTape 1 (Tape_s_at_fault v1 q86.1 q86.2.1), kTown 6 14 v2, kLaws 14 (Laws_s_codes_size v3 q87.1 q87.2)] : List (List zE)).flatten
                  cases hf
                  exact AW.vret hZ hE rfl rfl rfl (Nat.le_refl 0) (Nat.le_refl 0) rfl ⟨rfl, rfl⟩
              · rw [if_neg c80] at hf
                obtain ⟨q90, h91, hf⟩ := zbind hf
                refine AW.callVc hZ hR hN (c_Laws_addCode N v3 ((-1) - (q1 - 150)) q90 h91) zMX2_addCode_ok rfl rfl zK_BorrowedLives_TownReader_161 zV_X2_addCode rfl [1, 5, 8, 6] [3] [14, 15, 16, 17, 18, 19] rfl rfl rfl (by decide) (by decide) (by omega) (by decide) (Nat.zero_le _) (Nat.zero_le _) rfl rfl rfl rfl rfl ?_
                rintro v cc ⟨rfl, rfl⟩
                refine ⟨_, rfl, rfl, ?_⟩
                show AW Z 0 0 133 [some (.ref 0), some (.int a1), some (.ref 1), some (.ref 14), some (.int q1), some (.int z5), some (.int (Int64.toInt32 q77))] [] ([kReader 0 1 6 v0, kTape 1 (Tape_at_s v1 q78), kTown 6 14 v2, kLaws 14 (Laws_s_codes_size v3 q90.1 q90.2)] : List (List zE)).flatten
                refine AW.run hZ hRm [175] 400 ?_
                show AW Z 0 0 175 [some (.ref 0), some (.int a1), some (.ref 1), some (.ref 14), some (.int q1), some (.int z5), some (.int (Int64.toInt32 q77))] [] ([kReader 0 1 6 v0, kTape 1 (Tape_at_s v1 q78), kTown 6 14 v2, kLaws 14 (Laws_s_codes_size v3 q90.1 q90.2)] : List (List zE)).flatten
                cases hf
                exact AW.vret hZ hE rfl rfl rfl (Nat.le_refl 0) (Nat.le_refl 0) rfl ⟨rfl, rfl⟩
            · rw [if_pos c79] at hf
              obtain ⟨q92, h93, hf⟩ := zbind hf
              refine AW.callVc hZ hR hN (c_Laws_addCode N v3 (Int64.toInt32 q77) q92 h93) zMX2_addCode_ok rfl rfl zK_BorrowedLives_TownReader_161 zV_X2_addCode rfl [1, 5, 8, 6] [3] [14, 15, 16, 17, 18, 19] rfl rfl rfl (by decide) (by decide) (by omega) (by decide) (Nat.zero_le _) (Nat.zero_le _) rfl rfl rfl rfl rfl ?_
              rintro v cc ⟨rfl, rfl⟩
              refine ⟨_, rfl, rfl, ?_⟩
              show AW Z 0 0 113 [some (.ref 0), some (.int a1), some (.ref 1), some (.ref 14), some (.int q1), some (.int z5), some (.int (Int64.toInt32 q77))] [] ([kReader 0 1 6 v0, kTape 1 (Tape_at_s v1 q78), kTown 6 14 v2, kLaws 14 (Laws_s_codes_size v3 q92.1 q92.2)] : List (List zE)).flatten
              refine AW.run hZ hRm [175] 400 ?_
              show AW Z 0 0 175 [some (.ref 0), some (.int a1), some (.ref 1), some (.ref 14), some (.int q1), some (.int z5), some (.int (Int64.toInt32 q77))] [] ([kReader 0 1 6 v0, kTape 1 (Tape_at_s v1 q78), kTown 6 14 v2, kLaws 14 (Laws_s_codes_size v3 q92.1 q92.2)] : List (List zE)).flatten
              cases hf
              exact AW.vret hZ hE rfl rfl rfl (Nat.le_refl 0) (Nat.le_refl 0) rfl ⟨rfl, rfl⟩
          · rw [if_neg c76] at hf
            obtain ⟨q96, h97, hf⟩ := zbind hf
            refine AW.callVc hZ hR hN (c_Tape_wrong N v1 5 q96 h97) zMX7_wrong_ok rfl rfl zK_BorrowedLives_TownReader_63 zV_X7_wrong rfl [1, 5, 8, 6] [1] [1, 2, 3, 4, 5] rfl rfl rfl (by decide) (by decide) (by omega) (by decide) (Nat.zero_le _) (Nat.zero_le _) rfl rfl rfl rfl rfl ?_
            rintro v cc ⟨rfl, rfl⟩
            refine ⟨_, rfl, rfl, ?_⟩
            show AW Z 0 0 89 [some (.ref 0), some (.int a1), some (.ref 1), some (.ref 14), some (.int q1), some (.int z5), none] [] ([kReader 0 1 6 v0, kTape 1 (Tape_fault_s v1 q96), kTown 6 14 v2, kLaws 14 v3] : List (List zE)).flatten
            cases hf
            exact AW.vret hZ hE rfl rfl rfl (Nat.le_refl 0) (Nat.le_refl 0) rfl ⟨rfl, rfl⟩
        · rw [if_pos c75] at hf
          obtain ⟨q98, h99, hf⟩ := zbind hf
          refine AW.callVc hZ hR hN (c_Tape_wrong N v1 1 q98 h99) zMX7_wrong_ok rfl rfl zK_BorrowedLives_TownReader_63 zV_X7_wrong rfl [1, 5, 8, 6] [1] [1, 2, 3, 4, 5] rfl rfl rfl (by decide) (by decide) (by omega) (by decide) (Nat.zero_le _) (Nat.zero_le _) rfl rfl rfl rfl rfl ?_
          rintro v cc ⟨rfl, rfl⟩
          refine ⟨_, rfl, rfl, ?_⟩
          show AW Z 0 0 78 [some (.ref 0), some (.int a1), some (.ref 1), some (.ref 14), some (.int q1), some (.int z5), none] [] ([kReader 0 1 6 v0, kTape 1 (Tape_fault_s v1 q98), kTown 6 14 v2, kLaws 14 v3] : List (List zE)).flatten
          cases hf
          exact AW.vret hZ hE rfl rfl rfl (Nat.le_refl 0) (Nat.le_refl 0) rfl ⟨rfl, rfl⟩
set_option maxRecDepth 20000 in
set_option maxHeartbeats 4000000 in
theorem c_Reader_readJoined_L35 {r_f_Reader_readPart : (VReader → VTape → VTown → VLaws → Int32 → Option (Int32 × Int32 × (Nat → Int32) × Int32))} {r_f_Reader_readJoined : (VReader → VTape → VTown → VLaws → Int32 → Int32 → Option (Int32 × Int32 × (Nat → Int32) × Int32))} {e : Nat} {Z : zCtx} {D n0w nf mcw msw : Nat} (hZ : zOk Z zMX9_readJoined) (hR : zCan Z D mcw msw) (hDd : e + 3 ≤ D) (hN : zNew Z n0w nf) (hRm : zRoom Z 0 0) (hr_f_Reader_readPart : ∀ (v0 : VReader) (v1 : VTape) (v2 : VTown) (v3 : VLaws) (a1 : Int32) (R : Int32 × Int32 × (Nat → Int32) × Int32), r_f_Reader_readPart v0 v1 v2 v3 a1 = some R → Ct zMX9_readPart (e + 2) 0 0 0 [.ref 0, .int a1] ([kReader 0 1 6 v0, kTape 1 v1, kTown 6 14 v2, kLaws 14 v3] : List (List zE)).flatten (fun v cc => v = none ∧ cc = ([kReader 0 1 6 v0, kTape 1 (Tape_s_at_fault v1 R.1 R.2.1), kTown 6 14 v2, kLaws 14 (Laws_s_codes_size v3 R.2.2.1 R.2.2.2)] : List (List zE)).flatten)) (hr_f_Reader_readJoined : ∀ (v0 : VReader) (v1 : VTape) (v2 : VTown) (v3 : VLaws) (a1 : Int32) (a2 : Int32) (R : Int32 × Int32 × (Nat → Int32) × Int32), r_f_Reader_readJoined v0 v1 v2 v3 a1 a2 = some R → Ct zMX9_readJoined (e + 2) 0 0 0 [.ref 0, .int a1, .int a2] ([kReader 0 1 6 v0, kTape 1 v1, kTown 6 14 v2, kLaws 14 v3] : List (List zE)).flatten (fun v cc => v = none ∧ cc = ([kReader 0 1 6 v0, kTape 1 (Tape_s_at_fault v1 R.1 R.2.1), kTown 6 14 v2, kLaws 14 (Laws_s_codes_size v3 R.2.2.1 R.2.2.2)] : List (List zE)).flatten)) (N : Nat) : ∀ (fuel : Nat) (v0 : VReader) (v1 : VTape) (v2 : VTown) (v3 : VLaws) (y1 : Int32) (y2 : Int32) (y3 : Int32) (x4 : Int32) (m_at0 : Int32) (m_fault1 : Int32) (m_codes2 : (Nat → Int32)) (m_size3 : Int32) (q : (Int32 × Int32 × (Nat → Int32) × Int32)), f_Reader_readJoined_L35 r_f_Reader_readPart r_f_Reader_readJoined N fuel v0 v1 v2 v3 y1 y2 y3 x4 m_at0 m_fault1 m_codes2 m_size3 = some q → (AW Z 0 0 98 [none, none, none, none, none, none] [] ([kReader 0 1 6 v0, kTape 1 (Tape_s_at_fault v1 q.1 q.2.1), kTown 6 14 v2, kLaws 14 (Laws_s_codes_size v3 q.2.2.1 q.2.2.2)] : List (List zE)).flatten) → AW Z 0 0 35 [some (.ref 0), some (.int y1), some (.int y2), some (.int y3), some (.int x4), none] [] ([kReader 0 1 6 v0, kTape 1 (Tape_s_at_fault v1 m_at0 m_fault1), kTown 6 14 v2, kLaws 14 (Laws_s_codes_size v3 m_codes2 m_size3)] : List (List zE)).flatten := by
  intro fuel
  induction fuel with
  | zero =>
    intro v0 v1 v2 v3 y1 y2 y3 x4 m_at0 m_fault1 m_codes2 m_size3 q hf hk0
    simp [f_Reader_readJoined_L35] at hf
  | succ fuel ih =>
    intro v0 v1 v2 v3 y1 y2 y3 x4 m_at0 m_fault1 m_codes2 m_size3 q hf hk0
    rw [f_Reader_readJoined_L35] at hf
    refine AW.run hZ hRm [45, 98] 400 ?_
    show (((y3 ≤ x4) → AW Z 0 0 98 [some (.ref 0), some (.int y1), some (.int y2), some (.int y3), some (.int x4), none] [] ([kReader 0 1 6 v0, kTape 1 (Tape_s_at_fault v1 m_at0 m_fault1), kTown 6 14 v2, kLaws 14 (Laws_s_codes_size v3 m_codes2 m_size3)] : List (List zE)).flatten) ∧ (¬ (y3 ≤ x4) → AW Z 0 0 45 [some (.ref 0), some (.int y1), some (.int y2), some (.int y3), some (.int x4), none] [.ref 1] ([kReader 0 1 6 v0, kTape 1 (Tape_s_at_fault v1 m_at0 m_fault1), kTown 6 14 v2, kLaws 14 (Laws_s_codes_size v3 m_codes2 m_size3)] : List (List zE)).flatten))
    refine ⟨fun c5 => ?_, fun c5 => ?_⟩
    · rw [if_pos c5] at hf
      cases hf
      refine AW.forget [false, false, false, false, false, false] ?_
      show AW Z 0 0 98 [none, none, none, none, none, none] [] ([kReader 0 1 6 v0, kTape 1 (Tape_s_at_fault v1 m_at0 m_fault1), kTown 6 14 v2, kLaws 14 (Laws_s_codes_size v3 m_codes2 m_size3)] : List (List zE)).flatten
      exact hk0
    · rw [if_neg c5] at hf
      obtain ⟨q6, h18, hf⟩ := zbind hf
      refine AW.callVc hZ hR hN (c_Tape_token N (Tape_s_at_fault v1 m_at0 m_fault1) q6 h18) zMX7_token_ok rfl rfl zK_BorrowedLives_TownReader_46 zV_X7_token rfl [1, 5, 8, 6] [1] [1, 2, 3, 4, 5] rfl rfl rfl (by decide) (by decide) (by omega) (by decide) (Nat.zero_le _) (Nat.zero_le _) rfl rfl rfl rfl rfl ?_
      rintro v cc ⟨rfl, rfl⟩
      refine ⟨_, rfl, rfl, ?_⟩
      show AW Z 0 0 48 [some (.ref 0), some (.int y1), some (.int y2), some (.int y3), some (.int x4), none] [.int q6] ([kReader 0 1 6 v0, kTape 1 (Tape_s_at_fault v1 m_at0 m_fault1), kTown 6 14 v2, kLaws 14 (Laws_s_codes_size v3 m_codes2 m_size3)] : List (List zE)).flatten
      obtain ⟨q7, h17, hf⟩ := zbind hf
      refine AW.callSc hZ hR hN (c_Reader_levelOf N q6 q7 h17) zMX9_levelOf_ok rfl rfl zK_BorrowedLives_TownReader_158 zV_X9_levelOf rfl [1, 5, 8, 6] [] [] rfl rfl rfl (by decide) (by decide) (by omega) (by decide) (Nat.zero_le _) (Nat.zero_le _) rfl rfl ?_
      rintro v cc ⟨rfl, rfl⟩
      refine ⟨_, rfl, rfl, ?_⟩
      show AW Z 0 0 51 [some (.ref 0), some (.int y1), some (.int y2), some (.int y3), some (.int x4), none] [.int q7] ([kReader 0 1 6 v0, kTape 1 (Tape_s_at_fault v1 m_at0 m_fault1), kTown 6 14 v2, kLaws 14 (Laws_s_codes_size v3 m_codes2 m_size3)] : List (List zE)).flatten
      refine AW.run hZ hRm [59, 98] 400 ?_
      show ((¬ (q7 = y1) → AW Z 0 0 98 [some (.ref 0), some (.int y1), some (.int y2), some (.int y3), some (.int x4), none] [] ([kReader 0 1 6 v0, kTape 1 (Tape_s_at_fault v1 m_at0 m_fault1), kTown 6 14 v2, kLaws 14 (Laws_s_codes_size v3 m_codes2 m_size3)] : List (List zE)).flatten) ∧ ((q7 = y1) → AW Z 0 0 59 [some (.ref 0), some (.int y1), some (.int y2), some (.int y3), some (.int x4), none] [.ref 1] ([kReader 0 1 6 v0, kTape 1 (Tape_s_at_fault v1 m_at0 m_fault1), kTown 6 14 v2, kLaws 14 (Laws_s_codes_size v3 m_codes2 m_size3)] : List (List zE)).flatten))
      refine ⟨fun c8 => ?_, fun c8 => ?_⟩
      · rw [if_neg c8] at hf
        cases hf
        refine AW.forget [false, false, false, false, false, false] ?_
        show AW Z 0 0 98 [none, none, none, none, none, none] [] ([kReader 0 1 6 v0, kTape 1 (Tape_s_at_fault v1 m_at0 m_fault1), kTown 6 14 v2, kLaws 14 (Laws_s_codes_size v3 m_codes2 m_size3)] : List (List zE)).flatten
        exact hk0
      · rw [if_pos c8] at hf
        obtain ⟨q9, h16, hf⟩ := zbind hf
        refine AW.callVc hZ hR hN (c_Tape_token N (Tape_s_at_fault v1 m_at0 m_fault1) q9 h16) zMX7_token_ok rfl rfl zK_BorrowedLives_TownReader_46 zV_X7_token rfl [1, 5, 8, 6] [1] [1, 2, 3, 4, 5] rfl rfl rfl (by decide) (by decide) (by omega) (by decide) (Nat.zero_le _) (Nat.zero_le _) rfl rfl rfl rfl rfl ?_
        rintro v cc ⟨rfl, rfl⟩
        refine ⟨_, rfl, rfl, ?_⟩
        show AW Z 0 0 62 [some (.ref 0), some (.int y1), some (.int y2), some (.int y3), some (.int x4), none] [.int q9] ([kReader 0 1 6 v0, kTape 1 (Tape_s_at_fault v1 m_at0 m_fault1), kTown 6 14 v2, kLaws 14 (Laws_s_codes_size v3 m_codes2 m_size3)] : List (List zE)).flatten
        refine AW.run hZ hRm [68] 400 ?_
        show AW Z 0 0 68 [some (.ref 0), some (.int y1), some (.int y2), some (.int y3), some (.int x4), some (.int q9)] [.ref 1] ([kReader 0 1 6 v0, kTape 1 (Tape_s_at_fault v1 m_at0 m_fault1), kTown 6 14 v2, kLaws 14 (Laws_s_codes_size v3 m_codes2 m_size3)] : List (List zE)).flatten
        obtain ⟨q10, h15, hf⟩ := zbind hf
        refine AW.callVc hZ hR hN (c_Tape_advance N (Tape_s_at_fault v1 m_at0 m_fault1) q10 h15) zMX7_advance_ok rfl rfl zK_BorrowedLives_TownReader_72 zV_X7_advance rfl [1, 5, 8, 6] [1] [1, 2, 3, 4, 5] rfl rfl rfl (by decide) (by decide) (by omega) (by decide) (Nat.zero_le _) (Nat.zero_le _) rfl rfl rfl rfl rfl ?_
        rintro v cc ⟨rfl, rfl⟩
        refine ⟨_, rfl, rfl, ?_⟩
        show AW Z 0 0 71 [some (.ref 0), some (.int y1), some (.int y2), some (.int y3), some (.int x4), some (.int q9)] [] ([kReader 0 1 6 v0, kTape 1 (Tape_s_at_fault v1 q10 m_fault1), kTown 6 14 v2, kLaws 14 (Laws_s_codes_size v3 m_codes2 m_size3)] : List (List zE)).flatten
        refine AW.run hZ hRm [76] 400 ?_
        show AW Z 0 0 76 [some (.ref 0), some (.int y1), some (.int y2), some (.int y3), some (.int x4), some (.int q9)] [.int y2, .int (y1 + 1), .ref 0] ([kReader 0 1 6 v0, kTape 1 (Tape_s_at_fault v1 q10 m_fault1), kTown 6 14 v2, kLaws 14 (Laws_s_codes_size v3 m_codes2 m_size3)] : List (List zE)).flatten
        obtain ⟨q11, h14, hf⟩ := zbind hf
        refine AW.callSc hZ hR hN (hr_f_Reader_readJoined v0 (Tape_s_at_fault v1 q10 m_fault1) v2 (Laws_s_codes_size v3 m_codes2 m_size3) (y1 + 1) y2 q11 h14) zMX9_readJoined_ok rfl rfl zK_BorrowedLives_TownReader_147 zV_X9_readJoined rfl [1, 5, 8, 6] [0, 1, 2, 3] [0, 1, 2, 3, 4, 5, 6, 7, 8, 9, 10, 11, 12, 13, 14, 15, 16, 17, 18, 19] rfl rfl rfl (by decide) (by decide) (by omega) (by decide) (Nat.zero_le _) (Nat.zero_le _) rfl rfl ?_
        rintro v cc ⟨rfl, rfl⟩
        refine ⟨_, rfl, rfl, ?_⟩
        show AW Z 0 0 79 [some (.ref 0), some (.int y1), some (.int y2), some (.int y3), some (.int x4), some (.int q9)] [] ([kReader 0 1 6 v0, kTape 1 (Tape_s_at_fault v1 q11.1 q11.2.1), kTown 6 14 v2, kLaws 14 (Laws_s_codes_size v3 q11.2.2.1 q11.2.2.2)] : List (List zE)).flatten
        refine AW.run hZ hRm [89] 400 ?_
        show AW Z 0 0 89 [some (.ref 0), some (.int y1), some (.int y2), some (.int y3), some (.int x4), some (.int q9)] [.int (-q9), .ref 14] ([kReader 0 1 6 v0, kTape 1 (Tape_s_at_fault v1 q11.1 q11.2.1), kTown 6 14 v2, kLaws 14 (Laws_s_codes_size v3 q11.2.2.1 q11.2.2.2)] : List (List zE)).flatten
        obtain ⟨q12, h13, hf⟩ := zbind hf
        refine AW.callVc hZ hR hN (c_Laws_addCode N (Laws_s_codes_size v3 q11.2.2.1 q11.2.2.2) (-q9) q12 h13) zMX2_addCode_ok rfl rfl zK_BorrowedLives_TownReader_161 zV_X2_addCode rfl [1, 5, 8, 6] [3] [14, 15, 16, 17, 18, 19] rfl rfl rfl (by decide) (by decide) (by omega) (by decide) (Nat.zero_le _) (Nat.zero_le _) rfl rfl rfl rfl rfl ?_
        rintro v cc ⟨rfl, rfl⟩
        refine ⟨_, rfl, rfl, ?_⟩
        show AW Z 0 0 92 [some (.ref 0), some (.int y1), some (.int y2), some (.int y3), some (.int x4), some (.int q9)] [] ([kReader 0 1 6 v0, kTape 1 (Tape_s_at_fault v1 q11.1 q11.2.1), kTown 6 14 v2, kLaws 14 (Laws_s_codes_size v3 q12.1 q12.2)] : List (List zE)).flatten
        refine AW.run hZ hRm [35] 400 ?_
        show AW Z 0 0 35 [some (.ref 0), some (.int y1), some (.int y2), some (.int y3), some (.int (x4 + 1)), some (.int q9)] [] ([kReader 0 1 6 v0, kTape 1 (Tape_s_at_fault v1 q11.1 q11.2.1), kTown 6 14 v2, kLaws 14 (Laws_s_codes_size v3 q12.1 q12.2)] : List (List zE)).flatten
        refine AW.forget [true, true, true, true, true, false] ?_
        show AW Z 0 0 35 [some (.ref 0), some (.int y1), some (.int y2), some (.int y3), some (.int (x4 + 1)), none] [] ([kReader 0 1 6 v0, kTape 1 (Tape_s_at_fault v1 q11.1 q11.2.1), kTown 6 14 v2, kLaws 14 (Laws_s_codes_size v3 q12.1 q12.2)] : List (List zE)).flatten
        exact ih v0 v1 v2 v3 y1 y2 y3 (x4 + 1) q11.1 q11.2.1 q12.1 q12.2 q hf hk0
set_option maxRecDepth 20000 in
set_option maxHeartbeats 4000000 in
theorem c_Reader_readJoined_b {r_f_Reader_readPart : (VReader → VTape → VTown → VLaws → Int32 → Option (Int32 × Int32 × (Nat → Int32) × Int32))} {r_f_Reader_readJoined : (VReader → VTape → VTown → VLaws → Int32 → Int32 → Option (Int32 × Int32 × (Nat → Int32) × Int32))} {e : Nat} (hr_f_Reader_readPart : ∀ (v0 : VReader) (v1 : VTape) (v2 : VTown) (v3 : VLaws) (a1 : Int32) (R : Int32 × Int32 × (Nat → Int32) × Int32), r_f_Reader_readPart v0 v1 v2 v3 a1 = some R → Ct zMX9_readPart (e + 2) 0 0 0 [.ref 0, .int a1] ([kReader 0 1 6 v0, kTape 1 v1, kTown 6 14 v2, kLaws 14 v3] : List (List zE)).flatten (fun v cc => v = none ∧ cc = ([kReader 0 1 6 v0, kTape 1 (Tape_s_at_fault v1 R.1 R.2.1), kTown 6 14 v2, kLaws 14 (Laws_s_codes_size v3 R.2.2.1 R.2.2.2)] : List (List zE)).flatten)) (hr_f_Reader_readJoined : ∀ (v0 : VReader) (v1 : VTape) (v2 : VTown) (v3 : VLaws) (a1 : Int32) (a2 : Int32) (R : Int32 × Int32 × (Nat → Int32) × Int32), r_f_Reader_readJoined v0 v1 v2 v3 a1 a2 = some R → Ct zMX9_readJoined (e + 2) 0 0 0 [.ref 0, .int a1, .int a2] ([kReader 0 1 6 v0, kTape 1 v1, kTown 6 14 v2, kLaws 14 v3] : List (List zE)).flatten (fun v cc => v = none ∧ cc = ([kReader 0 1 6 v0, kTape 1 (Tape_s_at_fault v1 R.1 R.2.1), kTown 6 14 v2, kLaws 14 (Laws_s_codes_size v3 R.2.2.1 R.2.2.2)] : List (List zE)).flatten)) (N : Nat) (v0 : VReader) (v1 : VTape) (v2 : VTown) (v3 : VLaws) (a1 : Int32) (a2 : Int32) (R : Int32 × Int32 × (Nat → Int32) × Int32) (hf : f_Reader_readJoined_b r_f_Reader_readPart r_f_Reader_readJoined N v0 v1 v2 v3 a1 a2 = some R) : Ct zMX9_readJoined (e + 3) 0 0 0 [.ref 0, .int a1, .int a2] ([kReader 0 1 6 v0, kTape 1 v1, kTown 6 14 v2, kLaws 14 v3] : List (List zE)).flatten (fun v cc => v = none ∧ cc = ([kReader 0 1 6 v0, kTape 1 (Tape_s_at_fault v1 R.1 R.2.1), kTown 6 14 v2, kLaws 14 (Laws_s_codes_size v3 R.2.2.1 R.2.2.2)] : List (List zE)).flatten) := by
  refine Ct.of zMX9_readJoined_ok (by omega) (Nat.le_of_ble_eq_true rfl) ?_
  intro Z hZ hR hN hE
  have hRm : zRoom Z 0 0 := zRoom0 Z
  unfold f_Reader_readJoined_b at hf
  show AW Z 0 0 0 [some (.ref 0), some (.int a1), some (.int a2), none, none, none] [] ([kReader 0 1 6 v0, kTape 1 v1, kTown 6 14 v2, kLaws 14 v3] : List (List zE)).flatten
  refine AW.run hZ hRm [7, 16] 400 ?_
  show (((a1 ≤ 3) → AW Z 0 0 16 [some (.ref 0), some (.int a1), some (.int a2), none, none, none] [.int a2, .int (a1 + 1), .ref 0] ([kReader 0 1 6 v0, kTape 1 v1, kTown 6 14 v2, kLaws 14 v3] : List (List zE)).flatten) ∧ (¬ (a1 ≤ 3) → AW Z 0 0 7 [some (.ref 0), some (.int a1), some (.int a2), none, none, none] [.int a2, .ref 0] ([kReader 0 1 6 v0, kTape 1 v1, kTown 6 14 v2, kLaws 14 v3] : List (List zE)).flatten))
  refine ⟨fun c1 => ?_, fun c1 => ?_⟩
  · rw [if_pos c1] at hf
    obtain ⟨q2, h21, hf⟩ := zbind hf
    refine AW.callSc hZ hR hN (hr_f_Reader_readJoined v0 v1 v2 v3 (a1 + 1) a2 q2 h21) zMX9_readJoined_ok rfl rfl zK_BorrowedLives_TownReader_147 zV_X9_readJoined rfl [1, 5, 8, 6] [0, 1, 2, 3] [0, 1, 2, 3, 4, 5, 6, 7, 8, 9, 10, 11, 12, 13, 14, 15, 16, 17, 18, 19] rfl rfl rfl (by decide) (by decide) (by omega) (by decide) (Nat.zero_le _) (Nat.zero_le _) rfl rfl ?_
    rintro v cc ⟨rfl, rfl⟩
    refine ⟨_, rfl, rfl, ?_⟩
    show AW Z 0 0 19 [some (.ref 0), some (.int a1), some (.int a2), none, none, none] [] ([kReader 0 1 6 v0, kTape 1 (Tape_s_at_fault v1 q2.1 q2.2.1), kTown 6 14 v2, kLaws 14 (Laws_s_codes_size v3 q2.2.2.1 q2.2.2.2)] : List (List zE)).flatten
    refine AW.run hZ hRm [21] 400 ?_
    show AW Z 0 0 21 [some (.ref 0), some (.int a1), some (.int a2), none, none, none] [.int 1, .int a1] ([kReader 0 1 6 v0, kTape 1 (Tape_s_at_fault v1 q2.1 q2.2.1), kTown 6 14 v2, kLaws 14 (Laws_s_codes_size v3 q2.2.2.1 q2.2.2.2)] : List (List zE)).flatten
    suffices H3 : AW Z 0 0 31 [some (.ref 0), some (.int a1), some (.int a2), none, none, none] [.int (if (a1 = 1) then 1 else 1000)] ([kReader 0 1 6 v0, kTape 1 (Tape_s_at_fault v1 q2.1 q2.2.1), kTown 6 14 v2, kLaws 14 (Laws_s_codes_size v3 q2.2.2.1 q2.2.2.2)] : List (List zE)).flatten from by
      refine AW.run hZ hRm [31] 400 ?_
      show ((¬ (a1 = 1) → AW Z 0 0 31 [some (.ref 0), some (.int a1), some (.int a2), none, none, none] [.int 1000] ([kReader 0 1 6 v0, kTape 1 (Tape_s_at_fault v1 q2.1 q2.2.1), kTown 6 14 v2, kLaws 14 (Laws_s_codes_size v3 q2.2.2.1 q2.2.2.2)] : List (List zE)).flatten) ∧ ((a1 = 1) → AW Z 0 0 31 [some (.ref 0), some (.int a1), some (.int a2), none, none, none] [.int 1] ([kReader 0 1 6 v0, kTape 1 (Tape_s_at_fault v1 q2.1 q2.2.1), kTown 6 14 v2, kLaws 14 (Laws_s_codes_size v3 q2.2.2.1 q2.2.2.2)] : List (List zE)).flatten))
      refine ⟨fun c4 => ?_, fun c4 => ?_⟩
      · simpa only [if_neg c4] using H3
      · simpa only [if_pos c4] using H3
    refine AW.run hZ hRm [35] 400 ?_
    show AW Z 0 0 35 [some (.ref 0), some (.int a1), some (.int a2), some (.int (if (a1 = 1) then 1 else 1000)), some (.int 0), none] [] ([kReader 0 1 6 v0, kTape 1 (Tape_s_at_fault v1 q2.1 q2.2.1), kTown 6 14 v2, kLaws 14 (Laws_s_codes_size v3 q2.2.2.1 q2.2.2.2)] : List (List zE)).flatten
    obtain ⟨q19, h20, hf⟩ := zbind hf
    refine c_Reader_readJoined_L35 hZ hR (by omega) hN hRm hr_f_Reader_readPart hr_f_Reader_readJoined N N v0 (Tape_s_at_fault v1 q2.1 q2.2.1) v2 (Laws_s_codes_size v3 q2.2.2.1 q2.2.2.2) a1 a2 (if (a1 = 1) then 1 else 1000) 0 q2.1 q2.2.1 q2.2.2.1 q2.2.2.2 q19 h20 ?_
    show AW Z 0 0 98 [none, none, none, none, none, none] [] ([kReader 0 1 6 v0, kTape 1 (Tape_s_at_fault v1 q19.1 q19.2.1), kTown 6 14 v2, kLaws 14 (Laws_s_codes_size v3 q19.2.2.1 q19.2.2.2)] : List (List zE)).flatten
    cases hf
    exact AW.vret hZ hE rfl rfl rfl (Nat.le_refl 0) (Nat.le_refl 0) rfl ⟨rfl, rfl⟩
  · rw [if_neg c1] at hf
    obtain ⟨q22, h23, hf⟩ := zbind hf
    refine AW.callSc hZ hR hN (hr_f_Reader_readPart v0 v1 v2 v3 a2 q22 h23) zMX9_readPart_ok rfl rfl zK_BorrowedLives_TownReader_154 zV_X9_readPart rfl [1, 5, 8, 6] [0, 1, 2, 3] [0, 1, 2, 3, 4, 5, 6, 7, 8, 9, 10, 11, 12, 13, 14, 15, 16, 17, 18, 19] rfl rfl rfl (by decide) (by decide) (by omega) (by decide) (Nat.zero_le _) (Nat.zero_le _) rfl rfl ?_
    rintro v cc ⟨rfl, rfl⟩
    refine ⟨_, rfl, rfl, ?_⟩
    show AW Z 0 0 10 [some (.ref 0), some (.int a1), some (.int a2), none, none, none] [] ([kReader 0 1 6 v0, kTape 1 (Tape_s_at_fault v1 q22.1 q22.2.1), kTown 6 14 v2, kLaws 14 (Laws_s_codes_size v3 q22.2.2.1 q22.2.2.2)] : List (List zE)).flatten
    cases hf
    exact AW.vret hZ hE rfl rfl rfl (Nat.le_refl 0) (Nat.le_refl 0) rfl ⟨rfl, rfl⟩
set_option maxRecDepth 20000 in
set_option maxHeartbeats 4000000 in
theorem c_g_Reader_readPart_Reader_readJoined (N : Nat) : ∀ e : Nat, (∀ (v0 : VReader) (v1 : VTape) (v2 : VTown) (v3 : VLaws) (a1 : Int32) (R : Int32 × Int32 × (Nat → Int32) × Int32), (g_Reader_readPart_Reader_readJoined N e).1 v0 v1 v2 v3 a1 = some R → Ct zMX9_readPart (e + 2) 0 0 0 [.ref 0, .int a1] ([kReader 0 1 6 v0, kTape 1 v1, kTown 6 14 v2, kLaws 14 v3] : List (List zE)).flatten (fun v cc => v = none ∧ cc = ([kReader 0 1 6 v0, kTape 1 (Tape_s_at_fault v1 R.1 R.2.1), kTown 6 14 v2, kLaws 14 (Laws_s_codes_size v3 R.2.2.1 R.2.2.2)] : List (List zE)).flatten)) ∧ (∀ (v0 : VReader) (v1 : VTape) (v2 : VTown) (v3 : VLaws) (a1 : Int32) (a2 : Int32) (R : Int32 × Int32 × (Nat → Int32) × Int32), (g_Reader_readPart_Reader_readJoined N e).2 v0 v1 v2 v3 a1 a2 = some R → Ct zMX9_readJoined (e + 2) 0 0 0 [.ref 0, .int a1, .int a2] ([kReader 0 1 6 v0, kTape 1 v1, kTown 6 14 v2, kLaws 14 v3] : List (List zE)).flatten (fun v cc => v = none ∧ cc = ([kReader 0 1 6 v0, kTape 1 (Tape_s_at_fault v1 R.1 R.2.1), kTown 6 14 v2, kLaws 14 (Laws_s_codes_size v3 R.2.2.1 R.2.2.2)] : List (List zE)).flatten)) := by
  intro e
  induction e with
  | zero => exact ⟨(fun _ _ _ _ _ R h => by cases h), (fun _ _ _ _ _ _ R h => by cases h)⟩
  | succ e ih =>
    exact ⟨(fun v0 v1 v2 v3 a1 R h => by
      have h9 := c_Reader_readPart_b ih.1 ih.2 N v0 v1 v2 v3 a1 R h
      rw [show e + 1 + 2 = e + 3 by omega]
      exact h9), (fun v0 v1 v2 v3 a1 a2 R h => by
      have h9 := c_Reader_readJoined_b ih.1 ih.2 N v0 v1 v2 v3 a1 a2 R h
      rw [show e + 1 + 2 = e + 3 by omega]
      exact h9)⟩
set_option maxRecDepth 20000 in
set_option maxHeartbeats 4000000 in
theorem c_Reader_readPart (e N : Nat) (v0 : VReader) (v1 : VTape) (v2 : VTown) (v3 : VLaws) (a1 : Int32) (R : Int32 × Int32 × (Nat → Int32) × Int32) (hf : f_Reader_readPart e N v0 v1 v2 v3 a1 = some R) : Ct zMX9_readPart (e + 2) 0 0 0 [.ref 0, .int a1] ([kReader 0 1 6 v0, kTape 1 v1, kTown 6 14 v2, kLaws 14 v3] : List (List zE)).flatten (fun v cc => v = none ∧ cc = ([kReader 0 1 6 v0, kTape 1 (Tape_s_at_fault v1 R.1 R.2.1), kTown 6 14 v2, kLaws 14 (Laws_s_codes_size v3 R.2.2.1 R.2.2.2)] : List (List zE)).flatten) := by
  exact (c_g_Reader_readPart_Reader_readJoined N e).1 v0 v1 v2 v3 a1 R hf
set_option maxRecDepth 20000 in
set_option maxHeartbeats 4000000 in
theorem c_Reader_readJoined (e N : Nat) (v0 : VReader) (v1 : VTape) (v2 : VTown) (v3 : VLaws) (a1 : Int32) (a2 : Int32) (R : Int32 × Int32 × (Nat → Int32) × Int32) (hf : f_Reader_readJoined e N v0 v1 v2 v3 a1 a2 = some R) : Ct zMX9_readJoined (e + 2) 0 0 0 [.ref 0, .int a1, .int a2] ([kReader 0 1 6 v0, kTape 1 v1, kTown 6 14 v2, kLaws 14 v3] : List (List zE)).flatten (fun v cc => v = none ∧ cc = ([kReader 0 1 6 v0, kTape 1 (Tape_s_at_fault v1 R.1 R.2.1), kTown 6 14 v2, kLaws 14 (Laws_s_codes_size v3 R.2.2.1 R.2.2.2)] : List (List zE)).flatten) := by
  exact (c_g_Reader_readPart_Reader_readJoined N e).2 v0 v1 v2 v3 a1 a2 R hf
