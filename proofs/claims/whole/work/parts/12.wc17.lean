def f_Reader_readLaw (N : Nat) (v0 : VReader) (v1 : VTape) (v2 : VTown) (v3 : VLaws) (a1 : Int32) : Option (Int32 × Int32 × Int32 × (Nat → Int32) × Int32 × (Nat → Int32) × (Nat → Int32)) := ((f_Laws_isTold N v3 a1).bind (fun q1 => (if (q1 = 0) then ((f_Tape_advance N v1).bind (fun q3 => ((f_Reader_readJoined 64 N (Reader_factsKnown_s v0 (if (a1 = 2) then 3 else 5)) (Tape_at_s v1 q3) v2 v3 0 0).bind (fun q6 => ((f_Laws_addLaw N (Laws_s_codes_size v3 q6.2.2.1 q6.2.2.2) a1 (Laws_size v3)).bind (fun q7 => (some ((if (a1 = 2) then 3 else 5), q6.1, q6.2.1, q6.2.2.1, q6.2.2.2, q7.1, q7.2)))))))) else ((f_Tape_wrong N v1 3).bind (fun q11 => ((f_Tape_advance N (Tape_fault_s v1 q11)).bind (fun q12 => ((f_Reader_readJoined 64 N (Reader_factsKnown_s v0 (if (a1 = 2) then 3 else 5)) (Tape_s_at_fault v1 q12 q11) v2 v3 0 0).bind (fun q15 => ((f_Laws_addLaw N (Laws_s_codes_size v3 q15.2.2.1 q15.2.2.2) a1 (Laws_size v3)).bind (fun q16 => (some ((if (a1 = 2) then 3 else 5), q15.1, q15.2.1, q15.2.2.1, q15.2.2.2, q16.1, q16.2)))))))))))))
set_option maxRecDepth 20000 in
set_option maxHeartbeats 4000000 in
theorem c_Reader_readLaw (N : Nat) (v0 : VReader) (v1 : VTape) (v2 : VTown) (v3 : VLaws) (a1 : Int32) (R : Int32 × Int32 × Int32 × (Nat → Int32) × Int32 × (Nat → Int32) × (Nat → Int32)) (hf : f_Reader_readLaw N v0 v1 v2 v3 a1 = some R) : Ct zMX9_readLaw 67 0 0 0 [.ref 0, .int a1] ([kReader 0 1 6 v0, kTape 1 v1, kTown 6 14 v2, kLaws 14 v3] : List (List zE)).flatten (fun v cc => v = none ∧ cc = ([kReader 0 1 6 (Reader_factsKnown_s v0 R.1), kTape 1 (Tape_s_at_fault v1 R.2.1 R.2.2.1), kTown 6 14 v2, kLaws 14 (Laws_s_codes_size_from_to v3 R.2.2.2.1 R.2.2.2.2.1 R.2.2.2.2.2.1 R.2.2.2.2.2.2)] : List (List zE)).flatten) := by
  refine Ct.of zMX9_readLaw_ok (by decide) (Nat.le_of_ble_eq_true rfl) ?_
  intro Z hZ hR hN hE
  have hRm : zRoom Z 0 0 := zRoom0 Z
  unfold f_Reader_readLaw at hf
  show AW Z 0 0 0 [some (.ref 0), some (.int a1), none] [] ([kReader 0 1 6 v0, kTape 1 v1, kTown 6 14 v2, kLaws 14 v3] : List (List zE)).flatten
  refine AW.run hZ hRm [8] 400 ?_
  show AW Z 0 0 8 [some (.ref 0), some (.int a1), none] [.int a1, .ref 14] ([kReader 0 1 6 v0, kTape 1 v1, kTown 6 14 v2, kLaws 14 v3] : List (List zE)).flatten
  obtain ⟨q1, h21, hf⟩ := zbind hf
  refine AW.callVc hZ hR hN (c_Laws_isTold N v3 a1 q1 h21) zMX2_isTold_ok rfl rfl zK_BorrowedLives_TownReader_141 zV_X2_isTold rfl [1, 5, 8, 6] [3] [14, 15, 16, 17, 18, 19] rfl rfl rfl (by decide) (by decide) (by omega) (by decide) (Nat.zero_le _) (Nat.zero_le _) rfl rfl rfl rfl rfl ?_
  rintro v cc ⟨rfl, rfl⟩
  refine ⟨_, rfl, rfl, ?_⟩
  show AW Z 0 0 11 [some (.ref 0), some (.int a1), none] [.int q1] ([kReader 0 1 6 v0, kTape 1 v1, kTown 6 14 v2, kLaws 14 v3] : List (List zE)).flatten
  refine AW.run hZ hRm [19, 26] 400 ?_
  show (((q1 = 0) → AW Z 0 0 26 [some (.ref 0), some (.int a1), none] [.ref 1] ([kReader 0 1 6 v0, kTape 1 v1, kTown 6 14 v2, kLaws 14 v3] : List (List zE)).flatten) ∧ (¬ (q1 = 0) → AW Z 0 0 19 [some (.ref 0), some (.int a1), none] [.int 3, .ref 1] ([kReader 0 1 6 v0, kTape 1 v1, kTown 6 14 v2, kLaws 14 v3] : List (List zE)).flatten))
  refine ⟨fun c2 => ?_, fun c2 => ?_⟩
  · rw [if_pos c2] at hf
    obtain ⟨q3, h10, hf⟩ := zbind hf
    refine AW.callVc hZ hR hN (c_Tape_advance N v1 q3 h10) zMX7_advance_ok rfl rfl zK_BorrowedLives_TownReader_72 zV_X7_advance rfl [1, 5, 8, 6] [1] [1, 2, 3, 4, 5] rfl rfl rfl (by decide) (by decide) (by omega) (by decide) (Nat.zero_le _) (Nat.zero_le _) rfl rfl rfl rfl rfl ?_
    rintro v cc ⟨rfl, rfl⟩
    refine ⟨_, rfl, rfl, ?_⟩
    show AW Z 0 0 29 [some (.ref 0), some (.int a1), none] [] ([kReader 0 1 6 v0, kTape 1 (Tape_at_s v1 q3), kTown 6 14 v2, kLaws 14 v3] : List (List zE)).flatten
    refine AW.run hZ hRm [32] 400 ?_
    show AW Z 0 0 32 [some (.ref 0), some (.int a1), none] [.int 2, .int a1, .ref 0] ([kReader 0 1 6 v0, kTape 1 (Tape_at_s v1 q3), kTown 6 14 v2, kLaws 14 v3] : List (List zE)).flatten
    suffices H4 : AW Z 0 0 40 [some (.ref 0), some (.int a1), none] [.int (if (a1 = 2) then 3 else 5), .ref 0] ([kReader 0 1 6 v0, kTape 1 (Tape_at_s v1 q3), kTown 6 14 v2, kLaws 14 v3] : List (List zE)).flatten from by
      refine AW.run hZ hRm [40] 400 ?_
      show ((¬ (a1 = 2) → AW Z 0 0 40 [some (.ref 0), some (.int a1), none] [.int 5, .ref 0] ([kReader 0 1 6 v0, kTape 1 (Tape_at_s v1 q3), kTown 6 14 v2, kLaws 14 v3] : List (List zE)).flatten) ∧ ((a1 = 2) → AW Z 0 0 40 [some (.ref 0), some (.int a1), none] [.int 3, .ref 0] ([kReader 0 1 6 v0, kTape 1 (Tape_at_s v1 q3), kTown 6 14 v2, kLaws 14 v3] : List (List zE)).flatten))
      refine ⟨fun c5 => ?_, fun c5 => ?_⟩
      · simpa only [if_neg c5] using H4
      · simpa only [if_pos c5] using H4
    refine AW.run hZ hRm [57] 400 ?_
    show AW Z 0 0 57 [some (.ref 0), some (.int a1), some (.int (Laws_size v3))] [.int 0, .int 0, .ref 0] ([kReader 0 1 6 (Reader_factsKnown_s v0 (if (a1 = 2) then 3 else 5)), kTape 1 (Tape_at_s v1 q3), kTown 6 14 v2, kLaws 14 v3] : List (List zE)).flatten
    obtain ⟨q6, h9, hf⟩ := zbind hf
    refine AW.callSc hZ hR hN (c_Reader_readJoined 64 N (Reader_factsKnown_s v0 (if (a1 = 2) then 3 else 5)) (Tape_at_s v1 q3) v2 v3 0 0 q6 h9) zMX9_readJoined_ok rfl rfl zK_BorrowedLives_TownReader_147 zV_X9_readJoined rfl [1, 5, 8, 6] [0, 1, 2, 3] [0, 1, 2, 3, 4, 5, 6, 7, 8, 9, 10, 11, 12, 13, 14, 15, 16, 17, 18, 19] rfl rfl rfl (by decide) (by decide) (by omega) (by decide) (Nat.zero_le _) (Nat.zero_le _) rfl rfl ?_
    rintro v cc ⟨rfl, rfl⟩
    refine ⟨_, rfl, rfl, ?_⟩
    show AW Z 0 0 60 [some (.ref 0), some (.int a1), some (.int (Laws_size v3))] [] ([kReader 0 1 6 (Reader_factsKnown_s v0 (if (a1 = 2) then 3 else 5)), kTape 1 (Tape_s_at_fault v1 q6.1 q6.2.1), kTown 6 14 v2, kLaws 14 (Laws_s_codes_size v3 q6.2.2.1 q6.2.2.2)] : List (List zE)).flatten
    refine AW.run hZ hRm [69] 400 ?_
    show AW Z 0 0 69 [some (.ref 0), some (.int a1), some (.int (Laws_size v3))] [.int (Laws_size v3), .int a1, .ref 14] ([kReader 0 1 6 (Reader_factsKnown_s v0 (if (a1 = 2) then 3 else 5)), kTape 1 (Tape_s_at_fault v1 q6.1 q6.2.1), kTown 6 14 v2, kLaws 14 (Laws_s_codes_size v3 q6.2.2.1 q6.2.2.2)] : List (List zE)).flatten
    obtain ⟨q7, h8, hf⟩ := zbind hf
    refine AW.callVc hZ hR hN (c_Laws_addLaw N (Laws_s_codes_size v3 q6.2.2.1 q6.2.2.2) a1 (Laws_size v3) q7 h8) zMX2_addLaw_ok rfl rfl zK_BorrowedLives_TownReader_151 zV_X2_addLaw rfl [1, 5, 8, 6] [3] [14, 15, 16, 17, 18, 19] rfl rfl rfl (by decide) (by decide) (by omega) (by decide) (Nat.zero_le _) (Nat.zero_le _) rfl rfl rfl rfl rfl ?_
    rintro v cc ⟨rfl, rfl⟩
    refine ⟨_, rfl, rfl, ?_⟩
    show AW Z 0 0 72 [some (.ref 0), some (.int a1), some (.int (Laws_size v3))] [] ([kReader 0 1 6 (Reader_factsKnown_s v0 (if (a1 = 2) then 3 else 5)), kTape 1 (Tape_s_at_fault v1 q6.1 q6.2.1), kTown 6 14 v2, kLaws 14 (Laws_s_codes_size_from_to v3 q6.2.2.1 q6.2.2.2 q7.1 q7.2)] : List (List zE)).flatten
    cases hf
    exact AW.vret hZ hE rfl rfl rfl (Nat.le_refl 0) (Nat.le_refl 0) rfl ⟨rfl, rfl⟩
  · rw [if_neg c2] at hf
    obtain ⟨q11, h20, hf⟩ := zbind hf
    refine AW.callVc hZ hR hN (c_Tape_wrong N v1 3 q11 h20) zMX7_wrong_ok rfl rfl zK_BorrowedLives_TownReader_63 zV_X7_wrong rfl [1, 5, 8, 6] [1] [1, 2, 3, 4, 5] rfl rfl rfl (by decide) (by decide) (by omega) (by decide) (Nat.zero_le _) (Nat.zero_le _) rfl rfl rfl rfl rfl ?_
    rintro v cc ⟨rfl, rfl⟩
    refine ⟨_, rfl, rfl, ?_⟩
    show AW Z 0 0 22 [some (.ref 0), some (.int a1), none] [] ([kReader 0 1 6 v0, kTape 1 (Tape_fault_s v1 q11), kTown 6 14 v2, kLaws 14 v3] : List (List zE)).flatten
    refine AW.run hZ hRm [26] 400 ?_
    show AW Z 0 0 26 [some (.ref 0), some (.int a1), none] [.ref 1] ([kReader 0 1 6 v0, kTape 1 (Tape_fault_s v1 q11), kTown 6 14 v2, kLaws 14 v3] : List (List zE)).flatten
    obtain ⟨q12, h19, hf⟩ := zbind hf
    refine AW.callVc hZ hR hN (c_Tape_advance N (Tape_fault_s v1 q11) q12 h19) zMX7_advance_ok rfl rfl zK_BorrowedLives_TownReader_72 zV_X7_advance rfl [1, 5, 8, 6] [1] [1, 2, 3, 4, 5] rfl rfl rfl (by decide) (by decide) (by omega) (by decide) (Nat.zero_le _) (Nat.zero_le _) rfl rfl rfl rfl rfl ?_
    rintro v cc ⟨rfl, rfl⟩
    refine ⟨_, rfl, rfl, ?_⟩
    show AW Z 0 0 29 [some (.ref 0), some (.int a1), none] [] ([kReader 0 1 6 v0, kTape 1 (Tape_s_at_fault v1 q12 q11), kTown 6 14 v2, kLaws 14 v3] : List (List zE)).flatten
    refine AW.run hZ hRm [32] 400 ?_
    show AW Z 0 0 32 [some (.ref 0), some (.int a1), none] [.int 2, .int a1, .ref 0] ([kReader 0 1 6 v0, kTape 1 (Tape_s_at_fault v1 q12 q11), kTown 6 14 v2, kLaws 14 v3] : List (List zE)).flatten
    suffices H13 : AW Z 0 0 40 [some (.ref 0), some (.int a1), none] [.int (if (a1 = 2) then 3 else 5), .ref 0] ([kReader 0 1 6 v0, kTape 1 (Tape_s_at_fault v1 q12 q11), kTown 6 14 v2, kLaws 14 v3] : List (List zE)).flatten from by
      refine AW.run hZ hRm [40] 400 ?_
      show ((¬ (a1 = 2) → AW Z 0 0 40 [some (.ref 0), some (.int a1), none] [.int 5, .ref 0] ([kReader 0 1 6 v0, kTape 1 (Tape_s_at_fault v1 q12 q11), kTown 6 14 v2, kLaws 14 v3] : List (List zE)).flatten) ∧ ((a1 = 2) → AW Z 0 0 40 [some (.ref 0), some (.int a1), none] [.int 3, .ref 0] ([kReader 0 1 6 v0, kTape 1 (Tape_s_at_fault v1 q12 q11), kTown 6 14 v2, kLaws 14 v3] : List (List zE)).flatten))
      refine ⟨fun c14 => ?_, fun c14 => ?_⟩
      · simpa only [if_neg c14] using H13
      · simpa only [if_pos c14] using H13
    refine AW.run hZ hRm [57] 400 ?_
    show AW Z 0 0 57 [some (.ref 0), some (.int a1), some (.int (Laws_size v3))] [.int 0, .int 0, .ref 0] ([kReader 0 1 6 (Reader_factsKnown_s v0 (if (a1 = 2) then 3 else 5)), kTape 1 (Tape_s_at_fault v1 q12 q11), kTown 6 14 v2, kLaws 14 v3] : List (List zE)).flatten
    obtain ⟨q15, h18, hf⟩ := zbind hf
    refine AW.callSc hZ hR hN (c_Reader_readJoined 64 N (Reader_factsKnown_s v0 (if (a1 = 2) then 3 else 5)) (Tape_s_at_fault v1 q12 q11) v2 v3 0 0 q15 h18) zMX9_readJoined_ok rfl rfl zK_BorrowedLives_TownReader_147 zV_X9_readJoined rfl [1, 5, 8, 6] [0, 1, 2, 3] [0, 1, 2, 3, 4, 5, 6, 7, 8, 9, 10, 11, 12, 13, 14, 15, 16, 17, 18, 19] rfl rfl rfl (by decide) (by decide) (by omega) (by decide) (Nat.zero_le _) (Nat.zero_le _) rfl rfl ?_
    rintro v cc ⟨rfl, rfl⟩
    refine ⟨_, rfl, rfl, ?_⟩
    show AW Z 0 0 60 [some (.ref 0), some (.int a1), some (.int (Laws_size v3))] [] ([kReader 0 1 6 (Reader_factsKnown_s v0 (if (a1 = 2) then 3 else 5)), kTape 1 (Tape_s_at_fault v1 q15.1 q15.2.1), kTown 6 14 v2, kLaws 14 (Laws_s_codes_size v3 q15.2.2.1 q15.2.2.2)] : List (List zE)).flatten
    refine AW.run hZ hRm [69] 400 ?_
    show AW Z 0 0 69 [some (.ref 0), some (.int a1), some (.int (Laws_size v3))] [.int (Laws_size v3), .int a1, .ref 14] ([kReader 0 1 6 (Reader_factsKnown_s v0 (if (a1 = 2) then 3 else 5)), kTape 1 (Tape_s_at_fault v1 q15.1 q15.2.1), kTown 6 14 v2, kLaws 14 (Laws_s_codes_size v3 q15.2.2.1 q15.2.2.2)] : List (List zE)).flatten
    obtain ⟨q16, h17, hf⟩ := zbind hf
    refine AW.callVc hZ hR hN (c_Laws_addLaw N (Laws_s_codes_size v3 q15.2.2.1 q15.2.2.2) a1 (Laws_size v3) q16 h17) zMX2_addLaw_ok rfl rfl zK_BorrowedLives_TownReader_151 zV_X2_addLaw rfl [1, 5, 8, 6] [3] [14, 15, 16, 17, 18, 19] rfl rfl rfl (by decide) (by decide) (by omega) (by decide) (Nat.zero_le _) (Nat.zero_le _) rfl rfl rfl rfl rfl ?_
    rintro v cc ⟨rfl, rfl⟩
    refine ⟨_, rfl, rfl, ?_⟩
    show AW Z 0 0 72 [some (.ref 0), some (.int a1), some (.int (Laws_size v3))] [] ([kReader 0 1 6 (Reader_factsKnown_s v0 (if (a1 = 2) then 3 else 5)), kTape 1 (Tape_s_at_fault v1 q15.1 q15.2.1), kTown 6 14 v2, kLaws 14 (Laws_s_codes_size_from_to v3 q15.2.2.1 q15.2.2.2 q16.1 q16.2)] : List (List zE)).flatten
    cases hf
    exact AW.vret hZ hE rfl rfl rfl (Nat.le_refl 0) (Nat.le_refl 0) rfl ⟨rfl, rfl⟩
def f_Reader_readLine (N : Nat) (v0 : VReader) (v1 : VTape) (v2 : VTown) (v3 : VLaws) : Option (Int32 × Int32 × Int32 × Int32 × (Nat → Int64) × (Nat → Int32) × (Nat → Int32) × (Nat → Int32) × (Nat → Int32) × (Nat → Int32) × (Nat → Int32) × Int32 × Int32 × Int32 × (Nat → Int32) × Int32 × (Nat → Int32) × (Nat → Int32)) := ((f_Tape_token N v1).bind (fun q1 => (if (q1 = 128) then ((f_Reader_readPersonLine N v0 v1 v2 v3).bind (fun q37 => ((f_Tape_expect N (Tape_s_at_fault v1 q37.1 q37.2.1) 59).bind (fun q38 => (some ((Reader_factsKnown v0), q38.1, q38.2, q37.2.2.1, q37.2.2.2.1, q37.2.2.2.2.1, q37.2.2.2.2.2.1, q37.2.2.2.2.2.2.1, q37.2.2.2.2.2.2.2.1, q37.2.2.2.2.2.2.2.2, (Town_barred v2), (Town_bars v2), (Town_sign v2), (Town_signTold v2), (Laws_codes v3), (Laws_size v3), (Laws_from v3), (Laws_to v3))))))) else (if (q1 = 133) then ((f_Reader_readBar N v0 v1 v2 v3).bind (fun q32 => ((f_Tape_expect N (Tape_s_at_fault v1 q32.1 q32.2.1) 59).bind (fun q33 => (some ((Reader_factsKnown v0), q33.1, q33.2, (Town_people v2), (Town_names v2), (Town_kinds v2), (Town_skills v2), (Town_purses v2), (Town_debts v2), (Town_homes v2), q32.2.2.1, q32.2.2.2, (Town_sign v2), (Town_signTold v2), (Laws_codes v3), (Laws_size v3), (Laws_from v3), (Laws_to v3))))))) else (if (q1 = 134) then ((f_Reader_readSign N v0 v1 v2 v3).bind (fun q27 => ((f_Tape_expect N (Tape_s_at_fault v1 q27.1 q27.2.1) 59).bind (fun q28 => (some ((Reader_factsKnown v0), q28.1, q28.2, (Town_people v2), (Town_names v2), (Town_kinds v2), (Town_skills v2), (Town_purses v2), (Town_debts v2), (Town_homes v2), (Town_barred v2), (Town_bars v2), q27.2.2.1, q27.2.2.2, (Laws_codes v3), (Laws_size v3), (Laws_from v3), (Laws_to v3))))))) else (if (q1 = 135) then ((f_Reader_readLaw N v0 v1 v2 v3 (q1 - 135)).bind (fun q22 => ((f_Tape_expect N (Tape_s_at_fault v1 q22.2.1 q22.2.2.1) 59).bind (fun q23 => (some (q22.1, q23.1, q23.2, (Town_people v2), (Town_names v2), (Town_kinds v2), (Town_skills v2), (Town_purses v2), (Town_debts v2), (Town_homes v2), (Town_barred v2), (Town_bars v2), (Town_sign v2), (Town_signTold v2), q22.2.2.2.1, q22.2.2.2.2.1, q22.2.2.2.2.2.1, q22.2.2.2.2.2.2)))))) else (if (q1 = 136) then ((f_Reader_readLaw N v0 v1 v2 v3 (q1 - 135)).bind (fun q17 => ((f_Tape_expect N (Tape_s_at_fault v1 q17.2.1 q17.2.2.1) 59).bind (fun q18 => (some (q17.1, q18.1, q18.2, (Town_people v2), (Town_names v2), (Town_kinds v2), (Town_skills v2), (Town_purses v2), (Town_debts v2), (Town_homes v2), (Town_barred v2), (Town_bars v2), (Town_sign v2), (Town_signTold v2), q17.2.2.2.1, q17.2.2.2.2.1, q17.2.2.2.2.2.1, q17.2.2.2.2.2.2)))))) else (if (q1 = 137) then ((f_Reader_readLaw N v0 v1 v2 v3 (q1 - 135)).bind (fun q12 => ((f_Tape_expect N (Tape_s_at_fault v1 q12.2.1 q12.2.2.1) 59).bind (fun q13 => (some (q12.1, q13.1, q13.2, (Town_people v2), (Town_names v2), (Town_kinds v2), (Town_skills v2), (Town_purses v2), (Town_debts v2), (Town_homes v2), (Town_barred v2), (Town_bars v2), (Town_sign v2), (Town_signTold v2), q12.2.2.2.1, q12.2.2.2.2.1, q12.2.2.2.2.2.1, q12.2.2.2.2.2.2)))))) else (if (q1 = 138) then ((f_Reader_readLaw N v0 v1 v2 v3 (q1 - 135)).bind (fun q7 => ((f_Tape_expect N (Tape_s_at_fault v1 q7.2.1 q7.2.2.1) 59).bind (fun q8 => (some (q7.1, q8.1, q8.2, (Town_people v2), (Town_names v2), (Town_kinds v2), (Town_skills v2), (Town_purses v2), (Town_debts v2), (Town_homes v2), (Town_barred v2), (Town_bars v2), (Town_sign v2), (Town_signTold v2), q7.2.2.2.1, q7.2.2.2.2.1, q7.2.2.2.2.2.1, q7.2.2.2.2.2.2)))))) else ((f_Tape_wrong N v1 1).bind (fun q2 => ((f_Tape_expect N (Tape_fault_s v1 q2) 59).bind (fun q3 => (some ((Reader_factsKnown v0), q3.1, q3.2, (Town_people v2), (Town_names v2), (Town_kinds v2), (Town_skills v2), (Town_purses v2), (Town_debts v2), (Town_homes v2), (Town_barred v2), (Town_bars v2), (Town_sign v2), (Town_signTold v2), (Laws_codes v3), (Laws_size v3), (Laws_from v3), (Laws_to v3))))))))))))))))
set_option maxRecDepth 20000 in
set_option maxHeartbeats 4000000 in
theorem c_Reader_readLine (N : Nat) (v0 : VReader) (v1 : VTape) (v2 : VTown) (v3 : VLaws) (R : Int32 × Int32 × Int32 × Int32 × (Nat → Int64) × (Nat → Int32) × (Nat → Int32) × (Nat → Int32) × (Nat → Int32) × (Nat → Int32) × (Nat → Int32) × Int32 × Int32 × Int32 × (Nat → Int32) × Int32 × (Nat → Int32) × (Nat → Int32)) (hf : f_Reader_readLine N v0 v1 v2 v3 = some R) : Ct zMX9_readLine 68 0 0 0 [.ref 0] ([kReader 0 1 6 v0, kTape 1 v1, kTown 6 14 v2, kLaws 14 v3] : List (List zE)).flatten (fun v cc => v = none ∧ cc = ([kReader 0 1 6 (Reader_factsKnown_s v0 R.1), kTape 1 (Tape_s_at_fault v1 R.2.1 R.2.2.1), kTown 6 14 (Town_s_people_names_kinds_skills_purses_debts_homes_barred_bars_sign_signTold v2 R.2.2.2.1 R.2.2.2.2.1 R.2.2.2.2.2.1 R.2.2.2.2.2.2.1 R.2.2.2.2.2.2.2.1 R.2.2.2.2.2.2.2.2.1 R.2.2.2.2.2.2.2.2.2.1 R.2.2.2.2.2.2.2.2.2.2.1 R.2.2.2.2.2.2.2.2.2.2.2.1 R.2.2.2.2.2.2.2.2.2.2.2.2.1 R.2.2.2.2.2.2.2.2.2.2.2.2.2.1), kLaws 14 (Laws_s_codes_size_from_to v3 R.2.2.2.2.2.2.2.2.2.2.2.2.2.2.1 R.2.2.2.2.2.2.2.2.2.2.2.2.2.2.2.1 R.2.2.2.2.2.2.2.2.2.2.2.2.2.2.2.2.1 R.2.2.2.2.2.2.2.2.2.2.2.2.2.2.2.2.2)] : List (List zE)).flatten) := by
  refine Ct.of zMX9_readLine_ok (by decide) (Nat.le_of_ble_eq_true rfl) ?_
  intro Z hZ hR hN hE
  have hRm : zRoom Z 0 0 := zRoom0 Z
  unfold f_Reader_readLine at hf
  show AW Z 0 0 0 [some (.ref 0), none] [] ([kReader 0 1 6 v0, kTape 1 v1, kTown 6 14 v2, kLaws 14 v3] : List (List zE)).flatten
  refine AW.run hZ hRm [4] 400 ?_
  show AW Z 0 0 4 [some (.ref 0), none] [.ref 1] ([kReader 0 1 6 v0, kTape 1 v1, kTown 6 14 v2, kLaws 14 v3] : List (List zE)).flatten
  obtain ⟨q1, h41, hf⟩ := zbind hf
  refine AW.callVc hZ hR hN (c_Tape_token N v1 q1 h41) zMX7_token_ok rfl rfl zK_BorrowedLives_TownReader_46 zV_X7_token rfl [1, 5, 8, 6] [1] [1, 2, 3, 4, 5] rfl rfl rfl (by decide) (by decide) (by omega) (by decide) (Nat.zero_le _) (Nat.zero_le _) rfl rfl rfl rfl rfl ?_
  rintro v cc ⟨rfl, rfl⟩
  refine ⟨_, rfl, rfl, ?_⟩
  show AW Z 0 0 7 [some (.ref 0), none] [.int q1] ([kReader 0 1 6 v0, kTape 1 v1, kTown 6 14 v2, kLaws 14 v3] : List (List zE)).flatten
  refine AW.run hZ hRm [69, 76, 83, 95, 106] 400 ?_
  show ((q1 = 128 → AW Z 0 0 69 [some (.ref 0), some (.int q1)] [.ref 0] ([kReader 0 1 6 v0, kTape 1 v1, kTown 6 14 v2, kLaws 14 v3] : List (List zE)).flatten) ∧ (¬ q1 = 128 → ((q1 = 133 → AW Z 0 0 76 [some (.ref 0), some (.int q1)] [.ref 0] ([kReader 0 1 6 v0, kTape 1 v1, kTown 6 14 v2, kLaws 14 v3] : List (List zE)).flatten) ∧ (¬ q1 = 133 → ((q1 = 134 → AW Z 0 0 83 [some (.ref 0), some (.int q1)] [.ref 0] ([kReader 0 1 6 v0, kTape 1 v1, kTown 6 14 v2, kLaws 14 v3] : List (List zE)).flatten) ∧ (¬ q1 = 134 → ((q1 = 135 → AW Z 0 0 95 [some (.ref 0), some (.int q1)] [.int (q1 - 135), .ref 0] ([kReader 0 1 6 v0, kTape 1 v1, kTown 6 14 v2, kLaws 14 v3] : List (List zE)).flatten) ∧ (¬ q1 = 135 → ((q1 = 136 → AW Z 0 0 95 [some (.ref 0), some (.int q1)] [.int (q1 - 135), .ref 0] ([kReader 0 1 6 v0, kTape 1 v1, kTown 6 14 v2, kLaws 14 v3] : List (List zE)).flatten) ∧ (¬ q1 = 136 → ((q1 = 137 → AW Z 0 0 95 [some (.ref 0), some (.int q1)] [.int (q1 - 135), .ref 0] ([kReader 0 1 6 v0, kTape 1 v1, kTown 6 14 v2, kLaws 14 v3] : List (List zE)).flatten) ∧ (¬ q1 = 137 → ((q1 = 138 → AW Z 0 0 95 [some (.ref 0), some (.int q1)] [.int (q1 - 135), .ref 0] ([kReader 0 1 6 v0, kTape 1 v1, kTown 6 14 v2, kLaws 14 v3] : List (List zE)).flatten) ∧ (¬ q1 = 138 → AW Z 0 0 106 [some (.ref 0), some (.int q1)] [.int 1, .ref 1] ([kReader 0 1 6 v0, kTape 1 v1, kTown 6 14 v2, kLaws 14 v3] : List (List zE)).flatten))))))))))))))
  refine ⟨fun c36 => ?_, fun c36 => ?_⟩
  · rw [if_pos c36] at hf
    obtain ⟨q37, h40, hf⟩ := zbind hf
    refine AW.callVc hZ hR hN (c_Reader_readPersonLine N v0 v1 v2 v3 q37 h40) zMX9_readPersonLine_ok rfl rfl zK_BorrowedLives_TownReader_50 zV_X9_readPersonLine rfl [1, 5, 8, 6] [0, 1, 2, 3] [0, 1, 2, 3, 4, 5, 6, 7, 8, 9, 10, 11, 12, 13, 14, 15, 16, 17, 18, 19] rfl rfl rfl (by decide) (by decide) (by omega) (by decide) (Nat.zero_le _) (Nat.zero_le _) rfl rfl rfl rfl rfl ?_
    rintro v cc ⟨rfl, rfl⟩
    refine ⟨_, rfl, rfl, ?_⟩
    show AW Z 0 0 72 [some (.ref 0), some (.int q1)] [] ([kReader 0 1 6 v0, kTape 1 (Tape_s_at_fault v1 q37.1 q37.2.1), kTown 6 14 (Town_s_people_names_kinds_skills_purses_debts_homes v2 q37.2.2.1 q37.2.2.2.1 q37.2.2.2.2.1 q37.2.2.2.2.2.1 q37.2.2.2.2.2.2.1 q37.2.2.2.2.2.2.2.1 q37.2.2.2.2.2.2.2.2), kLaws 14 v3] : List (List zE)).flatten
    refine AW.run hZ hRm [115] 400 ?_
    show AW Z 0 0 115 [some (.ref 0), some (.int q1)] [.int 59, .ref 1] ([kReader 0 1 6 v0, kTape 1 (Tape_s_at_fault v1 q37.1 q37.2.1), kTown 6 14 (Town_s_people_names_kinds_skills_purses_debts_homes v2 q37.2.2.1 q37.2.2.2.1 q37.2.2.2.2.1 q37.2.2.2.2.2.1 q37.2.2.2.2.2.2.1 q37.2.2.2.2.2.2.2.1 q37.2.2.2.2.2.2.2.2), kLaws 14 v3] : List (List zE)).flatten
    obtain ⟨q38, h39, hf⟩ := zbind hf
    refine AW.callVc hZ hR hN (c_Tape_expect N (Tape_s_at_fault v1 q37.1 q37.2.1) 59 q38 h39) zMX7_expect_ok rfl rfl zK_BorrowedLives_TownReader_66 zV_X7_expect rfl [1, 5, 8, 6] [1] [1, 2, 3, 4, 5] rfl rfl rfl (by decide) (by decide) (by omega) (by decide) (Nat.zero_le _) (Nat.zero_le _) rfl rfl rfl rfl rfl ?_
    rintro v cc ⟨rfl, rfl⟩
    refine ⟨_, rfl, rfl, ?_⟩
    show AW Z 0 0 118 [some (.ref 0), some (.int q1)] [] ([kReader 0 1 6 v0, kTape 1 (Tape_s_at_fault v1 q38.1 q38.2), kTown 6 14 (Town_s_people_names_kinds_skills_purses_debts_homes v2 q37.2.2.1 q37.2.2.2.1 q37.2.2.2.2.1 q37.2.2.2.2.2.1 q37.2.2.2.2.2.2.1 q37.2.2.2.2.2.2.2.1 q37.2.2.2.2.2.2.2.2), kLaws 14 v3] : List (List zE)).flatten
    cases hf
    exact AW.vret hZ hE rfl rfl rfl (Nat.le_refl 0) (Nat.le_refl 0) rfl ⟨rfl, rfl⟩
  · rw [if_neg c36] at hf
    refine ⟨fun c31 => ?_, fun c31 => ?_⟩
    · rw [if_pos c31] at hf
      obtain ⟨q32, h35, hf⟩ := zbind hf
      refine AW.callVc hZ hR hN (c_Reader_readBar N v0 v1 v2 v3 q32 h35) zMX9_readBar_ok rfl rfl zK_BorrowedLives_TownReader_53 zV_X9_readBar rfl [1, 5, 8, 6] [0, 1, 2, 3] [0, 1, 2, 3, 4, 5, 6, 7, 8, 9, 10, 11, 12, 13, 14, 15, 16, 17, 18, 19] rfl rfl rfl (by decide) (by decide) (by omega) (by decide) (Nat.zero_le _) (Nat.zero_le _) rfl rfl rfl rfl rfl ?_
      rintro v cc ⟨rfl, rfl⟩
      refine ⟨_, rfl, rfl, ?_⟩
      show AW Z 0 0 79 [some (.ref 0), some (.int q1)] [] ([kReader 0 1 6 v0, kTape 1 (Tape_s_at_fault v1 q32.1 q32.2.1), kTown 6 14 (Town_s_barred_bars v2 q32.2.2.1 q32.2.2.2), kLaws 14 v3] : List (List zE)).flatten
      refine AW.run hZ hRm [115] 400 ?_
      show AW Z 0 0 115 [some (.ref 0), some (.int q1)] [.int 59, .ref 1] ([kReader 0 1 6 v0, kTape 1 (Tape_s_at_fault v1 q32.1 q32.2.1), kTown 6 14 (Town_s_barred_bars v2 q32.2.2.1 q32.2.2.2), kLaws 14 v3] : List (List zE)).flatten
      obtain ⟨q33, h34, hf⟩ := zbind hf
      refine AW.callVc hZ hR hN (c_Tape_expect N (Tape_s_at_fault v1 q32.1 q32.2.1) 59 q33 h34) zMX7_expect_ok rfl rfl zK_BorrowedLives_TownReader_66 zV_X7_expect rfl [1, 5, 8, 6] [1] [1, 2, 3, 4, 5] rfl rfl rfl (by decide) (by decide) (by omega) (by decide) (Nat.zero_le _) (Nat.zero_le _) rfl rfl rfl rfl rfl ?_
      rintro v cc ⟨rfl, rfl⟩
      refine ⟨_, rfl, rfl, ?_⟩
      show AW Z 0 0 118 [some (.ref 0), some (.int q1)] [] ([kReader 0 1 6 v0, kTape 1 (Tape_s_at_fault v1 q33.1 q33.2), kTown 6 14 (Town_s_barred_bars v2 q32.2.2.1 q32.2.2.2), kLaws 14 v3] : List (List zE)).flatten
      cases hf
      exact AW.vret hZ hE rfl rfl rfl (Nat.le_refl 0) (Nat.le_refl 0) rfl ⟨rfl, rfl⟩
    · rw [if_neg c31] at hf
      refine ⟨fun c26 => ?_, fun c26 => ?_⟩
      · rw [if_pos c26] at hf
        obtain ⟨q27, h30, hf⟩ := zbind hf
        refine AW.callVc hZ hR hN (c_Reader_readSign N v0 v1 v2 v3 q27 h30) zMX9_readSign_ok rfl rfl zK_BorrowedLives_TownReader_56 zV_X9_readSign rfl [1, 5, 8, 6] [0, 1, 2, 3] [0, 1, 2, 3, 4, 5, 6, 7, 8, 9, 10, 11, 12, 13, 14, 15, 16, 17, 18, 19] rfl rfl rfl (by decide) (by decide) (by omega) (by decide) (Nat.zero_le _) (Nat.zero_le _) rfl rfl rfl rfl rfl ?_
        rintro v cc ⟨rfl, rfl⟩
        refine ⟨_, rfl, rfl, ?_⟩
        show AW Z 0 0 86 [some (.ref 0), some (.int q1)] [] ([kReader 0 1 6 v0, kTape 1 (Tape_s_at_fault v1 q27.1 q27.2.1), kTown 6 14 (Town_s_sign_signTold v2 q27.2.2.1 q27.2.2.2), kLaws 14 v3] : List (List zE)).flatten
        refine AW.run hZ hRm [115] 400 ?_
        show AW Z 0 0 115 [some (.ref 0), some (.int q1)] [.int 59, .ref 1] ([kReader 0 1 6 v0, kTape 1 (Tape_s_at_fault v1 q27.1 q27.2.1), kTown 6 14 (Town_s_sign_signTold v2 q27.2.2.1 q27.2.2.2), kLaws 14 v3] : List (List zE)).flatten
        obtain ⟨q28, h29, hf⟩ := zbind hf
        refine AW.callVc hZ hR hN (c_Tape_expect N (Tape_s_at_fault v1 q27.1 q27.2.1) 59 q28 h29) zMX7_expect_ok rfl rfl zK_BorrowedLives_TownReader_66 zV_X7_expect rfl [1, 5, 8, 6] [1] [1, 2, 3, 4, 5] rfl rfl rfl (by decide) (by decide) (by omega) (by decide) (Nat.zero_le _) (Nat.zero_le _) rfl rfl rfl rfl rfl ?_
        rintro v cc ⟨rfl, rfl⟩
        refine ⟨_, rfl, rfl, ?_⟩
        show AW Z 0 0 118 [some (.ref 0), some (.int q1)] [] ([kReader 0 1 6 v0, kTape 1 (Tape_s_at_fault v1 q28.1 q28.2), kTown 6 14 (Town_s_sign_signTold v2 q27.2.2.1 q27.2.2.2), kLaws 14 v3] : List (List zE)).flatten
        cases hf
        exact AW.vret hZ hE rfl rfl rfl (Nat.le_refl 0) (Nat.le_refl 0) rfl ⟨rfl, rfl⟩
      · rw [if_neg c26] at hf
        refine ⟨fun c21 => ?_, fun c21 => ?_⟩
        · rw [if_pos c21] at hf
          obtain ⟨q22, h25, hf⟩ := zbind hf
          refine AW.callVc hZ hR hN (c_Reader_readLaw N v0 v1 v2 v3 (q1 - 135) q22 h25) zMX9_readLaw_ok rfl rfl zK_BorrowedLives_TownReader_59 zV_X9_readLaw rfl [1, 5, 8, 6] [0, 1, 2, 3] [0, 1, 2, 3, 4, 5, 6, 7, 8, 9, 10, 11, 12, 13, 14, 15, 16, 17, 18, 19] rfl rfl rfl (by decide) (by decide) (by omega) (by decide) (Nat.zero_le _) (Nat.zero_le _) rfl rfl rfl rfl rfl ?_
          rintro v cc ⟨rfl, rfl⟩
          refine ⟨_, rfl, rfl, ?_⟩
          show AW Z 0 0 98 [some (.ref 0), some (.int q1)] [] ([kReader 0 1 6 (Reader_factsKnown_s v0 q22.1), kTape 1 (Tape_s_at_fault v1 q22.2.1 q22.2.2.1), kTown 6 14 v2, kLaws 14 (Laws_s_codes_size_from_to v3 q22.2.2.2.1 q22.2.2.2.2.1 q22.2.2.2.2.2.1 q22.2.2.2.2.2.2)] : List (List zE)).flatten
          refine AW.run hZ hRm [115] 400 ?_
          show AW Z 0 0 115 [some (.ref 0), some (.int q1)] [.int 59, .ref 1] ([kReader 0 1 6 (Reader_factsKnown_s v0 q22.1), kTape 1 (Tape_s_at_fault v1 q22.2.1 q22.2.2.1), kTown 6 14 v2, kLaws 14 (Laws_s_codes_size_from_to v3 q22.2.2.2.1 q22.2.2.2.2.1 q22.2.2.2.2.2.1 q22.2.2.2.2.2.2)] : List (List zE)).flatten
          obtain ⟨q23, h24, hf⟩ := zbind hf
          refine AW.callVc hZ hR hN (c_Tape_expect N (Tape_s_at_fault v1 q22.2.1 q22.2.2.1) 59 q23 h24) zMX7_expect_ok rfl rfl zK_BorrowedLives_TownReader_66 zV_X7_expect rfl [1, 5, 8, 6] [1] [1, 2, 3, 4, 5] rfl rfl rfl (by decide) (by decide) (by omega) (by decide) (Nat.zero_le _) (Nat.zero_le _) rfl rfl rfl rfl rfl ?_
          rintro v cc ⟨rfl, rfl⟩
          refine ⟨_, rfl, rfl, ?_⟩
          show AW Z 0 0 118 [some (.ref 0), some (.int q1)] [] ([kReader 0 1 6 (Reader_factsKnown_s v0 q22.1), kTape 1 (Tape_s_at_fault v1 q23.1 q23.2), kTown 6 14 v2, kLaws 14 (Laws_s_codes_size_from_to v3 q22.2.2.2.1 q22.2.2.2.2.1 q22.2.2.2.2.2.1 q22.2.2.2.2.2.2)] : List (List zE)).flatten
          cases hf
          exact AW.vret hZ hE rfl rfl rfl (Nat.le_refl 0) (Nat.le_refl 0) rfl ⟨rfl, rfl⟩
        · rw [if_neg c21] at hf
          refine ⟨fun c16 => ?_, fun c16 => ?_⟩
          · rw [if_pos c16] at hf
            obtain ⟨q17, h20, hf⟩ := zbind hf
            refine AW.callVc hZ hR hN (c_Reader_readLaw N v0 v1 v2 v3 (q1 - 135) q17 h20) zMX9_readLaw_ok rfl rfl zK_BorrowedLives_TownReader_59 zV_X9_readLaw rfl [1, 5, 8, 6] [0, 1, 2, 3] [0, 1, 2, 3, 4, 5, 6, 7, 8, 9, 10, 11, 12, 13, 14, 15, 16, 17, 18, 19] rfl rfl rfl (by decide) (by decide) (by omega) (by decide) (Nat.zero_le _) (Nat.zero_le _) rfl rfl rfl rfl rfl ?_
            rintro v cc ⟨rfl, rfl⟩
            refine ⟨_, rfl, rfl, ?_⟩
            show AW Z 0 0 98 [some (.ref 0), some (.int q1)] [] ([kReader 0 1 6 (Reader_factsKnown_s v0 q17.1), kTape 1 (Tape_s_at_fault v1 q17.2.1 q17.2.2.1), kTown 6 14 v2, kLaws 14 (Laws_s_codes_size_from_to v3 q17.2.2.2.1 q17.2.2.2.2.1 q17.2.2.2.2.2.1 q17.2.2.2.2.2.2)] : List (List zE)).flatten
            refine AW.run hZ hRm [115] 400 ?_
            show AW Z 0 0 115 [some (.ref 0), some (.int q1)] [.int 59, .ref 1] ([kReader 0 1 6 (Reader_factsKnown_s v0 q17.1), kTape 1 (Tape_s_at_fault v1 q17.2.1 q17.2.2.1), kTown 6 14 v2, kLaws 14 (Laws_s_codes_size_from_to v3 q17.2.2.2.1 q17.2.2.2.2.1 q17.2.2.2.2.2.1 q17.2.2.2.2.2.2)] : List (List zE)).flatten
            obtain ⟨q18, h19, hf⟩ := zbind hf
            refine AW.callVc hZ hR hN (c_Tape_expect N (Tape_s_at_fault v1 q17.2.1 q17.2.2.1) 59 q18 h19) zMX7_expect_ok rfl rfl zK_BorrowedLives_TownReader_66 zV_X7_expect rfl [1, 5, 8, 6] [1] [1, 2, 3, 4, 5] rfl rfl rfl (by decide) (by decide) (by omega) (by decide) (Nat.zero_le _) (Nat.zero_le _) rfl rfl rfl rfl rfl ?_
            rintro v cc ⟨rfl, rfl⟩
            refine ⟨_, rfl, rfl, ?_⟩
            show AW Z 0 0 118 [some (.ref 0), some (.int q1)] [] ([kReader 0 1 6 (Reader_factsKnown_s v0 q17.1), kTape 1 (Tape_s_at_fault v1 q18.1 q18.2), kTown 6 14 v2, kLaws 14 (Laws_s_codes_size_from_to v3 q17.2.2.2.1 q17.2.2.2.2.1 q17.2.2.2.2.2.1 q17.2.2.2.2.2.2)] : List (List zE)).flatten
            cases hf
            exact AW.vret hZ hE rfl rfl rfl (Nat.le_refl 0) (Nat.le_refl 0) rfl ⟨rfl, rfl⟩
          · rw [if_neg c16] at hf
            refine ⟨fun c11 => ?_, fun c11 => ?_⟩
            · rw [if_pos c11] at hf
              obtain ⟨q12, h15, hf⟩ := zbind hf
              refine AW.callVc hZ hR hN (c_Reader_readLaw N v0 v1 v2 v3 (q1 - 135) q12 h15) zMX9_readLaw_ok rfl rfl zK_BorrowedLives_TownReader_59 zV_X9_readLaw rfl [1, 5, 8, 6] [0, 1, 2, 3] [0, 1, 2, 3, 4, 5, 6, 7, 8, 9, 10, 11, 12, 13, 14, 15, 16, 17, 18, 19] rfl rfl rfl (by decide) (by decide) (by omega) (by decide) (Nat.zero_le _) (Nat.zero_le _) rfl rfl rfl rfl rfl ?_
              rintro v cc ⟨rfl, rfl⟩
              refine ⟨_, rfl, rfl, ?_⟩
              show AW Z 0 0 98 [some (.ref 0), some (.int q1)] [] ([kReader 0 1 6 (Reader_factsKnown_s v0 q12.1), kTape 1 (Tape_s_at_fault v1 q12.2.1 q12.2.2.1), kTown 6 14 v2, kLaws 14 (Laws_s_codes_size_from_to v3 q12.2.2.2.1 q12.2.2.2.2.1 q12.2.2.2.2.2.1 q12.2.2.2.2.2.2)] : List (List zE)).flatten
              refine AW.run hZ hRm [115] 400 ?_
              show AW Z 0 0 115 [some (.ref 0), some (.int q1)] [.int 59, .ref 1] ([kReader 0 1 6 (Reader_factsKnown_s v0 q12.1), kTape 1 (Tape_s_at_fault v1 q12.2.1 q12.2.2.1), kTown 6 14 v2, kLaws 14 (Laws_s_codes_size_from_to v3 q12.2.2.2.1 q12.2.2.2.2.1 q12.2.2.2.2.2.1 q12.2.2.2.2.2.2)] : List (List zE)).flatten
              obtain ⟨q13, h14, hf⟩ := zbind hf
              refine AW.callVc hZ hR hN (c_Tape_expect N (Tape_s_at_fault v1 q12.2.1 q12.2.2.1) 59 q13 h14) zMX7_expect_ok rfl rfl zK_BorrowedLives_TownReader_66 zV_X7_expect rfl [1, 5, 8, 6] [1] [1, 2, 3, 4, 5] rfl rfl rfl (by decide) (by decide) (by omega) (by decide) (Nat.zero_le _) (Nat.zero_le _) rfl rfl rfl rfl rfl ?_
              rintro v cc ⟨rfl, rfl⟩
              refine ⟨_, rfl, rfl, ?_⟩
              show AW Z 0 0 118 [some (.ref 0), some (.int q1)] [] ([kReader 0 1 6 (Reader_factsKnown_s v0 q12.1), kTape 1 (Tape_s_at_fault v1 q13.1 q13.2), kTown 6 14 v2, kLaws 14 (Laws_s_codes_size_from_to v3 q12.2.2.2.1 q12.2.2.2.2.1 q12.2.2.2.2.2.1 q12.2.2.2.2.2.2)] : List (List zE)).flatten
              cases hf
              exact AW.vret hZ hE rfl rfl rfl (Nat.le_refl 0) (Nat.le_refl 0) rfl ⟨rfl, rfl⟩
            · rw [if_neg c11] at hf
              refine ⟨fun c6 => ?_, fun c6 => ?_⟩
              · rw [if_pos c6] at hf
                obtain ⟨q7, h10, hf⟩ := zbind hf
                refine AW.callVc hZ hR hN (c_Reader_readLaw N v0 v1 v2 v3 (q1 - 135) q7 h10) zMX9_readLaw_ok rfl rfl zK_BorrowedLives_TownReader_59 zV_X9_readLaw rfl [1, 5, 8, 6] [0, 1, 2, 3] [0, 1, 2, 3, 4, 5, 6, 7, 8, 9, 10, 11, 12, 13, 14, 15, 16, 17, 18, 19] rfl rfl rfl (by decide) (by decide) (by omega) (by decide) (Nat.zero_le _) (Nat.zero_le _) rfl rfl rfl rfl rfl ?_
                rintro v cc ⟨rfl, rfl⟩
                refine ⟨_, rfl, rfl, ?_⟩
                show AW Z 0 0 98 [some (.ref 0), some (.int q1)] [] ([kReader 0 1 6 (Reader_factsKnown_s v0 q7.1), kTape 1 (Tape_s_at_fault v1 q7.2.1 q7.2.2.1), kTown 6 14 v2, kLaws 14 (Laws_s_codes_size_from_to v3 q7.2.2.2.1 q7.2.2.2.2.1 q7.2.2.2.2.2.1 q7.2.2.2.2.2.2)] : List (List zE)).flatten
                refine AW.run hZ hRm [115] 400 ?_
                show AW Z 0 0 115 [some (.ref 0), some (.int q1)] [.int 59, .ref 1] ([kReader 0 1 6 (Reader_factsKnown_s v0 q7.1), kTape 1 (Tape_s_at_fault v1 q7.2.1 q7.2.2.1), kTown 6 14 v2, kLaws 14 (Laws_s_codes_size_from_to v3 q7.2.2.2.1 q7.2.2.2.2.1 q7.2.2.2.2.2.1 q7.2.2.2.2.2.2)] : List (List zE)).flatten
                obtain ⟨q8, h9, hf⟩ := zbind hf
                refine AW.callVc hZ hR hN (c_Tape_expect N (Tape_s_at_fault v1 q7.2.1 q7.2.2.1) 59 q8 h9) zMX7_expect_ok rfl rfl zK_BorrowedLives_TownReader_66 zV_X7_expect rfl [1, 5, 8, 6] [1] [1, 2, 3, 4, 5] rfl rfl rfl (by decide) (by decide) (by omega) (by decide) (Nat.zero_le _) (Nat.zero_le _) rfl rfl rfl rfl rfl ?_
                rintro v cc ⟨rfl, rfl⟩
                refine ⟨_, rfl, rfl, ?_⟩
                show AW Z 0 0 118 [some (.ref 0), some (.int q1)] [] ([kReader 0 1 6 (Reader_factsKnown_s v0 q7.1), kTape 1 (Tape_s_at_fault v1 q8.1 q8.2), kTown 6 14 v2, kLaws 14 (Laws_s_codes_size_from_to v3 q7.2.2.2.1 q7.2.2.2.2.1 q7.2.2.2.2.2.1 q7.2.2.2.2.2.2)] : List (List zE)).flatten
                cases hf
                exact AW.vret hZ hE rfl rfl rfl (Nat.le_refl 0) (Nat.le_refl 0) rfl ⟨rfl, rfl⟩
              · rw [if_neg c6] at hf
                obtain ⟨q2, h5, hf⟩ := zbind hf
                refine AW.callVc hZ hR hN (c_Tape_wrong N v1 1 q2 h5) zMX7_wrong_ok rfl rfl zK_BorrowedLives_TownReader_63 zV_X7_wrong rfl [1, 5, 8, 6] [1] [1, 2, 3, 4, 5] rfl rfl rfl (by decide) (by decide) (by omega) (by decide) (Nat.zero_le _) (Nat.zero_le _) rfl rfl rfl rfl rfl ?_
                rintro v cc ⟨rfl, rfl⟩
                refine ⟨_, rfl, rfl, ?_⟩
                show AW Z 0 0 109 [some (.ref 0), some (.int q1)] [] ([kReader 0 1 6 v0, kTape 1 (Tape_fault_s v1 q2), kTown 6 14 v2, kLaws 14 v3] : List (List zE)).flatten
                refine AW.run hZ hRm [115] 400 ?_
                show AW Z 0 0 115 [some (.ref 0), some (.int q1)] [.int 59, .ref 1] ([kReader 0 1 6 v0, kTape 1 (Tape_fault_s v1 q2), kTown 6 14 v2, kLaws 14 v3] : List (List zE)).flatten
                obtain ⟨q3, h4, hf⟩ := zbind hf
                refine AW.callVc hZ hR hN (c_Tape_expect N (Tape_fault_s v1 q2) 59 q3 h4) zMX7_expect_ok rfl rfl zK_BorrowedLives_TownReader_66 zV_X7_expect rfl [1, 5, 8, 6] [1] [1, 2, 3, 4, 5] rfl rfl rfl (by decide) (by decide) (by omega) (by decide) (Nat.zero_le _) (Nat.zero_le _) rfl rfl rfl rfl rfl ?_
                rintro v cc ⟨rfl, rfl⟩
                refine ⟨_, rfl, rfl, ?_⟩
                show AW Z 0 0 118 [some (.ref 0), some (.int q1)] [] ([kReader 0 1 6 v0, kTape 1 (Tape_s_at_fault v1 q3.1 q3.2), kTown 6 14 v2, kLaws 14 v3] : List (List zE)).flatten
                cases hf
                exact AW.vret hZ hE rfl rfl rfl (Nat.le_refl 0) (Nat.le_refl 0) rfl ⟨rfl, rfl⟩
def f_Reader_readTown_L16 (N : Nat) : Nat → VReader → VTape → VTown → VLaws → Int32 → Int32 → Int32 → Int32 → Int32 → (Nat → Int64) → (Nat → Int32) → (Nat → Int32) → (Nat → Int32) → (Nat → Int32) → (Nat → Int32) → (Nat → Int32) → Int32 → Int32 → Int32 → (Nat → Int32) → Int32 → (Nat → Int32) → (Nat → Int32) → Option (Int32 × Int32 × Int32 × Int32 × (Nat → Int64) × (Nat → Int32) × (Nat → Int32) × (Nat → Int32) × (Nat → Int32) × (Nat → Int32) × (Nat → Int32) × Int32 × Int32 × Int32 × (Nat → Int32) × Int32 × (Nat → Int32) × (Nat → Int32))
  | 0, _, _, _, _, _, _, _, _, _, _, _, _, _, _, _, _, _, _, _, _, _, _, _ => none
  | fuel + 1, v0, v1, v2, v3, x1, m_factsKnown0, m_at1, m_fault2, m_people3, m_names4, m_kinds5, m_skills6, m_purses7, m_debts8, m_homes9, m_barred10, m_bars11, m_sign12, m_signTold13, m_codes14, m_size15, m_from16, m_to17 => (if (1000 < x1) then (some (m_factsKnown0, m_at1, m_fault2, m_people3, m_names4, m_kinds5, m_skills6, m_purses7, m_debts8, m_homes9, m_barred10, m_bars11, m_sign12, m_signTold13, m_codes14, m_size15, m_from16, m_to17)) else ((f_Tape_goesOn N (Tape_s_at_fault v1 m_at1 m_fault2)).bind (fun q4 => (if (q4 = 0) then (some (m_factsKnown0, m_at1, m_fault2, m_people3, m_names4, m_kinds5, m_skills6, m_purses7, m_debts8, m_homes9, m_barred10, m_bars11, m_sign12, m_signTold13, m_codes14, m_size15, m_from16, m_to17)) else ((f_Reader_readLine N (Reader_factsKnown_s v0 m_factsKnown0) (Tape_s_at_fault v1 m_at1 m_fault2) (Town_s_people_names_kinds_skills_purses_debts_homes_barred_bars_sign_signTold v2 m_people3 m_names4 m_kinds5 m_skills6 m_purses7 m_debts8 m_homes9 m_barred10 m_bars11 m_sign12 m_signTold13) (Laws_s_codes_size_from_to v3 m_codes14 m_size15 m_from16 m_to17)).bind (fun q6 => (f_Reader_readTown_L16 N fuel v0 v1 v2 v3 (x1 + 1) q6.1 q6.2.1 q6.2.2.1 q6.2.2.2.1 q6.2.2.2.2.1 q6.2.2.2.2.2.1 q6.2.2.2.2.2.2.1 q6.2.2.2.2.2.2.2.1 q6.2.2.2.2.2.2.2.2.1 q6.2.2.2.2.2.2.2.2.2.1 q6.2.2.2.2.2.2.2.2.2.2.1 q6.2.2.2.2.2.2.2.2.2.2.2.1 q6.2.2.2.2.2.2.2.2.2.2.2.2.1 q6.2.2.2.2.2.2.2.2.2.2.2.2.2.1 q6.2.2.2.2.2.2.2.2.2.2.2.2.2.2.1 q6.2.2.2.2.2.2.2.2.2.2.2.2.2.2.2.1 q6.2.2.2.2.2.2.2.2.2.2.2.2.2.2.2.2.1 q6.2.2.2.2.2.2.2.2.2.2.2.2.2.2.2.2.2)))))))
def f_Reader_readTown (N : Nat) (v0 : VReader) (v1 : VTape) (v2 : VTown) (v3 : VLaws) : Option (Int32 × Int32 × Int32 × (Nat → Int32) × (Nat → Int32) × (Nat → Int64) × Int32 × Int32 × Int32 × Int32 × (Nat → Int64) × (Nat → Int32) × (Nat → Int32) × (Nat → Int32) × (Nat → Int32) × (Nat → Int32) × (Nat → Int32) × Int32 × Int32 × Int32 × (Nat → Int32) × Int32 × (Nat → Int32) × (Nat → Int32)) := ((f_Town_clear N v2 v3).bind (fun q1 => ((f_Tape_takeAll N v1).bind (fun q2 => ((f_Reader_readTown_L16 N N v0 (Tape_s_length_tokens_places_values_tokenCount_at_fault v1 q2.1 q2.2.1 q2.2.2.1 q2.2.2.2.1 q2.2.2.2.2.1 q2.2.2.2.2.2.1 q2.2.2.2.2.2.2) (Town_s_people_barred_bars_sign_signTold v2 q1.1 q1.2.1 q1.2.2.1 q1.2.2.2.1 q1.2.2.2.2.1) (Laws_s_size_from_to v3 q1.2.2.2.2.2.1 q1.2.2.2.2.2.2.1 q1.2.2.2.2.2.2.2) 0 (Reader_factsKnown v0) q2.2.2.2.2.2.1 q2.2.2.2.2.2.2 q1.1 (Town_names v2) (Town_kinds v2) (Town_skills v2) (Town_purses v2) (Town_debts v2) (Town_homes v2) q1.2.1 q1.2.2.1 q1.2.2.2.1 q1.2.2.2.2.1 (Laws_codes v3) q1.2.2.2.2.2.1 q1.2.2.2.2.2.2.1 q1.2.2.2.2.2.2.2).bind (fun q9 => (some (q9.2.2.1, q9.1, q2.1, q2.2.1, q2.2.2.1, q2.2.2.2.1, q2.2.2.2.2.1, q9.2.1, q9.2.2.1, q9.2.2.2.1, q9.2.2.2.2.1, q9.2.2.2.2.2.1, q9.2.2.2.2.2.2.1, q9.2.2.2.2.2.2.2.1, q9.2.2.2.2.2.2.2.2.1, q9.2.2.2.2.2.2.2.2.2.1, q9.2.2.2.2.2.2.2.2.2.2.1, q9.2.2.2.2.2.2.2.2.2.2.2.1, q9.2.2.2.2.2.2.2.2.2.2.2.2.1, q9.2.2.2.2.2.2.2.2.2.2.2.2.2.1, q9.2.2.2.2.2.2.2.2.2.2.2.2.2.2.1, q9.2.2.2.2.2.2.2.2.2.2.2.2.2.2.2.1, q9.2.2.2.2.2.2.2.2.2.2.2.2.2.2.2.2.1, q9.2.2.2.2.2.2.2.2.2.2.2.2.2.2.2.2.2))))))))
set_option maxRecDepth 20000 in
set_option maxHeartbeats 4000000 in
theorem c_Reader_readTown_L16 {Z : zCtx} {D n0w nf mcw msw : Nat} (hZ : zOk Z zMX9_readTown) (hR : zCan Z D mcw msw) (hDd : 69 ≤ D) (hN : zNew Z n0w nf) (hRm : zRoom Z 0 0) (N : Nat) : ∀ (fuel : Nat) (v0 : VReader) (v1 : VTape) (v2 : VTown) (v3 : VLaws) (x1 : Int32) (m_factsKnown0 : Int32) (m_at1 : Int32) (m_fault2 : Int32) (m_people3 : Int32) (m_names4 : (Nat → Int64)) (m_kinds5 : (Nat → Int32)) (m_skills6 : (Nat → Int32)) (m_purses7 : (Nat → Int32)) (m_debts8 : (Nat → Int32)) (m_homes9 : (Nat → Int32)) (m_barred10 : (Nat → Int32)) (m_bars11 : Int32) (m_sign12 : Int32) (m_signTold13 : Int32) (m_codes14 : (Nat → Int32)) (m_size15 : Int32) (m_from16 : (Nat → Int32)) (m_to17 : (Nat → Int32)) (q : (Int32 × Int32 × Int32 × Int32 × (Nat → Int64) × (Nat → Int32) × (Nat → Int32) × (Nat → Int32) × (Nat → Int32) × (Nat → Int32) × (Nat → Int32) × Int32 × Int32 × Int32 × (Nat → Int32) × Int32 × (Nat → Int32) × (Nat → Int32))), f_Reader_readTown_L16 N fuel v0 v1 v2 v3 x1 m_factsKnown0 m_at1 m_fault2 m_people3 m_names4 m_kinds5 m_skills6 m_purses7 m_debts8 m_homes9 m_barred10 m_bars11 m_sign12 m_signTold13 m_codes14 m_size15 m_from16 m_to17 = some q → (AW Z 0 0 43 [some (.ref 0), none] [] ([kReader 0 1 6 (Reader_factsKnown_s v0 q.1), kTape 1 (Tape_s_at_fault v1 q.2.1 q.2.2.1), kTown 6 14 (Town_s_people_names_kinds_skills_purses_debts_homes_barred_bars_sign_signTold v2 q.2.2.2.1 q.2.2.2.2.1 q.2.2.2.2.2.1 q.2.2.2.2.2.2.1 q.2.2.2.2.2.2.2.1 q.2.2.2.2.2.2.2.2.1 q.2.2.2.2.2.2.2.2.2.1 q.2.2.2.2.2.2.2.2.2.2.1 q.2.2.2.2.2.2.2.2.2.2.2.1 q.2.2.2.2.2.2.2.2.2.2.2.2.1 q.2.2.2.2.2.2.2.2.2.2.2.2.2.1), kLaws 14 (Laws_s_codes_size_from_to v3 q.2.2.2.2.2.2.2.2.2.2.2.2.2.2.1 q.2.2.2.2.2.2.2.2.2.2.2.2.2.2.2.1 q.2.2.2.2.2.2.2.2.2.2.2.2.2.2.2.2.1 q.2.2.2.2.2.2.2.2.2.2.2.2.2.2.2.2.2)] : List (List zE)).flatten) → AW Z 0 0 16 [some (.ref 0), some (.int x1)] [] ([kReader 0 1 6 (Reader_factsKnown_s v0 m_factsKnown0), kTape 1 (Tape_s_at_fault v1 m_at1 m_fault2), kTown 6 14 (Town_s_people_names_kinds_skills_purses_debts_homes_barred_bars_sign_signTold v2 m_people3 m_names4 m_kinds5 m_skills6 m_purses7 m_debts8 m_homes9 m_barred10 m_bars11 m_sign12 m_signTold13), kLaws 14 (Laws_s_codes_size_from_to v3 m_codes14 m_size15 m_from16 m_to17)] : List (List zE)).flatten := by
  intro fuel
  induction fuel with
  | zero =>
    intro v0 v1 v2 v3 x1 m_factsKnown0 m_at1 m_fault2 m_people3 m_names4 m_kinds5 m_skills6 m_purses7 m_debts8 m_homes9 m_barred10 m_bars11 m_sign12 m_signTold13 m_codes14 m_size15 m_from16 m_to17 q hf hk0
    simp [f_Reader_readTown_L16] at hf
  | succ fuel ih =>
    intro v0 v1 v2 v3 x1 m_factsKnown0 m_at1 m_fault2 m_people3 m_names4 m_kinds5 m_skills6 m_purses7 m_debts8 m_homes9 m_barred10 m_bars11 m_sign12 m_signTold13 m_codes14 m_size15 m_from16 m_to17 q hf hk0
    rw [f_Reader_readTown_L16] at hf
    refine AW.run hZ hRm [27, 43] 400 ?_
    show (((1000 < x1) → AW Z 0 0 43 [some (.ref 0), some (.int x1)] [] ([kReader 0 1 6 (Reader_factsKnown_s v0 m_factsKnown0), kTape 1 (Tape_s_at_fault v1 m_at1 m_fault2), kTown 6 14 (Town_s_people_names_kinds_skills_purses_debts_homes_barred_bars_sign_signTold v2 m_people3 m_names4 m_kinds5 m_skills6 m_purses7 m_debts8 m_homes9 m_barred10 m_bars11 m_sign12 m_signTold13), kLaws 14 (Laws_s_codes_size_from_to v3 m_codes14 m_size15 m_from16 m_to17)] : List (List zE)).flatten) ∧ (¬ (1000 < x1) → AW Z 0 0 27 [some (.ref 0), some (.int x1)] [.ref 1] ([kReader 0 1 6 (Reader_factsKnown_s v0 m_factsKnown0), kTape 1 (Tape_s_at_fault v1 m_at1 m_fault2), kTown 6 14 (Town_s_people_names_kinds_skills_purses_debts_homes_barred_bars_sign_signTold v2 m_people3 m_names4 m_kinds5 m_skills6 m_purses7 m_debts8 m_homes9 m_barred10 m_bars11 m_sign12 m_signTold13), kLaws 14 (Laws_s_codes_size_from_to v3 m_codes14 m_size15 m_from16 m_to17)] : List (List zE)).flatten))
    refine ⟨fun c3 => ?_, fun c3 => ?_⟩
    · rw [if_pos c3] at hf
      cases hf
      refine AW.forget [true, false] ?_
      show AW Z 0 0 43 [some (.ref 0), none] [] ([kReader 0 1 6 (Reader_factsKnown_s v0 m_factsKnown0), kTape 1 (Tape_s_at_fault v1 m_at1 m_fault2), kTown 6 14 (Town_s_people_names_kinds_skills_purses_debts_homes_barred_bars_sign_signTold v2 m_people3 m_names4 m_kinds5 m_skills6 m_purses7 m_debts8 m_homes9 m_barred10 m_bars11 m_sign12 m_signTold13), kLaws 14 (Laws_s_codes_size_from_to v3 m_codes14 m_size15 m_from16 m_to17)] : List (List zE)).flatten
      exact hk0
    · rw [if_neg c3] at hf
      obtain ⟨q4, h8, hf⟩ := zbind hf
      refine AW.callVc hZ hR hN (c_Tape_goesOn N (Tape_s_at_fault v1 m_at1 m_fault2) q4 h8) zMX7_goesOn_ok rfl rfl zK_BorrowedLives_TownReader_36 zV_X7_goesOn rfl [1, 5, 8, 6] [1] [1, 2, 3, 4, 5] rfl rfl rfl (by decide) (by decide) (by omega) (by decide) (Nat.zero_le _) (Nat.zero_le _) rfl rfl rfl rfl rfl ?_
      rintro v cc ⟨rfl, rfl⟩
      refine ⟨_, rfl, rfl, ?_⟩
      show AW Z 0 0 30 [some (.ref 0), some (.int x1)] [.int q4] ([kReader 0 1 6 (Reader_factsKnown_s v0 m_factsKnown0), kTape 1 (Tape_s_at_fault v1 m_at1 m_fault2), kTown 6 14 (Town_s_people_names_kinds_skills_purses_debts_homes_barred_bars_sign_signTold v2 m_people3 m_names4 m_kinds5 m_skills6 m_purses7 m_debts8 m_homes9 m_barred10 m_bars11 m_sign12 m_signTold13), kLaws 14 (Laws_s_codes_size_from_to v3 m_codes14 m_size15 m_from16 m_to17)] : List (List zE)).flatten
      refine AW.run hZ hRm [34, 43] 400 ?_
      show (((q4 = 0) → AW Z 0 0 43 [some (.ref 0), some (.int x1)] [] ([kReader 0 1 6 (Reader_factsKnown_s v0 m_factsKnown0), kTape 1 (Tape_s_at_fault v1 m_at1 m_fault2), kTown 6 14 (Town_s_people_names_kinds_skills_purses_debts_homes_barred_bars_sign_signTold v2 m_people3 m_names4 m_kinds5 m_skills6 m_purses7 m_debts8 m_homes9 m_barred10 m_bars11 m_sign12 m_signTold13), kLaws 14 (Laws_s_codes_size_from_to v3 m_codes14 m_size15 m_from16 m_to17)] : List (List zE)).flatten) ∧ (¬ (q4 = 0) → AW Z 0 0 34 [some (.ref 0), some (.int x1)] [.ref 0] ([kReader 0 1 6 (Reader_factsKnown_s v0 m_factsKnown0), kTape 1 (Tape_s_at_fault v1 m_at1 m_fault2), kTown 6 14 (Town_s_people_names_kinds_skills_purses_debts_homes_barred_bars_sign_signTold v2 m_people3 m_names4 m_kinds5 m_skills6 m_purses7 m_debts8 m_homes9 m_barred10 m_bars11 m_sign12 m_signTold13), kLaws 14 (Laws_s_codes_size_from_to v3 m_codes14 m_size15 m_from16 m_to17)] : List (List zE)).flatten))
      refine ⟨fun c5 => ?_, fun c5 => ?_⟩
      · rw [if_pos c5] at hf
        cases hf
        refine AW.forget [true, false] ?_
        show AW Z 0 0 43 [some (.ref 0), none] [] ([kReader 0 1 6 (Reader_factsKnown_s v0 m_factsKnown0), kTape 1 (Tape_s_at_fault v1 m_at1 m_fault2), kTown 6 14 (Town_s_people_names_kinds_skills_purses_debts_homes_barred_bars_sign_signTold v2 m_people3 m_names4 m_kinds5 m_skills6 m_purses7 m_debts8 m_homes9 m_barred10 m_bars11 m_sign12 m_signTold13), kLaws 14 (Laws_s_codes_size_from_to v3 m_codes14 m_size15 m_from16 m_to17)] : List (List zE)).flatten
        exact hk0
      · rw [if_neg c5] at hf
        obtain ⟨q6, h7, hf⟩ := zbind hf
        refine AW.callVc hZ hR hN (c_Reader_readLine N (Reader_factsKnown_s v0 m_factsKnown0) (Tape_s_at_fault v1 m_at1 m_fault2) (Town_s_people_names_kinds_skills_purses_debts_homes_barred_bars_sign_signTold v2 m_people3 m_names4 m_kinds5 m_skills6 m_purses7 m_debts8 m_homes9 m_barred10 m_bars11 m_sign12 m_signTold13) (Laws_s_codes_size_from_to v3 m_codes14 m_size15 m_from16 m_to17) q6 h7) zMX9_readLine_ok rfl rfl zK_BorrowedLives_TownReader_40 zV_X9_readLine rfl [1, 5, 8, 6] [0, 1, 2, 3] [0, 1, 2, 3, 4, 5, 6, 7, 8, 9, 10, 11, 12, 13, 14, 15, 16, 17, 18, 19] rfl rfl rfl (by decide) (by decide) (by omega) (by decide) (Nat.zero_le _) (Nat.zero_le _) rfl rfl rfl rfl rfl ?_
        rintro v cc ⟨rfl, rfl⟩
        refine ⟨_, rfl, rfl, ?_⟩
        show AW Z 0 0 37 [some (.ref 0), some (.int x1)] [] ([kReader 0 1 6 (Reader_factsKnown_s v0 q6.1), kTape 1 (Tape_s_at_fault v1 q6.2.1 q6.2.2.1), kTown 6 14 (Town_s_people_names_kinds_skills_purses_debts_homes_barred_bars_sign_signTold v2 q6.2.2.2.1 q6.2.2.2.2.1 q6.2.2.2.2.2.1 q6.2.2.2.2.2.2.1 q6.2.2.2.2.2.2.2.1 q6.2.2.2.2.2.2.2.2.1 q6.2.2.2.2.2.2.2.2.2.1 q6.2.2.2.2.2.2.2.2.2.2.1 q6.2.2.2.2.2.2.2.2.2.2.2.1 q6.2.2.2.2.2.2.2.2.2.2.2.2.1 q6.2.2.2.2.2.2.2.2.2.2.2.2.2.1), kLaws 14 (Laws_s_codes_size_from_to v3 q6.2.2.2.2.2.2.2.2.2.2.2.2.2.2.1 q6.2.2.2.2.2.2.2.2.2.2.2.2.2.2.2.1 q6.2.2.2.2.2.2.2.2.2.2.2.2.2.2.2.2.1 q6.2.2.2.2.2.2.2.2.2.2.2.2.2.2.2.2.2)] : List (List zE)).flatten
        refine AW.run hZ hRm [16] 400 ?_
        show AW Z 0 0 16 [some (.ref 0), some (.int (x1 + 1))] [] ([kReader 0 1 6 (Reader_factsKnown_s v0 q6.1), kTape 1 (Tape_s_at_fault v1 q6.2.1 q6.2.2.1), kTown 6 14 (Town_s_people_names_kinds_skills_purses_debts_homes_barred_bars_sign_signTold v2 q6.2.2.2.1 q6.2.2.2.2.1 q6.2.2.2.2.2.1 q6.2.2.2.2.2.2.1 q6.2.2.2.2.2.2.2.1 q6.2.2.2.2.2.2.2.2.1 q6.2.2.2.2.2.2.2.2.2.1 q6.2.2.2.2.2.2.2.2.2.2.1 q6.2.2.2.2.2.2.2.2.2.2.2.1 q6.2.2.2.2.2.2.2.2.2.2.2.2.1 q6.2.2.2.2.2.2.2.2.2.2.2.2.2.1), kLaws 14 (Laws_s_codes_size_from_to v3 q6.2.2.2.2.2.2.2.2.2.2.2.2.2.2.1 q6.2.2.2.2.2.2.2.2.2.2.2.2.2.2.2.1 q6.2.2.2.2.2.2.2.2.2.2.2.2.2.2.2.2.1 q6.2.2.2.2.2.2.2.2.2.2.2.2.2.2.2.2.2)] : List (List zE)).flatten
        exact ih v0 v1 v2 v3 (x1 + 1) q6.1 q6.2.1 q6.2.2.1 q6.2.2.2.1 q6.2.2.2.2.1 q6.2.2.2.2.2.1 q6.2.2.2.2.2.2.1 q6.2.2.2.2.2.2.2.1 q6.2.2.2.2.2.2.2.2.1 q6.2.2.2.2.2.2.2.2.2.1 q6.2.2.2.2.2.2.2.2.2.2.1 q6.2.2.2.2.2.2.2.2.2.2.2.1 q6.2.2.2.2.2.2.2.2.2.2.2.2.1 q6.2.2.2.2.2.2.2.2.2.2.2.2.2.1 q6.2.2.2.2.2.2.2.2.2.2.2.2.2.2.1 q6.2.2.2.2.2.2.2.2.2.2.2.2.2.2.2.1 q6.2.2.2.2.2.2.2.2.2.2.2.2.2.2.2.2.1 q6.2.2.2.2.2.2.2.2.2.2.2.2.2.2.2.2.2 q hf hk0
set_option maxRecDepth 20000 in
set_option maxHeartbeats 4000000 in
theorem c_Reader_readTown (N : Nat) (v0 : VReader) (v1 : VTape) (v2 : VTown) (v3 : VLaws) (R : Int32 × Int32 × Int32 × (Nat → Int32) × (Nat → Int32) × (Nat → Int64) × Int32 × Int32 × Int32 × Int32 × (Nat → Int64) × (Nat → Int32) × (Nat → Int32) × (Nat → Int32) × (Nat → Int32) × (Nat → Int32) × (Nat → Int32) × Int32 × Int32 × Int32 × (Nat → Int32) × Int32 × (Nat → Int32) × (Nat → Int32)) (hf : f_Reader_readTown N v0 v1 v2 v3 = some R) : Ct zMX9_readTown 69 0 0 0 [.ref 0] ([kReader 0 1 6 v0, kTape 1 v1, kTown 6 14 v2, kLaws 14 v3] : List (List zE)).flatten (fun v cc => v = some (.int R.1) ∧ cc = ([kReader 0 1 6 (Reader_factsKnown_s v0 R.2.1), kTape 1 (Tape_s_length_tokens_places_values_tokenCount_at_fault v1 R.2.2.1 R.2.2.2.1 R.2.2.2.2.1 R.2.2.2.2.2.1 R.2.2.2.2.2.2.1 R.2.2.2.2.2.2.2.1 R.2.2.2.2.2.2.2.2.1), kTown 6 14 (Town_s_people_names_kinds_skills_purses_debts_homes_barred_bars_sign_signTold v2 R.2.2.2.2.2.2.2.2.2.1 R.2.2.2.2.2.2.2.2.2.2.1 R.2.2.2.2.2.2.2.2.2.2.2.1 R.2.2.2.2.2.2.2.2.2.2.2.2.1 R.2.2.2.2.2.2.2.2.2.2.2.2.2.1 R.2.2.2.2.2.2.2.2.2.2.2.2.2.2.1 R.2.2.2.2.2.2.2.2.2.2.2.2.2.2.2.1 R.2.2.2.2.2.2.2.2.2.2.2.2.2.2.2.2.1 R.2.2.2.2.2.2.2.2.2.2.2.2.2.2.2.2.2.1 R.2.2.2.2.2.2.2.2.2.2.2.2.2.2.2.2.2.2.1 R.2.2.2.2.2.2.2.2.2.2.2.2.2.2.2.2.2.2.2.1), kLaws 14 (Laws_s_codes_size_from_to v3 R.2.2.2.2.2.2.2.2.2.2.2.2.2.2.2.2.2.2.2.2.1 R.2.2.2.2.2.2.2.2.2.2.2.2.2.2.2.2.2.2.2.2.2.1 R.2.2.2.2.2.2.2.2.2.2.2.2.2.2.2.2.2.2.2.2.2.2.1 R.2.2.2.2.2.2.2.2.2.2.2.2.2.2.2.2.2.2.2.2.2.2.2)] : List (List zE)).flatten) := by
  refine Ct.of zMX9_readTown_ok (by decide) (Nat.le_of_ble_eq_true rfl) ?_
  intro Z hZ hR hN hE
  have hRm : zRoom Z 0 0 := zRoom0 Z
  unfold f_Reader_readTown at hf
  show AW Z 0 0 0 [some (.ref 0), none] [] ([kReader 0 1 6 v0, kTape 1 v1, kTown 6 14 v2, kLaws 14 v3] : List (List zE)).flatten
  refine AW.run hZ hRm [4] 400 ?_
  show AW Z 0 0 4 [some (.ref 0), none] [.ref 6] ([kReader 0 1 6 v0, kTape 1 v1, kTown 6 14 v2, kLaws 14 v3] : List (List zE)).flatten
  obtain ⟨q1, h12, hf⟩ := zbind hf
  refine AW.callVc hZ hR hN (c_Town_clear N v2 v3 q1 h12) zMX8_clear_ok rfl rfl zK_BorrowedLives_TownReader_28 zV_X8_clear rfl [1, 5, 8, 6] [2, 3] [6, 7, 8, 9, 10, 11, 12, 13, 14, 15, 16, 17, 18, 19] rfl rfl rfl (by decide) (by decide) (by omega) (by decide) (Nat.zero_le _) (Nat.zero_le _) rfl rfl rfl rfl rfl ?_
  rintro v cc ⟨rfl, rfl⟩
  refine ⟨_, rfl, rfl, ?_⟩
  show AW Z 0 0 7 [some (.ref 0), none] [] ([kReader 0 1 6 v0, kTape 1 v1, kTown 6 14 (Town_s_people_barred_bars_sign_signTold v2 q1.1 q1.2.1 q1.2.2.1 q1.2.2.2.1 q1.2.2.2.2.1), kLaws 14 (Laws_s_size_from_to v3 q1.2.2.2.2.2.1 q1.2.2.2.2.2.2.1 q1.2.2.2.2.2.2.2)] : List (List zE)).flatten
  refine AW.run hZ hRm [11] 400 ?_
  show AW Z 0 0 11 [some (.ref 0), none] [.ref 1] ([kReader 0 1 6 v0, kTape 1 v1, kTown 6 14 (Town_s_people_barred_bars_sign_signTold v2 q1.1 q1.2.1 q1.2.2.1 q1.2.2.2.1 q1.2.2.2.2.1), kLaws 14 (Laws_s_size_from_to v3 q1.2.2.2.2.2.1 q1.2.2.2.2.2.2.1 q1.2.2.2.2.2.2.2)] : List (List zE)).flatten
  obtain ⟨q2, h11, hf⟩ := zbind hf
  refine AW.callVc hZ hR hN (c_Tape_takeAll N v1 q2 h11) zMX7_takeAll_ok rfl rfl zK_BorrowedLives_TownReader_31 zV_X7_takeAll rfl [1, 5, 8, 6] [1] [1, 2, 3, 4, 5] rfl rfl rfl (by decide) (by decide) (by omega) (by decide) (Nat.zero_le _) (Nat.zero_le _) rfl rfl rfl rfl rfl ?_
  rintro v cc ⟨rfl, rfl⟩
  refine ⟨_, rfl, rfl, ?_⟩
  show AW Z 0 0 14 [some (.ref 0), none] [] ([kReader 0 1 6 v0, kTape 1 (Tape_s_length_tokens_places_values_tokenCount_at_fault v1 q2.1 q2.2.1 q2.2.2.1 q2.2.2.2.1 q2.2.2.2.2.1 q2.2.2.2.2.2.1 q2.2.2.2.2.2.2), kTown 6 14 (Town_s_people_barred_bars_sign_signTold v2 q1.1 q1.2.1 q1.2.2.1 q1.2.2.2.1 q1.2.2.2.2.1), kLaws 14 (Laws_s_size_from_to v3 q1.2.2.2.2.2.1 q1.2.2.2.2.2.2.1 q1.2.2.2.2.2.2.2)] : List (List zE)).flatten
  refine AW.run hZ hRm [16] 400 ?_
  show AW Z 0 0 16 [some (.ref 0), some (.int 0)] [] ([kReader 0 1 6 v0, kTape 1 (Tape_s_length_tokens_places_values_tokenCount_at_fault v1 q2.1 q2.2.1 q2.2.2.1 q2.2.2.2.1 q2.2.2.2.2.1 q2.2.2.2.2.2.1 q2.2.2.2.2.2.2), kTown 6 14 (Town_s_people_barred_bars_sign_signTold v2 q1.1 q1.2.1 q1.2.2.1 q1.2.2.2.1 q1.2.2.2.2.1), kLaws 14 (Laws_s_size_from_to v3 q1.2.2.2.2.2.1 q1.2.2.2.2.2.2.1 q1.2.2.2.2.2.2.2)] : List (List zE)).flatten
  obtain ⟨q9, h10, hf⟩ := zbind hf
  refine c_Reader_readTown_L16 hZ hR (by omega) hN hRm N N v0 (Tape_s_length_tokens_places_values_tokenCount_at_fault v1 q2.1 q2.2.1 q2.2.2.1 q2.2.2.2.1 q2.2.2.2.2.1 q2.2.2.2.2.2.1 q2.2.2.2.2.2.2) (Town_s_people_barred_bars_sign_signTold v2 q1.1 q1.2.1 q1.2.2.1 q1.2.2.2.1 q1.2.2.2.2.1) (Laws_s_size_from_to v3 q1.2.2.2.2.2.1 q1.2.2.2.2.2.2.1 q1.2.2.2.2.2.2.2) 0 (Reader_factsKnown v0) q2.2.2.2.2.2.1 q2.2.2.2.2.2.2 q1.1 (Town_names v2) (Town_kinds v2) (Town_skills v2) (Town_purses v2) (Town_debts v2) (Town_homes v2) q1.2.1 q1.2.2.1 q1.2.2.2.1 q1.2.2.2.2.1 (Laws_codes v3) q1.2.2.2.2.2.1 q1.2.2.2.2.2.2.1 q1.2.2.2.2.2.2.2 q9 h10 ?_
  show AW Z 0 0 43 [some (.ref 0), none] [] ([kReader 0 1 6 (Reader_factsKnown_s v0 q9.1), kTape 1 (Tape_s_length_tokens_places_values_tokenCount_at_fault v1 q2.1 q2.2.1 q2.2.2.1 q2.2.2.2.1 q2.2.2.2.2.1 q9.2.1 q9.2.2.1), kTown 6 14 (Town_s_people_names_kinds_skills_purses_debts_homes_barred_bars_sign_signTold v2 q9.2.2.2.1 q9.2.2.2.2.1 q9.2.2.2.2.2.1 q9.2.2.2.2.2.2.1 q9.2.2.2.2.2.2.2.1 q9.2.2.2.2.2.2.2.2.1 q9.2.2.2.2.2.2.2.2.2.1 q9.2.2.2.2.2.2.2.2.2.2.1 q9.2.2.2.2.2.2.2.2.2.2.2.1 q9.2.2.2.2.2.2.2.2.2.2.2.2.1 q9.2.2.2.2.2.2.2.2.2.2.2.2.2.1), kLaws 14 (Laws_s_codes_size_from_to v3 q9.2.2.2.2.2.2.2.2.2.2.2.2.2.2.1 q9.2.2.2.2.2.2.2.2.2.2.2.2.2.2.2.1 q9.2.2.2.2.2.2.2.2.2.2.2.2.2.2.2.2.1 q9.2.2.2.2.2.2.2.2.2.2.2.2.2.2.2.2.2)] : List (List zE)).flatten
  refine AW.run hZ hRm [50] 400 ?_
  show AW Z 0 0 50 [some (.ref 0), none] [.int q9.2.2.1] ([kReader 0 1 6 (Reader_factsKnown_s v0 q9.1), kTape 1 (Tape_s_length_tokens_places_values_tokenCount_at_fault v1 q2.1 q2.2.1 q2.2.2.1 q2.2.2.2.1 q2.2.2.2.2.1 q9.2.1 q9.2.2.1), kTown 6 14 (Town_s_people_names_kinds_skills_purses_debts_homes_barred_bars_sign_signTold v2 q9.2.2.2.1 q9.2.2.2.2.1 q9.2.2.2.2.2.1 q9.2.2.2.2.2.2.1 q9.2.2.2.2.2.2.2.1 q9.2.2.2.2.2.2.2.2.1 q9.2.2.2.2.2.2.2.2.2.1 q9.2.2.2.2.2.2.2.2.2.2.1 q9.2.2.2.2.2.2.2.2.2.2.2.1 q9.2.2.2.2.2.2.2.2.2.2.2.2.1 q9.2.2.2.2.2.2.2.2.2.2.2.2.2.1), kLaws 14 (Laws_s_codes_size_from_to v3 q9.2.2.2.2.2.2.2.2.2.2.2.2.2.2.1 q9.2.2.2.2.2.2.2.2.2.2.2.2.2.2.2.1 q9.2.2.2.2.2.2.2.2.2.2.2.2.2.2.2.2.1 q9.2.2.2.2.2.2.2.2.2.2.2.2.2.2.2.2.2)] : List (List zE)).flatten
  cases hf
  exact AW.iret hZ hE rfl rfl rfl rfl (Nat.le_refl 0) (Nat.le_refl 0) rfl ⟨rfl, rfl⟩
def f_Year_copyFrom (N : Nat) (v0 : VYear) (v1 : VYear) : Option (Int32 × (Nat → Int32) × (Nat → Int32) × (Nat → Int32)) := (some ((Year_lines v1), (va_cpy (Year_words v1) (Year_words v0) (Int32.toNatClampNeg 0) (Int32.toNatClampNeg 0) (Int32.toNatClampNeg 40)), (va_cpy (Year_first v1) (Year_first v0) (Int32.toNatClampNeg 0) (Int32.toNatClampNeg 0) (Int32.toNatClampNeg 40)), (va_cpy (Year_second v1) (Year_second v0) (Int32.toNatClampNeg 0) (Int32.toNatClampNeg 0) (Int32.toNatClampNeg 40))))
set_option maxRecDepth 20000 in
set_option maxHeartbeats 4000000 in
theorem c_Year_copyFrom (N : Nat) (v0 : VYear) (v1 : VYear) (R : Int32 × (Nat → Int32) × (Nat → Int32) × (Nat → Int32)) (hf : f_Year_copyFrom N v0 v1 = some R) : Ct zMX10_copyFrom 2 0 0 0 [.ref 0, .ref 4] ([kYear 0 v0, kYear 4 v1] : List (List zE)).flatten (fun v cc => v = none ∧ cc = ([kYear 0 (Year_s_lines_words_first_second v0 R.1 R.2.1 R.2.2.1 R.2.2.2), kYear 4 v1] : List (List zE)).flatten) := by
  refine Ct.of zMX10_copyFrom_ok (by decide) (Nat.le_of_ble_eq_true rfl) ?_
  intro Z hZ hR hN hE
  have hRm : zRoom Z 0 0 := zRoom0 Z
  unfold f_Year_copyFrom at hf
  show AW Z 0 0 0 [some (.ref 0), some (.ref 4)] [] ([kYear 0 v0, kYear 4 v1] : List (List zE)).flatten
  refine AW.run hZ hRm [53] 400 ?_
  show ((zcpyOk 0 0 40 40 40) ∧ ((zcpyOk 0 0 40 40 40) ∧ ((zcpyOk 0 0 40 40 40) ∧ AW Z 0 0 53 [some (.ref 0), some (.ref 4)] [] ([kYear 0 (Year_s_lines_words_first_second v0 (Year_lines v1) (va_cpy (Year_words v1) (Year_words v0) (Int32.toNatClampNeg 0) (Int32.toNatClampNeg 0) (Int32.toNatClampNeg 40)) (va_cpy (Year_first v1) (Year_first v0) (Int32.toNatClampNeg 0) (Int32.toNatClampNeg 0) (Int32.toNatClampNeg 40)) (va_cpy (Year_second v1) (Year_second v0) (Int32.toNatClampNeg 0) (Int32.toNatClampNeg 0) (Int32.toNatClampNeg 40))), kYear 4 v1] : List (List zE)).flatten)))
  refine ⟨(by unfold zcpyOk; decide), ?_⟩
  refine ⟨(by unfold zcpyOk; decide), ?_⟩
  refine ⟨(by unfold zcpyOk; decide), ?_⟩
  cases hf
  exact AW.vret hZ hE rfl rfl rfl (Nat.le_refl 0) (Nat.le_refl 0) rfl ⟨rfl, rfl⟩
