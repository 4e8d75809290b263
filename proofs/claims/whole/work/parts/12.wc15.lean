def f_Reader_readBar (N : Nat) (v0 : VReader) (v1 : VTape) (v2 : VTown) (v3 : VLaws) : Option (Int32 × Int32 × (Nat → Int32) × Int32) := ((f_Tape_advance N v1).bind (fun q1 => ((f_Tape_readPerson N (Tape_at_s v1 q1) v2 v3).bind (fun q2 => ((f_Tape_isName N (Tape_s_at_fault v1 q2.2.1 q2.2.2)).bind (fun q3 => (if (q3 = 0) then ((f_Tape_readPerson N (Tape_s_at_fault v1 q2.2.1 q2.2.2) v2 v3).bind (fun q5 => (if (q5.2.2 = 0) then ((f_Town_addBar N v2 v3 q2.1 (-1)).bind (fun q7 => (some (q5.2.1, q5.2.2, q7.1, q7.2)))) else (some (q5.2.1, q5.2.2, (Town_barred v2), (Town_bars v2)))))) else ((f_Tape_value N (Tape_s_at_fault v1 q2.2.1 q2.2.2)).bind (fun q10 => ((f_Town_named N v2 v3 q10).bind (fun q11 => (if (q11 = (-1)) then ((f_Tape_readPerson N (Tape_s_at_fault v1 q2.2.1 q2.2.2) v2 v3).bind (fun q13 => (if (q13.2.2 = 0) then ((f_Town_addBar N v2 v3 q2.1 q11).bind (fun q15 => (some (q13.2.1, q13.2.2, q15.1, q15.2)))) else (some (q13.2.1, q13.2.2, (Town_barred v2), (Town_bars v2)))))) else (if (q11 = q2.1) then ((f_Tape_wrong N (Tape_s_at_fault v1 q2.2.1 q2.2.2) 3).bind (fun q19 => ((f_Tape_readPerson N (Tape_s_at_fault v1 q2.2.1 q19) v2 v3).bind (fun q20 => (if (q20.2.2 = 0) then ((f_Town_addBar N v2 v3 q2.1 q11).bind (fun q22 => (some (q20.2.1, q20.2.2, q22.1, q22.2)))) else (some (q20.2.1, q20.2.2, (Town_barred v2), (Town_bars v2)))))))) else ((f_Town_isBarred N v2 v3 q2.1 q11).bind (fun q26 => (if (q26 = 0) then ((f_Tape_readPerson N (Tape_s_at_fault v1 q2.2.1 q2.2.2) v2 v3).bind (fun q28 => (if (q28.2.2 = 0) then ((f_Town_addBar N v2 v3 q2.1 q11).bind (fun q30 => (some (q28.2.1, q28.2.2, q30.1, q30.2)))) else (some (q28.2.1, q28.2.2, (Town_barred v2), (Town_bars v2)))))) else ((f_Tape_wrong N (Tape_s_at_fault v1 q2.2.1 q2.2.2) 3).bind (fun q33 => ((f_Tape_readPerson N (Tape_s_at_fault v1 q2.2.1 q33) v2 v3).bind (fun q34 => (if (q34.2.2 = 0) then ((f_Town_addBar N v2 v3 q2.1 q11).bind (fun q36 => (some (q34.2.1, q34.2.2, q36.1, q36.2)))) else (some (q34.2.1, q34.2.2, (Town_barred v2), (Town_bars v2))))))))))))))))))))))))
set_option maxRecDepth 20000 in
set_option maxHeartbeats 4000000 in
theorem c_Reader_readBar (N : Nat) (v0 : VReader) (v1 : VTape) (v2 : VTown) (v3 : VLaws) (R : Int32 × Int32 × (Nat → Int32) × Int32) (hf : f_Reader_readBar N v0 v1 v2 v3 = some R) : Ct zMX9_readBar 4 0 0 0 [.ref 0] ([kReader 0 1 6 v0, kTape 1 v1, kTown 6 14 v2, kLaws 14 v3] : List (List zE)).flatten (fun v cc => v = none ∧ cc = ([kReader 0 1 6 v0, kTape 1 (Tape_s_at_fault v1 R.1 R.2.1), kTown 6 14 (Town_s_barred_bars v2 R.2.2.1 R.2.2.2), kLaws 14 v3] : List (List zE)).flatten) := by
  refine Ct.of zMX9_readBar_ok (by decide) (Nat.le_of_ble_eq_true rfl) ?_
  intro Z hZ hR hN hE
  have hRm : zRoom Z 0 0 := zRoom0 Z
  unfold f_Reader_readBar at hf
  show AW Z 0 0 0 [some (.ref 0), none, none] [] ([kReader 0 1 6 v0, kTape 1 v1, kTown 6 14 v2, kLaws 14 v3] : List (List zE)).flatten
  refine AW.run hZ hRm [4] 400 ?_
  show AW Z 0 0 4 [some (.ref 0), none, none] [.ref 1] ([kReader 0 1 6 v0, kTape 1 v1, kTown 6 14 v2, kLaws 14 v3] : List (List zE)).flatten
  obtain ⟨q1, h45, hf⟩ := zbind hf
  refine AW.callVc hZ hR hN (c_Tape_advance N v1 q1 h45) zMX7_advance_ok rfl rfl zK_BorrowedLives_TownReader_72 zV_X7_advance rfl [1, 5, 8, 6] [1] [1, 2, 3, 4, 5] rfl rfl rfl (by decide) (by decide) (by omega) (by decide) (Nat.zero_le _) (Nat.zero_le _) rfl rfl rfl rfl rfl ?_
  rintro v cc ⟨rfl, rfl⟩
  refine ⟨_, rfl, rfl, ?_⟩
  show AW Z 0 0 7 [some (.ref 0), none, none] [] ([kReader 0 1 6 v0, kTape 1 (Tape_at_s v1 q1), kTown 6 14 v2, kLaws 14 v3] : List (List zE)).flatten
  refine AW.run hZ hRm [15] 400 ?_
  show AW Z 0 0 15 [some (.ref 0), none, none] [.ref 6, .ref 1] ([kReader 0 1 6 v0, kTape 1 (Tape_at_s v1 q1), kTown 6 14 v2, kLaws 14 v3] : List (List zE)).flatten
  obtain ⟨q2, h44, hf⟩ := zbind hf
  refine AW.callVc hZ hR hN (c_Tape_readPerson N (Tape_at_s v1 q1) v2 v3 q2 h44) zMX7_readPerson_ok rfl rfl zK_BorrowedLives_TownReader_118 zV_X7_readPerson rfl [1, 5, 8, 6] [1, 2, 3] [1, 2, 3, 4, 5, 6, 7, 8, 9, 10, 11, 12, 13, 14, 15, 16, 17, 18, 19] rfl rfl rfl (by decide) (by decide) (by omega) (by decide) (Nat.zero_le _) (Nat.zero_le _) rfl rfl rfl rfl rfl ?_
  rintro v cc ⟨rfl, rfl⟩
  refine ⟨_, rfl, rfl, ?_⟩
  show AW Z 0 0 18 [some (.ref 0), none, none] [.int q2.1] ([kReader 0 1 6 v0, kTape 1 (Tape_s_at_fault v1 q2.2.1 q2.2.2), kTown 6 14 v2, kLaws 14 v3] : List (List zE)).flatten
  refine AW.run hZ hRm [23] 400 ?_
  show AW Z 0 0 23 [some (.ref 0), some (.int q2.1), none] [.ref 1] ([kReader 0 1 6 v0, kTape 1 (Tape_s_at_fault v1 q2.2.1 q2.2.2), kTown 6 14 v2, kLaws 14 v3] : List (List zE)).flatten
  obtain ⟨q3, h43, hf⟩ := zbind hf
  refine AW.callVc hZ hR hN (c_Tape_isName N (Tape_s_at_fault v1 q2.2.1 q2.2.2) q3 h43) zMX7_isName_ok rfl rfl zK_BorrowedLives_TownReader_107 zV_X7_isName rfl [1, 5, 8, 6] [1] [1, 2, 3, 4, 5] rfl rfl rfl (by decide) (by decide) (by omega) (by decide) (Nat.zero_le _) (Nat.zero_le _) rfl rfl rfl rfl rfl ?_
  rintro v cc ⟨rfl, rfl⟩
  refine ⟨_, rfl, rfl, ?_⟩
  show AW Z 0 0 26 [some (.ref 0), some (.int q2.1), none] [.int q3] ([kReader 0 1 6 v0, kTape 1 (Tape_s_at_fault v1 q2.2.1 q2.2.2), kTown 6 14 v2, kLaws 14 v3] : List (List zE)).flatten
  refine AW.run hZ hRm [37, 86] 400 ?_
  show (((q3 = 0) → (((((-1) : Int32) = (-1)) → AW Z 0 0 86 [some (.ref 0), some (.int q2.1), some (.int (-1))] [.ref 6, .ref 1] ([kReader 0 1 6 v0, kTape 1 (Tape_s_at_fault v1 q2.2.1 q2.2.2), kTown 6 14 v2, kLaws 14 v3] : List (List zE)).flatten) ∧ (¬ (((-1) : Int32) = (-1)) → ((((-1) = q2.1) → AW Z 0 0 75 [some (.ref 0), some (.int q2.1), some (.int (-1))] [.int 3, .ref 1] ([kReader 0 1 6 v0, kTape 1 (Tape_s_at_fault v1 q2.2.1 q2.2.2), kTown 6 14 v2, kLaws 14 v3] : List (List zE)).flatten) ∧ (¬ ((-1) = q2.1) → AW Z 0 0 64 [some (.ref 0), some (.int q2.1), some (.int (-1))] [.int (-1), .int q2.1, .ref 6] ([kReader 0 1 6 v0, kTape 1 (Tape_s_at_fault v1 q2.2.1 q2.2.2), kTown 6 14 v2, kLaws 14 v3] : List (List zE)).flatten))))) ∧ (¬ (q3 = 0) → AW Z 0 0 37 [some (.ref 0), some (.int q2.1), none] [.ref 1, .ref 6] ([kReader 0 1 6 v0, kTape 1 (Tape_s_at_fault v1 q2.2.1 q2.2.2), kTown 6 14 v2, kLaws 14 v3] : List (List zE)).flatten))
  refine ⟨fun c4 => ?_, fun c4 => ?_⟩
  · rw [if_pos c4] at hf
    refine ⟨fun _ => ?_, fun h => absurd h (by decide)⟩
    obtain ⟨q5, h9, hf⟩ := zbind hf
    refine AW.callVc hZ hR hN (c_Tape_readPerson N (Tape_s_at_fault v1 q2.2.1 q2.2.2) v2 v3 q5 h9) zMX7_readPerson_ok rfl rfl zK_BorrowedLives_TownReader_118 zV_X7_readPerson rfl [1, 5, 8, 6] [1, 2, 3] [1, 2, 3, 4, 5, 6, 7, 8, 9, 10, 11, 12, 13, 14, 15, 16, 17, 18, 19] rfl rfl rfl (by decide) (by decide) (by omega) (by decide) (Nat.zero_le _) (Nat.zero_le _) rfl rfl rfl rfl rfl ?_
    rintro v cc ⟨rfl, rfl⟩
    refine ⟨_, rfl, rfl, ?_⟩
    show AW Z 0 0 89 [some (.ref 0), some (.int q2.1), some (.int (-1))] [.int q5.1] ([kReader 0 1 6 v0, kTape 1 (Tape_s_at_fault v1 q5.2.1 q5.2.2), kTown 6 14 v2, kLaws 14 v3] : List (List zE)).flatten
    refine AW.run hZ hRm [106, 109] 400 ?_
    show ((¬ (q5.2.2 = 0) → AW Z 0 0 109 [some (.ref 0), some (.int q2.1), some (.int (-1))] [] ([kReader 0 1 6 v0, kTape 1 (Tape_s_at_fault v1 q5.2.1 q5.2.2), kTown 6 14 v2, kLaws 14 v3] : List (List zE)).flatten) ∧ ((q5.2.2 = 0) → AW Z 0 0 106 [some (.ref 0), some (.int q2.1), some (.int (-1))] [.int (-1), .int q2.1, .ref 6] ([kReader 0 1 6 v0, kTape 1 (Tape_s_at_fault v1 q5.2.1 q5.2.2), kTown 6 14 v2, kLaws 14 v3] : List (List zE)).flatten))
    refine ⟨fun c6 => ?_, fun c6 => ?_⟩
    · rw [if_neg c6] at hf
      cases hf
      exact AW.vret hZ hE rfl rfl rfl (Nat.le_refl 0) (Nat.le_refl 0) rfl ⟨rfl, rfl⟩
    · rw [if_pos c6] at hf
      obtain ⟨q7, h8, hf⟩ := zbind hf
      refine AW.callVc hZ hR hN (c_Town_addBar N v2 v3 q2.1 (-1) q7 h8) zMX8_addBar_ok rfl rfl zK_BorrowedLives_TownReader_126 zV_X8_addBar rfl [1, 5, 8, 6] [2, 3] [6, 7, 8, 9, 10, 11, 12, 13, 14, 15, 16, 17, 18, 19] rfl rfl rfl (by decide) (by decide) (by omega) (by decide) (Nat.zero_le _) (Nat.zero_le _) rfl rfl rfl rfl rfl ?_
      rintro v cc ⟨rfl, rfl⟩
      refine ⟨_, rfl, rfl, ?_⟩
      show AW Z 0 0 109 [some (.ref 0), some (.int q2.1), some (.int (-1))] [] ([kReader 0 1 6 v0, kTape 1 (Tape_s_at_fault v1 q5.2.1 q5.2.2), kTown 6 14 (Town_s_barred_bars v2 q7.1 q7.2), kLaws 14 v3] : List (List zE)).flatten
      cases hf
      exact AW.vret hZ hE rfl rfl rfl (Nat.le_refl 0) (Nat.le_refl 0) rfl ⟨rfl, rfl⟩
  · rw [if_neg c4] at hf
    obtain ⟨q10, h42, hf⟩ := zbind hf
    refine AW.callVc hZ hR hN (c_Tape_value N (Tape_s_at_fault v1 q2.2.1 q2.2.2) q10 h42) zMX7_value_ok rfl rfl zK_BorrowedLives_TownReader_104 zV_X7_value rfl [1, 5, 8, 6] [1] [1, 2, 3, 4, 5] rfl rfl rfl (by decide) (by decide) (by omega) (by decide) (Nat.zero_le _) (Nat.zero_le _) rfl rfl rfl rfl rfl ?_
    rintro v cc ⟨rfl, rfl⟩
    refine ⟨_, rfl, rfl, ?_⟩
    show AW Z 0 0 40 [some (.ref 0), some (.int q2.1), none] [.long q10, .ref 6] ([kReader 0 1 6 v0, kTape 1 (Tape_s_at_fault v1 q2.2.1 q2.2.2), kTown 6 14 v2, kLaws 14 v3] : List (List zE)).flatten
    obtain ⟨q11, h41, hf⟩ := zbind hf
    refine AW.callVc hZ hR hN (c_Town_named N v2 v3 q10 q11 h41) zMX8_named_ok rfl rfl zK_BorrowedLives_TownReader_110 zV_X8_named rfl [1, 5, 8, 6] [2, 3] [6, 7, 8, 9, 10, 11, 12, 13, 14, 15, 16, 17, 18, 19] rfl rfl rfl (by decide) (by decide) (by omega) (by decide) (Nat.zero_le _) (Nat.zero_le _) rfl rfl rfl rfl rfl ?_
    rintro v cc ⟨rfl, rfl⟩
    refine ⟨_, rfl, rfl, ?_⟩
    show AW Z 0 0 43 [some (.ref 0), some (.int q2.1), none] [.int q11] ([kReader 0 1 6 v0, kTape 1 (Tape_s_at_fault v1 q2.2.1 q2.2.2), kTown 6 14 v2, kLaws 14 v3] : List (List zE)).flatten
    refine AW.run hZ hRm [64, 75, 86] 400 ?_
    show (((q11 = (-1)) → AW Z 0 0 86 [some (.ref 0), some (.int q2.1), some (.int q11)] [.ref 6, .ref 1] ([kReader 0 1 6 v0, kTape 1 (Tape_s_at_fault v1 q2.2.1 q2.2.2), kTown 6 14 v2, kLaws 14 v3] : List (List zE)).flatten) ∧ (¬ (q11 = (-1)) → (((q11 = q2.1) → AW Z 0 0 75 [some (.ref 0), some (.int q2.1), some (.int q11)] [.int 3, .ref 1] ([kReader 0 1 6 v0, kTape 1 (Tape_s_at_fault v1 q2.2.1 q2.2.2), kTown 6 14 v2, kLaws 14 v3] : List (List zE)).flatten) ∧ (¬ (q11 = q2.1) → AW Z 0 0 64 [some (.ref 0), some (.int q2.1), some (.int q11)] [.int q11, .int q2.1, .ref 6] ([kReader 0 1 6 v0, kTape 1 (Tape_s_at_fault v1 q2.2.1 q2.2.2), kTown 6 14 v2, kLaws 14 v3] : List (List zE)).flatten))))
    refine ⟨fun c12 => ?_, fun c12 => ?_⟩
    · rw [if_pos c12] at hf
      obtain ⟨q13, h17, hf⟩ := zbind hf
      refine AW.callVc hZ hR hN (c_Tape_readPerson N (Tape_s_at_fault v1 q2.2.1 q2.2.2) v2 v3 q13 h17) zMX7_readPerson_ok rfl rfl zK_BorrowedLives_TownReader_118 zV_X7_readPerson rfl [1, 5, 8, 6] [1, 2, 3] [1, 2, 3, 4, 5, 6, 7, 8, 9, 10, 11, 12, 13, 14, 15, 16, 17, 18, 19] rfl rfl rfl (by decide) (by decide) (by omega) (by decide) (Nat.zero_le _) (Nat.zero_le _) rfl rfl rfl rfl rfl ?_
      rintro v cc ⟨rfl, rfl⟩
      refine ⟨_, rfl, rfl, ?_⟩
      show AW Z 0 0 89 [some (.ref 0), some (.int q2.1), some (.int q11)] [.int q13.1] ([kReader 0 1 6 v0, kTape 1 (Tape_s_at_fault v1 q13.2.1 q13.2.2), kTown 6 14 v2, kLaws 14 v3] : List (List zE)).flatten
      refine AW.run hZ hRm [106, 109] 400 ?_
      show ((¬ (q13.2.2 = 0) → AW Z 0 0 109 [some (.ref 0), some (.int q2.1), some (.int q11)] [] ([kReader 0 1 6 v0, kTape 1 (Tape_s_at_fault v1 q13.2.1 q13.2.2), kTown 6 14 v2, kLaws 14 v3] : List (List zE)).flatten) ∧ ((q13.2.2 = 0) → AW Z 0 0 106 [some (.ref 0), some (.int q2.1), some (.int q11)] [.int q11, .int q2.1, .ref 6] ([kReader 0 1 6 v0, kTape 1 (Tape_s_at_fault v1 q13.2.1 q13.2.2), kTown 6 14 v2, kLaws 14 v3] : List (List zE)).flatten))
      refine ⟨fun c14 => ?_, fun c14 => ?_⟩
      · rw [if_neg c14] at hf
        cases hf
        exact AW.vret hZ hE rfl rfl rfl (Nat.le_refl 0) (Nat.le_refl 0) rfl ⟨rfl, rfl⟩
      · rw [if_pos c14] at hf
        obtain ⟨q15, h16, hf⟩ := zbind hf
        refine AW.callVc hZ hR hN (c_Town_addBar N v2 v3 q2.1 q11 q15 h16) zMX8_addBar_ok rfl rfl zK_BorrowedLives_TownReader_126 zV_X8_addBar rfl [1, 5, 8, 6] [2, 3] [6, 7, 8, 9, 10, 11, 12, 13, 14, 15, 16, 17, 18, 19] rfl rfl rfl (by decide) (by decide) (by omega) (by decide) (Nat.zero_le _) (Nat.zero_le _) rfl rfl rfl rfl rfl ?_
        rintro v cc ⟨rfl, rfl⟩
        refine ⟨_, rfl, rfl, ?_⟩
        show AW Z 0 0 109 [some (.ref 0), some (.int q2.1), some (.int q11)] [] ([kReader 0 1 6 v0, kTape 1 (Tape_s_at_fault v1 q13.2.1 q13.2.2), kTown 6 14 (Town_s_barred_bars v2 q15.1 q15.2), kLaws 14 v3] : List (List zE)).flatten
        cases hf
        exact AW.vret hZ hE rfl rfl rfl (Nat.le_refl 0) (Nat.le_refl 0) rfl ⟨rfl, rfl⟩
    · rw [if_neg c12] at hf
      refine ⟨fun c18 => ?_, fun c18 => ?_⟩
      · rw [if_pos c18] at hf
        obtain ⟨q19, h25, hf⟩ := zbind hf
        refine AW.callVc hZ hR hN (c_Tape_wrong N (Tape_s_at_fault v1 q2.2.1 q2.2.2) 3 q19 h25) zMX7_wrong_ok rfl rfl zK_BorrowedLives_TownReader_63 zV_X7_wrong rfl [1, 5, 8, 6] [1] [1, 2, 3, 4, 5] rfl rfl rfl (by decide) (by decide) (by omega) (by decide) (Nat.zero_le _) (Nat.zero_le _) rfl rfl rfl rfl rfl ?_
        rintro v cc ⟨rfl, rfl⟩
        refine ⟨_, rfl, rfl, ?_⟩
        show AW Z 0 0 78 [some (.ref 0), some (.int q2.1), some (.int q11)] [] ([kReader 0 1 6 v0, kTape 1 (Tape_s_at_fault v1 q2.2.1 q19), kTown 6 14 v2, kLaws 14 v3] : List (List zE)).flatten
        refine AW.run hZ hRm [86] 400 ?_
        show AW Z 0 0 86 [some (.ref 0), some (.int q2.1), some (.int q11)] [.ref 6, .ref 1] ([kReader 0 1 6 v0, kTape 1 (Tape_s_at_fault v1 q2.2.1 q19), kTown 6 14 v2, kLaws 14 v3] : List (List zE)).flatten
        obtain ⟨q20, h24, hf⟩ := zbind hf
        refine AW.callVc hZ hR hN (c_Tape_readPerson N (Tape_s_at_fault v1 q2.2.1 q19) v2 v3 q20 h24) zMX7_readPerson_ok rfl rfl zK_BorrowedLives_TownReader_118 zV_X7_readPerson rfl [1, 5, 8, 6] [1, 2, 3] [1, 2, 3, 4, 5, 6, 7, 8, 9, 10, 11, 12, 13, 14, 15, 16, 17, 18, 19] rfl rfl rfl (by decide) (by decide) (by omega) (by decide) (Nat.zero_le _) (Nat.zero_le _) rfl rfl rfl rfl rfl ?_
        rintro v cc ⟨rfl, rfl⟩
        refine ⟨_, rfl, rfl, ?_⟩
        show AW Z 0 0 89 [some (.ref 0), some (.int q2.1), some (.int q11)] [.int q20.1] ([kReader 0 1 6 v0, kTape 1 (Tape_s_at_fault v1 q20.2.1 q20.2.2), kTown 6 14 v2, kLaws 14 v3] : List (List zE)).flatten
        refine AW.run hZ hRm [106, 109] 400 ?_
        show ((¬ (q20.2.2 = 0) → AW Z 0 0 109 [some (.ref 0), some (.int q2.1), some (.int q11)] [] ([kReader 0 1 6 v0, kTape 1 (Tape_s_at_fault v1 q20.2.1 q20.2.2), kTown 6 14 v2, kLaws 14 v3] : List (List zE)).flatten) ∧ ((q20.2.2 = 0) → AW Z 0 0 106 [some (.ref 0), some (.int q2.1), some (.int q11)] [.int q11, .int q2.1, .ref 6] ([kReader 0 1 6 v0, kTape 1 (Tape_s_at_fault v1 q20.2.1 q20.2.2), kTown 6 14 v2, kLaws 14 v3] : List (List zE)).flatten))
        refine ⟨fun c21 => ?_, fun c21 => ?_⟩
        · rw [if_neg c21] at hf
          cases hf
          exact AW.vret hZ hE rfl rfl rfl (Nat.le_refl 0) (Nat.le_refl 0) rfl ⟨rfl, rfl⟩
        · rw [if_pos c21] at hf
          obtain ⟨q22, h23, hf⟩ := zbind hf
          refine AW.callVc hZ hR hN (c_Town_addBar N v2 v3 q2.1 q11 q22 h23) zMX8_addBar_ok rfl rfl zK_BorrowedLives_TownReader_126 zV_X8_addBar rfl [1, 5, 8, 6] [2, 3] [6, 7, 8, 9, 10, 11, 12, 13, 14, 15, 16, 17, 18, 19] rfl rfl rfl (by decide) (by decide) (by omega) (by decide) (Nat.zero_le _) (Nat.zero_le _) rfl rfl rfl rfl rfl ?_
          rintro v cc ⟨rfl, rfl⟩
          refine ⟨_, rfl, rfl, ?_⟩
          show AW Z 0 0 109 [some (.ref 0), some (.int q2.1), some (.int q11)] [] ([kReader 0 1 6 v0, kTape 1 (Tape_s_at_fault v1 q20.2.1 q20.2.2), kTown 6 14 (Town_s_barred_bars v2 q22.1 q22.2), kLaws 14 v3] : List (List zE)).flatten
          cases hf
          exact AW.vret hZ hE rfl rfl rfl (Nat.le_refl 0) (Nat.le_refl 0) rfl ⟨rfl, rfl⟩
      · rw [if_neg c18] at hf
        obtain ⟨q26, h40, hf⟩ := zbind hf
        refine AW.callVc hZ hR hN (c_Town_isBarred N v2 v3 q2.1 q11 q26 h40) zMX8_isBarred_ok rfl rfl zK_BorrowedLives_TownReader_122 zV_X8_isBarred rfl [1, 5, 8, 6] [2, 3] [6, 7, 8, 9, 10, 11, 12, 13, 14, 15, 16, 17, 18, 19] rfl rfl rfl (by decide) (by decide) (by omega) (by decide) (Nat.zero_le _) (Nat.zero_le _) rfl rfl rfl rfl rfl ?_
        rintro v cc ⟨rfl, rfl⟩
        refine ⟨_, rfl, rfl, ?_⟩
        show AW Z 0 0 67 [some (.ref 0), some (.int q2.1), some (.int q11)] [.int q26] ([kReader 0 1 6 v0, kTape 1 (Tape_s_at_fault v1 q2.2.1 q2.2.2), kTown 6 14 v2, kLaws 14 v3] : List (List zE)).flatten
        refine AW.run hZ hRm [75, 86] 400 ?_
        show (((q26 = 0) → AW Z 0 0 86 [some (.ref 0), some (.int q2.1), some (.int q11)] [.ref 6, .ref 1] ([kReader 0 1 6 v0, kTape 1 (Tape_s_at_fault v1 q2.2.1 q2.2.2), kTown 6 14 v2, kLaws 14 v3] : List (List zE)).flatten) ∧ (¬ (q26 = 0) → AW Z 0 0 75 [some (.ref 0), some (.int q2.1), some (.int q11)] [.int 3, .ref 1] ([kReader 0 1 6 v0, kTape 1 (Tape_s_at_fault v1 q2.2.1 q2.2.2), kTown 6 14 v2, kLaws 14 v3] : List (List zE)).flatten))
        refine ⟨fun c27 => ?_, fun c27 => ?_⟩
        · rw [if_pos c27] at hf
          obtain ⟨q28, h32, hf⟩ := zbind hf
          refine AW.callVc hZ hR hN (c_Tape_readPerson N (Tape_s_at_fault v1 q2.2.1 q2.2.2) v2 v3 q28 h32) zMX7_readPerson_ok rfl rfl zK_BorrowedLives_TownReader_118 zV_X7_readPerson rfl [1, 5, 8, 6] [1, 2, 3] [1, 2, 3, 4, 5, 6, 7, 8, 9, 10, 11, 12, 13, 14, 15, 16, 17, 18, 19] rfl rfl rfl (by decide) (by decide) (by omega) (by decide) (Nat.zero_le _) (Nat.zero_le _) rfl rfl rfl rfl rfl ?_
          rintro v cc ⟨rfl, rfl⟩
          refine ⟨_, rfl, rfl, ?_⟩
          show AW Z 0 0 89 [some (.ref 0), some (.int q2.1), some (.int q11)] [.int q28.1] ([kReader 0 1 6 v0, kTape 1 (Tape_s_at_fault v1 q28.2.1 q28.2.2), kTown 6 14 v2, kLaws 14 v3] : List (List zE)).flatten
          refine AW.run hZ hRm [106, 109] 400 ?_
          show ((¬ (q28.2.2 = 0) → AW Z 0 0 109 [some (.ref 0), some (.int q2.1), some (.int q11)] [] ([kReader 0 1 6 v0, kTape 1 (Tape_s_at_fault v1 q28.2.1 q28.2.2), kTown 6 14 v2, kLaws 14 v3] : List (List zE)).flatten) ∧ ((q28.2.2 = 0) → AW Z 0 0 106 [some (.ref 0), some (.int q2.1), some (.int q11)] [.int q11, .int q2.1, .ref 6] ([kReader 0 1 6 v0, kTape 1 (Tape_s_at_fault v1 q28.2.1 q28.2.2), kTown 6 14 v2, kLaws 14 v3] : List (List zE)).flatten))
          refine ⟨fun c29 => ?_, fun c29 => ?_⟩
          · rw [if_neg c29] at hf
            cases hf
            exact AW.vret hZ hE rfl rfl rfl (Nat.le_refl 0) (Nat.le_refl 0) rfl ⟨rfl, rfl⟩
          · rw [if_pos c29] at hf
            obtain ⟨q30, h31, hf⟩ := zbind hf
            refine AW.callVc hZ hR hN (c_Town_addBar N v2 v3 q2.1 q11 q30 h31) zMX8_addBar_ok rfl rfl zK_BorrowedLives_TownReader_126 zV_X8_addBar rfl [1, 5, 8, 6] [2, 3] [6, 7, 8, 9, 10, 11, 12, 13, 14, 15, 16, 17, 18, 19] rfl rfl rfl (by decide) (by decide) (by omega) (by decide) (Nat.zero_le _) (Nat.zero_le _) rfl rfl rfl rfl rfl ?_
            rintro v cc ⟨rfl, rfl⟩
            refine ⟨_, rfl, rfl, ?_⟩
            show AW Z 0 0 109 [some (.ref 0), some (.int q2.1), some (.int q11)] [] ([kReader 0 1 6 v0, kTape 1 (Tape_s_at_fault v1 q28.2.1 q28.2.2), kTown 6 14 (Town_s_barred_bars v2 q30.1 q30.2), kLaws 14 v3] : List (List zE)).flatten
            cases hf
            exact AW.vret hZ hE rfl rfl rfl (Nat.le_refl 0) (Nat.le_refl 0) rfl ⟨rfl, rfl⟩
        · rw [if_neg c27] at hf
          obtain ⟨q33, h39, hf⟩ := zbind hf
          refine AW.callVc hZ hR hN (c_Tape_wrong N (Tape_s_at_fault v1 q2.2.1 q2.2.2) 3 q33 h39) zMX7_wrong_ok rfl rfl zK_BorrowedLives_TownReader_63 zV_X7_wrong rfl [1, 5, 8, 6] [1] [1, 2, 3, 4, 5] rfl rfl rfl (by decide) (by decide) (by omega) (by decide) (Nat.zero_le _) (Nat.zero_le _) rfl rfl rfl rfl rfl ?_
          rintro v cc ⟨rfl, rfl⟩
          refine ⟨_, rfl, rfl, ?_⟩
          show AW Z 0 0 78 [some (.ref 0), some (.int q2.1), some (.int q11)] [] ([kReader 0 1 6 v0, kTape 1 (Tape_s_at_fault v1 q2.2.1 q33), kTown 6 14 v2, kLaws 14 v3] : List (List zE)).flatten
          refine AW.run hZ hRm [86] 400 ?_
          show AW Z 0 0 86 [some (.ref 0), some (.int q2.1), some (.int q11)] [.ref 6, .ref 1] ([kReader 0 1 6 v0, kTape 1 (Tape_s_at_fault v1 q2.2.1 q33), kTown 6 14 v2, kLaws 14 v3] : List (List zE)).flatten
          obtain ⟨q34, h38, hf⟩ := zbind hf
          refine AW.callVc hZ hR hN (c_Tape_readPerson N (Tape_s_at_fault v1 q2.2.1 q33) v2 v3 q34 h38) zMX7_readPerson_ok rfl rfl zK_BorrowedLives_TownReader_118 zV_X7_readPerson rfl [1, 5, 8, 6] [1, 2, 3] [1, 2, 3, 4, 5, 6, 7, 8, 9, 10, 11, 12, 13, 14, 15, 16, 17, 18, 19] rfl rfl rfl (by decide) (by decide) (by omega) (by decide) (Nat.zero_le _) (Nat.zero_le _) rfl rfl rfl rfl rfl ?_
          rintro v cc ⟨rfl, rfl⟩
          refine ⟨_, rfl, rfl, ?_⟩
          show AW Z 0 0 89 [some (.ref 0), some (.int q2.1), some (.int q11)] [.int q34.1] ([kReader 0 1 6 v0, kTape 1 (Tape_s_at_fault v1 q34.2.1 q34.2.2), kTown 6 14 v2, kLaws 14 v3] : List (List zE)).flatten
          refine AW.run hZ hRm [106, 109] 400 ?_
          show ((¬ (q34.2.2 = 0) → AW Z 0 0 109 [some (.ref 0), some (.int q2.1), some (.int q11)] [] ([kReader 0 1 6 v0, kTape 1 (Tape_s_at_fault v1 q34.2.1 q34.2.2), kTown 6 14 v2, kLaws 14 v3] : List (List zE)).flatten) ∧ ((q34.2.2 = 0) → AW Z 0 0 106 [some (.ref 0), some (.int q2.1), some (.int q11)] [.int q11, .int q2.1, .ref 6] ([kReader 0 1 6 v0, kTape 1 (Tape_s_at_fault v1 q34.2.1 q34.2.2), kTown 6 14 v2, kLaws 14 v3] : List (List zE)).flatten))
          refine ⟨fun c35 => ?_, fun c35 => ?_⟩
          · rw [if_neg c35] at hf
            cases hf
            exact AW.vret hZ hE rfl rfl rfl (Nat.le_refl 0) (Nat.le_refl 0) rfl ⟨rfl, rfl⟩
          · rw [if_pos c35] at hf
            obtain ⟨q36, h37, hf⟩ := zbind hf
            refine AW.callVc hZ hR hN (c_Town_addBar N v2 v3 q2.1 q11 q36 h37) zMX8_addBar_ok rfl rfl zK_BorrowedLives_TownReader_126 zV_X8_addBar rfl [1, 5, 8, 6] [2, 3] [6, 7, 8, 9, 10, 11, 12, 13, 14, 15, 16, 17, 18, 19] rfl rfl rfl (by decide) (by decide) (by omega) (by decide) (Nat.zero_le _) (Nat.zero_le _) rfl rfl rfl rfl rfl ?_
            rintro v cc ⟨rfl, rfl⟩
            refine ⟨_, rfl, rfl, ?_⟩
            show AW Z 0 0 109 [some (.ref 0), some (.int q2.1), some (.int q11)] [] ([kReader 0 1 6 v0, kTape 1 (Tape_s_at_fault v1 q34.2.1 q34.2.2), kTown 6 14 (Town_s_barred_bars v2 q36.1 q36.2), kLaws 14 v3] : List (List zE)).flatten
            cases hf
            exact AW.vret hZ hE rfl rfl rfl (Nat.le_refl 0) (Nat.le_refl 0) rfl ⟨rfl, rfl⟩
def f_Reader_readSign (N : Nat) (v0 : VReader) (v1 : VTape) (v2 : VTown) (v3 : VLaws) : Option (Int32 × Int32 × Int32 × Int32) := (if ((Town_signTold v2) = 0) then ((f_Reader_readTold N v0 v1 v2 v3 134 999).bind (fun q2 => (some (q2.2.1, q2.2.2, q2.1, 1)))) else ((f_Tape_wrong N v1 3).bind (fun q4 => ((f_Reader_readTold N v0 (Tape_fault_s v1 q4) v2 v3 134 999).bind (fun q5 => (some (q5.2.1, q5.2.2, q5.1, 1)))))))
set_option maxRecDepth 20000 in
set_option maxHeartbeats 4000000 in
theorem c_Reader_readSign (N : Nat) (v0 : VReader) (v1 : VTape) (v2 : VTown) (v3 : VLaws) (R : Int32 × Int32 × Int32 × Int32) (hf : f_Reader_readSign N v0 v1 v2 v3 = some R) : Ct zMX9_readSign 4 0 0 0 [.ref 0] ([kReader 0 1 6 v0, kTape 1 v1, kTown 6 14 v2, kLaws 14 v3] : List (List zE)).flatten (fun v cc => v = none ∧ cc = ([kReader 0 1 6 v0, kTape 1 (Tape_s_at_fault v1 R.1 R.2.1), kTown 6 14 (Town_s_sign_signTold v2 R.2.2.1 R.2.2.2), kLaws 14 v3] : List (List zE)).flatten) := by
  refine Ct.of zMX9_readSign_ok (by decide) (Nat.le_of_ble_eq_true rfl) ?_
  intro Z hZ hR hN hE
  have hRm : zRoom Z 0 0 := zRoom0 Z
  unfold f_Reader_readSign at hf
  show AW Z 0 0 0 [some (.ref 0)] [] ([kReader 0 1 6 v0, kTape 1 v1, kTown 6 14 v2, kLaws 14 v3] : List (List zE)).flatten
  refine AW.run hZ hRm [15, 29] 400 ?_
  show ((((Town_signTold v2) = 0) → AW Z 0 0 29 [some (.ref 0)] [.int 999, .int 134, .ref 0, .ref 6] ([kReader 0 1 6 v0, kTape 1 v1, kTown 6 14 v2, kLaws 14 v3] : List (List zE)).flatten) ∧ (¬ ((Town_signTold v2) = 0) → AW Z 0 0 15 [some (.ref 0)] [.int 3, .ref 1] ([kReader 0 1 6 v0, kTape 1 v1, kTown 6 14 v2, kLaws 14 v3] : List (List zE)).flatten))
  refine ⟨fun c1 => ?_, fun c1 => ?_⟩
  · rw [if_pos c1] at hf
    obtain ⟨q2, h3, hf⟩ := zbind hf
    refine AW.callVc hZ hR hN (c_Reader_readTold N v0 v1 v2 v3 134 999 q2 h3) zMX9_readTold_ok rfl rfl zK_BorrowedLives_TownReader_82 zV_X9_readTold rfl [1, 5, 8, 6] [0, 1, 2, 3] [0, 1, 2, 3, 4, 5, 6, 7, 8, 9, 10, 11, 12, 13, 14, 15, 16, 17, 18, 19] rfl rfl rfl (by decide) (by decide) (by omega) (by decide) (Nat.zero_le _) (Nat.zero_le _) rfl rfl rfl rfl rfl ?_
    rintro v cc ⟨rfl, rfl⟩
    refine ⟨_, rfl, rfl, ?_⟩
    show AW Z 0 0 32 [some (.ref 0)] [.int q2.1, .ref 6] ([kReader 0 1 6 v0, kTape 1 (Tape_s_at_fault v1 q2.2.1 q2.2.2), kTown 6 14 v2, kLaws 14 v3] : List (List zE)).flatten
    refine AW.run hZ hRm [43] 400 ?_
    show (((1 : Int32) = 0 ∨ (1 : Int32) = 1) ∧ AW Z 0 0 43 [some (.ref 0)] [] ([kReader 0 1 6 v0, kTape 1 (Tape_s_at_fault v1 q2.2.1 q2.2.2), kTown 6 14 (Town_s_sign_signTold v2 q2.1 1), kLaws 14 v3] : List (List zE)).flatten)
    refine ⟨(by decide), ?_⟩
    cases hf
    exact AW.vret hZ hE rfl rfl rfl (Nat.le_refl 0) (Nat.le_refl 0) rfl ⟨rfl, rfl⟩
  · rw [if_neg c1] at hf
    obtain ⟨q4, h7, hf⟩ := zbind hf
    refine AW.callVc hZ hR hN (c_Tape_wrong N v1 3 q4 h7) zMX7_wrong_ok rfl rfl zK_BorrowedLives_TownReader_63 zV_X7_wrong rfl [1, 5, 8, 6] [1] [1, 2, 3, 4, 5] rfl rfl rfl (by decide) (by decide) (by omega) (by decide) (Nat.zero_le _) (Nat.zero_le _) rfl rfl rfl rfl rfl ?_
    rintro v cc ⟨rfl, rfl⟩
    refine ⟨_, rfl, rfl, ?_⟩
    show AW Z 0 0 18 [some (.ref 0)] [] ([kReader 0 1 6 v0, kTape 1 (Tape_fault_s v1 q4), kTown 6 14 v2, kLaws 14 v3] : List (List zE)).flatten
    refine AW.run hZ hRm [29] 400 ?_
    show AW Z 0 0 29 [some (.ref 0)] [.int 999, .int 134, .ref 0, .ref 6] ([kReader 0 1 6 v0, kTape 1 (Tape_fault_s v1 q4), kTown 6 14 v2, kLaws 14 v3] : List (List zE)).flatten
    obtain ⟨q5, h6, hf⟩ := zbind hf
    refine AW.callVc hZ hR hN (c_Reader_readTold N v0 (Tape_fault_s v1 q4) v2 v3 134 999 q5 h6) zMX9_readTold_ok rfl rfl zK_BorrowedLives_TownReader_82 zV_X9_readTold rfl [1, 5, 8, 6] [0, 1, 2, 3] [0, 1, 2, 3, 4, 5, 6, 7, 8, 9, 10, 11, 12, 13, 14, 15, 16, 17, 18, 19] rfl rfl rfl (by decide) (by decide) (by omega) (by decide) (Nat.zero_le _) (Nat.zero_le _) rfl rfl rfl rfl rfl ?_
    rintro v cc ⟨rfl, rfl⟩
    refine ⟨_, rfl, rfl, ?_⟩
    show AW Z 0 0 32 [some (.ref 0)] [.int q5.1, .ref 6] ([kReader 0 1 6 v0, kTape 1 (Tape_s_at_fault v1 q5.2.1 q5.2.2), kTown 6 14 v2, kLaws 14 v3] : List (List zE)).flatten
    refine AW.run hZ hRm [43] 400 ?_
    show (((1 : Int32) = 0 ∨ (1 : Int32) = 1) ∧ AW Z 0 0 43 [some (.ref 0)] [] ([kReader 0 1 6 v0, kTape 1 (Tape_s_at_fault v1 q5.2.1 q5.2.2), kTown 6 14 (Town_s_sign_signTold v2 q5.1 1), kLaws 14 v3] : List (List zE)).flatten)
    refine ⟨(by decide), ?_⟩
    cases hf
    exact AW.vret hZ hE rfl rfl rfl (Nat.le_refl 0) (Nat.le_refl 0) rfl ⟨rfl, rfl⟩
def f_Reader_levelOf (N : Nat) (a0 : Int32) : Option (Int32) := (if (a0 = 42) then (some 3) else (if (a0 = 43) then (some 2) else (if (a0 = 45) then (some 2) else (if (a0 = 60) then (some 1) else (if (a0 = 61) then (some 1) else (if (a0 = 148) then (some 0) else (if (a0 = 149) then (some 0) else (some (-1)))))))))
set_option maxRecDepth 20000 in
set_option maxHeartbeats 4000000 in
theorem c_Reader_levelOf (N : Nat) (a0 : Int32) (R : Int32) (hf : f_Reader_levelOf N a0 = some R) : Ct zMX9_levelOf 1 0 0 0 [.int a0] ([] : List (List zE)).flatten (fun v cc => v = some (.int R) ∧ cc = ([] : List (List zE)).flatten) := by
  refine Ct.of zMX9_levelOf_ok (by decide) (Nat.le_of_ble_eq_true rfl) ?_
  intro Z hZ hR hN hE
  have hRm : zRoom Z 0 0 := zRoom0 Z
  unfold f_Reader_levelOf at hf
  show AW Z 0 0 0 [some (.int a0)] [] ([] : List (List zE)).flatten
  refine AW.run hZ hRm [69, 71, 73, 75, 77] 400 ?_
  show ((a0 = 42 → AW Z 0 0 75 [some (.int a0)] [.int 3] ([] : List (List zE)).flatten) ∧ (¬ a0 = 42 → ((a0 = 43 → AW Z 0 0 73 [some (.int a0)] [.int 2] ([] : List (List zE)).flatten) ∧ (¬ a0 = 43 → ((a0 = 45 → AW Z 0 0 73 [some (.int a0)] [.int 2] ([] : List (List zE)).flatten) ∧ (¬ a0 = 45 → ((a0 = 60 → AW Z 0 0 71 [some (.int a0)] [.int 1] ([] : List (List zE)).flatten) ∧ (¬ a0 = 60 → ((a0 = 61 → AW Z 0 0 71 [some (.int a0)] [.int 1] ([] : List (List zE)).flatten) ∧ (¬ a0 = 61 → ((a0 = 148 → AW Z 0 0 69 [some (.int a0)] [.int 0] ([] : List (List zE)).flatten) ∧ (¬ a0 = 148 → ((a0 = 149 → AW Z 0 0 69 [some (.int a0)] [.int 0] ([] : List (List zE)).flatten) ∧ (¬ a0 = 149 → AW Z 0 0 77 [some (.int a0)] [.int (-1)] ([] : List (List zE)).flatten))))))))))))))
  refine ⟨fun c7 => ?_, fun c7 => ?_⟩
  · rw [if_pos c7] at hf
    cases hf
    exact AW.iret hZ hE rfl rfl rfl rfl (Nat.le_refl 0) (Nat.le_refl 0) rfl ⟨rfl, rfl⟩
  · rw [if_neg c7] at hf
    refine ⟨fun c6 => ?_, fun c6 => ?_⟩
    · rw [if_pos c6] at hf
      cases hf
      exact AW.iret hZ hE rfl rfl rfl rfl (Nat.le_refl 0) (Nat.le_refl 0) rfl ⟨rfl, rfl⟩
    · rw [if_neg c6] at hf
      refine ⟨fun c5 => ?_, fun c5 => ?_⟩
      · rw [if_pos c5] at hf
        cases hf
        exact AW.iret hZ hE rfl rfl rfl rfl (Nat.le_refl 0) (Nat.le_refl 0) rfl ⟨rfl, rfl⟩
      · rw [if_neg c5] at hf
        refine ⟨fun c4 => ?_, fun c4 => ?_⟩
        · rw [if_pos c4] at hf
          cases hf
          exact AW.iret hZ hE rfl rfl rfl rfl (Nat.le_refl 0) (Nat.le_refl 0) rfl ⟨rfl, rfl⟩
        · rw [if_neg c4] at hf
          refine ⟨fun c3 => ?_, fun c3 => ?_⟩
          · rw [if_pos c3] at hf
            cases hf
            exact AW.iret hZ hE rfl rfl rfl rfl (Nat.le_refl 0) (Nat.le_refl 0) rfl ⟨rfl, rfl⟩
          · rw [if_neg c3] at hf
            refine ⟨fun c2 => ?_, fun c2 => ?_⟩
            · rw [if_pos c2] at hf
              cases hf
              exact AW.iret hZ hE rfl rfl rfl rfl (Nat.le_refl 0) (Nat.le_refl 0) rfl ⟨rfl, rfl⟩
            · rw [if_neg c2] at hf
              refine ⟨fun c1 => ?_, fun c1 => ?_⟩
              · rw [if_pos c1] at hf
                cases hf
                exact AW.iret hZ hE rfl rfl rfl rfl (Nat.le_refl 0) (Nat.le_refl 0) rfl ⟨rfl, rfl⟩
              · rw [if_neg c1] at hf
                cases hf
                exact AW.iret hZ hE rfl rfl rfl rfl (Nat.le_refl 0) (Nat.le_refl 0) rfl ⟨rfl, rfl⟩
