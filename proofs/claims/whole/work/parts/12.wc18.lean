def f_Year_readOther (N : Nat) (v0 : VTape) (v1 : VTown) (v2 : VLaws) (a2 : Int32) : Option (Int32 × Int32 × Int32) := ((f_Tape_isName N v0).bind (fun q1 => (if (q1 = 0) then ((f_Tape_readPerson N v0 v1 v2).bind (fun q3 => (some (q3.1, q3.2.1, q3.2.2)))) else ((f_Tape_value N v0).bind (fun q5 => ((f_Town_named N v1 v2 q5).bind (fun q6 => (if (q6 = a2) then (if (a2 = (-1)) then ((f_Tape_readPerson N v0 v1 v2).bind (fun q11 => (some (q11.1, q11.2.1, q11.2.2)))) else ((f_Tape_wrong N v0 3).bind (fun q13 => ((f_Tape_readPerson N (Tape_fault_s v0 q13) v1 v2).bind (fun q14 => (some (q14.1, q14.2.1, q14.2.2))))))) else ((f_Tape_readPerson N v0 v1 v2).bind (fun q8 => (some (q8.1, q8.2.1, q8.2.2))))))))))))
set_option maxRecDepth 20000 in
set_option maxHeartbeats 4000000 in
theorem c_Year_readOther (N : Nat) (v0 : VTape) (v1 : VTown) (v2 : VLaws) (a2 : Int32) (R : Int32 × Int32 × Int32) (hf : f_Year_readOther N v0 v1 v2 a2 = some R) : Ct zMX10_readOther 4 0 0 0 [.ref 0, .ref 5, .int a2] ([kTape 0 v0, kTown 5 13 v1, kLaws 13 v2] : List (List zE)).flatten (fun v cc => v = some (.int R.1) ∧ cc = ([kTape 0 (Tape_s_at_fault v0 R.2.1 R.2.2), kTown 5 13 v1, kLaws 13 v2] : List (List zE)).flatten) := by
  refine Ct.of zMX10_readOther_ok (by decide) (Nat.le_of_ble_eq_true rfl) ?_
  intro Z hZ hR hN hE
  have hRm : zRoom Z 0 0 := zRoom0 Z
  unfold f_Year_readOther at hf
  show AW Z 0 0 0 [some (.ref 0), some (.ref 5), some (.int a2)] [] ([kTape 0 v0, kTown 5 13 v1, kLaws 13 v2] : List (List zE)).flatten
  refine AW.run hZ hRm [1] 400 ?_
  show AW Z 0 0 1 [some (.ref 0), some (.ref 5), some (.int a2)] [.ref 0] ([kTape 0 v0, kTown 5 13 v1, kLaws 13 v2] : List (List zE)).flatten
  obtain ⟨q1, h19, hf⟩ := zbind hf
  refine AW.callVc hZ hR hN (c_Tape_isName N v0 q1 h19) zMX7_isName_ok rfl rfl zK_BorrowedLives_Year_73 zV_X7_isName rfl [5, 8, 6] [0] [0, 1, 2, 3, 4] rfl rfl rfl (by decide) (by decide) (by omega) (by decide) (Nat.zero_le _) (Nat.zero_le _) rfl rfl rfl rfl rfl ?_
  rintro v cc ⟨rfl, rfl⟩
  refine ⟨_, rfl, rfl, ?_⟩
  show AW Z 0 0 4 [some (.ref 0), some (.ref 5), some (.int a2)] [.int q1] ([kTape 0 v0, kTown 5 13 v1, kLaws 13 v2] : List (List zE)).flatten
  refine AW.run hZ hRm [9, 31] 400 ?_
  show (((q1 = 0) → AW Z 0 0 31 [some (.ref 0), some (.ref 5), some (.int a2)] [.ref 5, .ref 0] ([kTape 0 v0, kTown 5 13 v1, kLaws 13 v2] : List (List zE)).flatten) ∧ (¬ (q1 = 0) → AW Z 0 0 9 [some (.ref 0), some (.ref 5), some (.int a2)] [.ref 0, .ref 5] ([kTape 0 v0, kTown 5 13 v1, kLaws 13 v2] : List (List zE)).flatten))
  refine ⟨fun c2 => ?_, fun c2 => ?_⟩
  · rw [if_pos c2] at hf
    obtain ⟨q3, h4, hf⟩ := zbind hf
    refine AW.callVc hZ hR hN (c_Tape_readPerson N v0 v1 v2 q3 h4) zMX7_readPerson_ok rfl rfl zK_BorrowedLives_Year_62 zV_X7_readPerson rfl [5, 8, 6] [0, 1, 2] [0, 1, 2, 3, 4, 5, 6, 7, 8, 9, 10, 11, 12, 13, 14, 15, 16, 17, 18] rfl rfl rfl (by decide) (by decide) (by omega) (by decide) (Nat.zero_le _) (Nat.zero_le _) rfl rfl rfl rfl rfl ?_
    rintro v cc ⟨rfl, rfl⟩
    refine ⟨_, rfl, rfl, ?_⟩
    show AW Z 0 0 34 [some (.ref 0), some (.ref 5), some (.int a2)] [.int q3.1] ([kTape 0 (Tape_s_at_fault v0 q3.2.1 q3.2.2), kTown 5 13 v1, kLaws 13 v2] : List (List zE)).flatten
    cases hf
    exact AW.iret hZ hE rfl rfl rfl rfl (Nat.le_refl 0) (Nat.le_refl 0) rfl ⟨rfl, rfl⟩
  · rw [if_neg c2] at hf
    obtain ⟨q5, h18, hf⟩ := zbind hf
    refine AW.callVc hZ hR hN (c_Tape_value N v0 q5 h18) zMX7_value_ok rfl rfl zK_BorrowedLives_Year_76 zV_X7_value rfl [5, 8, 6] [0] [0, 1, 2, 3, 4] rfl rfl rfl (by decide) (by decide) (by omega) (by decide) (Nat.zero_le _) (Nat.zero_le _) rfl rfl rfl rfl rfl ?_
    rintro v cc ⟨rfl, rfl⟩
    refine ⟨_, rfl, rfl, ?_⟩
    show AW Z 0 0 12 [some (.ref 0), some (.ref 5), some (.int a2)] [.long q5, .ref 5] ([kTape 0 v0, kTown 5 13 v1, kLaws 13 v2] : List (List zE)).flatten
    obtain ⟨q6, h17, hf⟩ := zbind hf
    refine AW.callVc hZ hR hN (c_Town_named N v1 v2 q5 q6 h17) zMX8_named_ok rfl rfl zK_BorrowedLives_Year_80 zV_X8_named rfl [5, 8, 6] [1, 2] [5, 6, 7, 8, 9, 10, 11, 12, 13, 14, 15, 16, 17, 18] rfl rfl rfl (by decide) (by decide) (by omega) (by decide) (Nat.zero_le _) (Nat.zero_le _) rfl rfl rfl rfl rfl ?_
    rintro v cc ⟨rfl, rfl⟩
    refine ⟨_, rfl, rfl, ?_⟩
    show AW Z 0 0 15 [some (.ref 0), some (.ref 5), some (.int a2)] [.int q6] ([kTape 0 v0, kTown 5 13 v1, kLaws 13 v2] : List (List zE)).flatten
    refine AW.run hZ hRm [26, 31] 400 ?_
    show ((¬ (q6 = a2) → AW Z 0 0 31 [some (.ref 0), some (.ref 5), some (.int a2)] [.ref 5, .ref 0] ([kTape 0 v0, kTown 5 13 v1, kLaws 13 v2] : List (List zE)).flatten) ∧ ((q6 = a2) → (((a2 = (-1)) → AW Z 0 0 31 [some (.ref 0), some (.ref 5), some (.int a2)] [.ref 5, .ref 0] ([kTape 0 v0, kTown 5 13 v1, kLaws 13 v2] : List (List zE)).flatten) ∧ (¬ (a2 = (-1)) → AW Z 0 0 26 [some (.ref 0), some (.ref 5), some (.int a2)] [.int 3, .ref 0] ([kTape 0 v0, kTown 5 13 v1, kLaws 13 v2] : List (List zE)).flatten))))
    refine ⟨fun c7 => ?_, fun c7 => ?_⟩
    · rw [if_neg c7] at hf
      obtain ⟨q8, h9, hf⟩ := zbind hf
      refine AW.callVc hZ hR hN (c_Tape_readPerson N v0 v1 v2 q8 h9) zMX7_readPerson_ok rfl rfl zK_BorrowedLives_Year_62 zV_X7_readPerson rfl [5, 8, 6] [0, 1, 2] [0, 1, 2, 3, 4, 5, 6, 7, 8, 9, 10, 11, 12, 13, 14, 15, 16, 17, 18] rfl rfl rfl (by decide) (by decide) (by omega) (by decide) (Nat.zero_le _) (Nat.zero_le _) rfl rfl rfl rfl rfl ?_
      rintro v cc ⟨rfl, rfl⟩
      refine ⟨_, rfl, rfl, ?_⟩
      show AW Z 0 0 34 [some (.ref 0), some (.ref 5), some (.int a2)] [.int q8.1] ([kTape 0 (Tape_s_at_fault v0 q8.2.1 q8.2.2), kTown 5 13 v1, kLaws 13 v2] : List (List zE)).flatten
      cases hf
      exact AW.iret hZ hE rfl rfl rfl rfl (Nat.le_refl 0) (Nat.le_refl 0) rfl ⟨rfl, rfl⟩
    · rw [if_pos c7] at hf
      refine ⟨fun c10 => ?_, fun c10 => ?_⟩
      · rw [if_pos c10] at hf
        obtain ⟨q11, h12, hf⟩ := zbind hf
        refine AW.callVc hZ hR hN (c_Tape_readPerson N v0 v1 v2 q11 h12) zMX7_readPerson_ok rfl rfl zK_BorrowedLives_Year_62 zV_X7_readPerson rfl [5, 8, 6] [0, 1, 2] [0, 1, 2, 3, 4, 5, 6, 7, 8, 9, 10, 11, 12, 13, 14, 15, 16, 17, 18] rfl rfl rfl (by decide) (by decide) (by omega) (by decide) (Nat.zero_le _) (Nat.zero_le _) rfl rfl rfl rfl rfl ?_
        rintro v cc ⟨rfl, rfl⟩
        refine ⟨_, rfl, rfl, ?_⟩
        show AW Z 0 0 34 [some (.ref 0), some (.ref 5), some (.int a2)] [.int q11.1] ([kTape 0 (Tape_s_at_fault v0 q11.2.1 q11.2.2), kTown 5 13 v1, kLaws 13 v2] : List (List zE)).flatten
        cases hf
        exact AW.iret hZ hE rfl rfl rfl rfl (Nat.le_refl 0) (Nat.le_refl 0) rfl ⟨rfl, rfl⟩
      · rw [if_neg c10] at hf
        obtain ⟨q13, h16, hf⟩ := zbind hf
        refine AW.callVc hZ hR hN (c_Tape_wrong N v0 3 q13 h16) zMX7_wrong_ok rfl rfl zK_BorrowedLives_Year_51 zV_X7_wrong rfl [5, 8, 6] [0] [0, 1, 2, 3, 4] rfl rfl rfl (by decide) (by decide) (by omega) (by decide) (Nat.zero_le _) (Nat.zero_le _) rfl rfl rfl rfl rfl ?_
        rintro v cc ⟨rfl, rfl⟩
        refine ⟨_, rfl, rfl, ?_⟩
        show AW Z 0 0 29 [some (.ref 0), some (.ref 5), some (.int a2)] [] ([kTape 0 (Tape_fault_s v0 q13), kTown 5 13 v1, kLaws 13 v2] : List (List zE)).flatten
        refine AW.run hZ hRm [31] 400 ?_
        show AW Z 0 0 31 [some (.ref 0), some (.ref 5), some (.int a2)] [.ref 5, .ref 0] ([kTape 0 (Tape_fault_s v0 q13), kTown 5 13 v1, kLaws 13 v2] : List (List zE)).flatten
        obtain ⟨q14, h15, hf⟩ := zbind hf
        refine AW.callVc hZ hR hN (c_Tape_readPerson N (Tape_fault_s v0 q13) v1 v2 q14 h15) zMX7_readPerson_ok rfl rfl zK_BorrowedLives_Year_62 zV_X7_readPerson rfl [5, 8, 6] [0, 1, 2] [0, 1, 2, 3, 4, 5, 6, 7, 8, 9, 10, 11, 12, 13, 14, 15, 16, 17, 18] rfl rfl rfl (by decide) (by decide) (by omega) (by decide) (Nat.zero_le _) (Nat.zero_le _) rfl rfl rfl rfl rfl ?_
        rintro v cc ⟨rfl, rfl⟩
        refine ⟨_, rfl, rfl, ?_⟩
        show AW Z 0 0 34 [some (.ref 0), some (.ref 5), some (.int a2)] [.int q14.1] ([kTape 0 (Tape_s_at_fault v0 q14.2.1 q14.2.2), kTown 5 13 v1, kLaws 13 v2] : List (List zE)).flatten
        cases hf
        exact AW.iret hZ hE rfl rfl rfl rfl (Nat.le_refl 0) (Nat.le_refl 0) rfl ⟨rfl, rfl⟩
