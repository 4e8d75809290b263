def f_Lots_findAll (N : Nat) (v0 : VLots) (v1 : VTown) (v2 : VLaws) : Option (Int32 × Int32 × (Nat → Int32) × (Nat → Int32)) := (if ((Town_people v1) ≤ 0) then (some ((Town_people v1), 0, (Lots_selves v0), (Lots_row v0))) else ((f_Lots_fill 64 N (Lots_s_people_count v0 (Town_people v1) 0) v1 v2 0 0).bind (fun q2 => (some ((Town_people v1), q2.1, q2.2.1, q2.2.2)))))
set_option maxRecDepth 20000 in
set_option maxHeartbeats 4000000 in
theorem c_Lots_findAll (N : Nat) (v0 : VLots) (v1 : VTown) (v2 : VLaws) (R : Int32 × Int32 × (Nat → Int32) × (Nat → Int32)) (hf : f_Lots_findAll N v0 v1 v2 = some R) : Ct zMX4_findAll 68 0 0 0 [.ref 0, .ref 3] ([kLots 0 v0, kTown 3 11 v1, kLaws 11 v2] : List (List zE)).flatten (fun v cc => v = none ∧ cc = ([kLots 0 (Lots_s_people_count_selves_row v0 R.1 R.2.1 R.2.2.1 R.2.2.2), kTown 3 11 v1, kLaws 11 v2] : List (List zE)).flatten) := by
  refine Ct.of zMX4_findAll_ok (by decide) (Nat.le_of_ble_eq_true rfl) ?_
  intro Z hZ hR hN hE
  have hRm : zRoom Z 0 0 := zRoom0 Z
  unfold f_Lots_findAll at hf
  show AW Z 0 0 0 [some (.ref 0), some (.ref 3)] [] ([kLots 0 v0, kTown 3 11 v1, kLaws 11 v2] : List (List zE)).flatten
  refine AW.run hZ hRm [24, 27] 400 ?_
  show ((((Town_people v1) ≤ 0) → AW Z 0 0 27 [some (.ref 0), some (.ref 3)] [] ([kLots 0 (Lots_s_people_count v0 (Town_people v1) 0), kTown 3 11 v1, kLaws 11 v2] : List (List zE)).flatten) ∧ (¬ ((Town_people v1) ≤ 0) → AW Z 0 0 24 [some (.ref 0), some (.ref 3)] [.int 0, .int 0, .ref 3, .ref 0] ([kLots 0 (Lots_s_people_count v0 (Town_people v1) 0), kTown 3 11 v1, kLaws 11 v2] : List (List zE)).flatten))
  refine ⟨fun c1 => ?_, fun c1 => ?_⟩
  · rw [if_pos c1] at hf
    cases hf
    exact AW.vret hZ hE rfl rfl rfl (Nat.le_refl 0) (Nat.le_refl 0) rfl ⟨rfl, rfl⟩
  · rw [if_neg c1] at hf
    obtain ⟨q2, h3, hf⟩ := zbind hf
    refine AW.callSc hZ hR hN (c_Lots_fill 64 N (Lots_s_people_count v0 (Town_people v1) 0) v1 v2 0 0 q2 h3) zMX4_fill_ok rfl rfl zK_BorrowedLives_Lots_28 zV_X4_fill rfl [3, 8, 6] [0, 1, 2] [0, 1, 2, 3, 4, 5, 6, 7, 8, 9, 10, 11, 12, 13, 14, 15, 16] rfl rfl rfl (by decide) (by decide) (by omega) (by decide) (Nat.zero_le _) (Nat.zero_le _) rfl rfl ?_
    rintro v cc ⟨rfl, rfl⟩
    refine ⟨_, rfl, rfl, ?_⟩
    show AW Z 0 0 27 [some (.ref 0), some (.ref 3)] [] ([kLots 0 (Lots_s_people_count_selves_row v0 (Town_people v1) q2.1 q2.2.1 q2.2.2), kTown 3 11 v1, kLaws 11 v2] : List (List zE)).flatten
    cases hf
    exact AW.vret hZ hE rfl rfl rfl (Nat.le_refl 0) (Nat.le_refl 0) rfl ⟨rfl, rfl⟩
def f_Lots_meanInThousandths (N : Nat) (v0 : VLots) (a1 : Int64) : Option (Int32) := (if ((Lots_count v0) ≤ 0) then (some (-1)) else (if ((Int32.toInt64 (Lots_count v0)) = 0) then none else (some (Int64.toInt32 ((a1 * 1000) / (Int32.toInt64 (Lots_count v0)))))))
set_option maxRecDepth 20000 in
set_option maxHeartbeats 4000000 in
theorem c_Lots_meanInThousandths (N : Nat) (v0 : VLots) (a1 : Int64) (R : Int32) (hf : f_Lots_meanInThousandths N v0 a1 = some R) : Ct zMX4_meanInThousandths 1 0 0 0 [.ref 0, .long a1] ([kLots 0 v0] : List (List zE)).flatten (fun v cc => v = some (.int R) ∧ cc = ([kLots 0 v0] : List (List zE)).flatten) := by
  refine Ct.of zMX4_meanInThousandths_ok (by decide) (Nat.le_of_ble_eq_true rfl) ?_
  intro Z hZ hR hN hE
  have hRm : zRoom Z 0 0 := zRoom0 Z
  unfold f_Lots_meanInThousandths at hf
  show AW Z 0 0 0 [some (.ref 0), some (.long a1), none] [] ([kLots 0 v0] : List (List zE)).flatten
  refine AW.run hZ hRm [23] 400 ?_
  show ((((Lots_count v0) ≤ 0) → AW Z 0 0 23 [some (.ref 0), some (.long a1), none] [.int (-1)] ([kLots 0 v0] : List (List zE)).flatten) ∧ (¬ ((Lots_count v0) ≤ 0) → (¬ ((Int32.toInt64 (Lots_count v0)) = 0) ∧ AW Z 0 0 23 [some (.ref 0), some (.long a1), none] [.int (Int64.toInt32 ((a1 * 1000) / (Int32.toInt64 (Lots_count v0))))] ([kLots 0 v0] : List (List zE)).flatten)))
  refine ⟨fun c1 => ?_, fun c1 => ?_⟩
  · rw [if_pos c1] at hf
    cases hf
    exact AW.iret hZ hE rfl rfl rfl rfl (Nat.le_refl 0) (Nat.le_refl 0) rfl ⟨rfl, rfl⟩
  · rw [if_neg c1] at hf
    obtain ⟨b2, hf⟩ := zneed hf
    refine ⟨b2, ?_⟩
    cases hf
    exact AW.iret hZ hE rfl rfl rfl rfl (Nat.le_refl 0) (Nat.le_refl 0) rfl ⟨rfl, rfl⟩
def f_Pairs_wish (N : Nat) (v0 : VLives) (v1 : VTown) (v2 : VLaws) (a1 : Int32) (a2 : Int32) : Option (Int32 × (Nat → Int32) × (Nat → Int32)) := ((f_Town_has N v1 v2 a2).bind (fun q1 => (if (q1 = 0) then (some (0, (Laws_facts v2), (Laws_stack v2))) else ((f_Lives_openMoney N v0 v1 v2 a2).bind (fun q3 => (if (a2 < 0 ∨ 6 ≤ Int32.toNatClampNeg a2) then none else (if (a2 < 0 ∨ 6 ≤ Int32.toNatClampNeg a2) then none else ((f_Town_skillOf N v1 v2 a1).bind (fun q4 => ((f_Town_kindOf N v1 v2 a1).bind (fun q5 => ((f_Laws_setFacts N v2 q3 ((Lives_debt v0) (Int32.toNatClampNeg a2)) ((Lives_home v0) (Int32.toNatClampNeg a2)) q4 q5).bind (fun q6 => ((f_Laws_valueOf N (Laws_facts_s v2 q6) 3).bind (fun q7 => (some (q7.1, q6, q7.2)))))))))))))))))
set_option maxRecDepth 20000 in
set_option maxHeartbeats 4000000 in
theorem c_Pairs_wish (N : Nat) (v0 : VLives) (v1 : VTown) (v2 : VLaws) (a1 : Int32) (a2 : Int32) (R : Int32 × (Nat → Int32) × (Nat → Int32)) (hf : f_Pairs_wish N v0 v1 v2 a1 a2 = some R) : Ct zMX5_wish 3 0 0 0 [.ref 0, .int a1, .int a2] ([kLives 0 8 v0, kTown 8 16 v1, kLaws 16 v2] : List (List zE)).flatten (fun v cc => v = some (.int R.1) ∧ cc = ([kLives 0 8 v0, kTown 8 16 v1, kLaws 16 (Laws_s_facts_stack v2 R.2.1 R.2.2)] : List (List zE)).flatten) := by
  refine Ct.of zMX5_wish_ok (by decide) (Nat.le_of_ble_eq_true rfl) ?_
  intro Z hZ hR hN hE
  have hRm : zRoom Z 0 0 := zRoom0 Z
  unfold f_Pairs_wish at hf
  show AW Z 0 0 0 [some (.ref 0), some (.int a1), some (.int a2), none] [] ([kLives 0 8 v0, kTown 8 16 v1, kLaws 16 v2] : List (List zE)).flatten
  refine AW.run hZ hRm [7] 400 ?_
  show AW Z 0 0 7 [some (.ref 0), some (.int a1), some (.int a2), some (.ref 8)] [.int a2, .ref 8] ([kLives 0 8 v0, kTown 8 16 v1, kLaws 16 v2] : List (List zE)).flatten
  obtain ⟨q1, h15, hf⟩ := zbind hf
  refine AW.callVc hZ hR hN (c_Town_has N v1 v2 a2 q1 h15) zMX8_has_ok rfl rfl zK_BorrowedLives_Pairs_55 zV_X8_has rfl [8, 8, 6] [1, 2] [8, 9, 10, 11, 12, 13, 14, 15, 16, 17, 18, 19, 20, 21] rfl rfl rfl (by decide) (by decide) (by omega) (by decide) (Nat.zero_le _) (Nat.zero_le _) rfl rfl rfl rfl rfl ?_
  rintro v cc ⟨rfl, rfl⟩
  refine ⟨_, rfl, rfl, ?_⟩
  show AW Z 0 0 10 [some (.ref 0), some (.int a1), some (.int a2), some (.ref 8)] [.int q1] ([kLives 0 8 v0, kTown 8 16 v1, kLaws 16 v2] : List (List zE)).flatten
  refine AW.run hZ hRm [14, 21] 400 ?_
  show ((¬ (q1 = 0) → AW Z 0 0 21 [some (.ref 0), some (.int a1), some (.int a2), some (.ref 8)] [.int a2, .ref 0, .ref 16] ([kLives 0 8 v0, kTown 8 16 v1, kLaws 16 v2] : List (List zE)).flatten) ∧ ((q1 = 0) → AW Z 0 0 14 [some (.ref 0), some (.int a1), some (.int a2), some (.ref 8)] [.int 0] ([kLives 0 8 v0, kTown 8 16 v1, kLaws 16 v2] : List (List zE)).flatten))
  refine ⟨fun c2 => ?_, fun c2 => ?_⟩
  · rw [if_neg c2] at hf
    obtain ⟨q3, h14, hf⟩ := zbind hf
    refine AW.callVc hZ hR hN (c_Lives_openMoney N v0 v1 v2 a2 q3 h14) zMX3_openMoney_ok rfl rfl zK_BorrowedLives_Pairs_63 zV_X3_openMoney rfl [8, 8, 6] [0, 1, 2] [0, 1, 2, 3, 4, 5, 6, 7, 8, 9, 10, 11, 12, 13, 14, 15, 16, 17, 18, 19, 20, 21] rfl rfl rfl (by decide) (by decide) (by omega) (by decide) (Nat.zero_le _) (Nat.zero_le _) rfl rfl rfl rfl rfl ?_
    rintro v cc ⟨rfl, rfl⟩
    refine ⟨_, rfl, rfl, ?_⟩
    show AW Z 0 0 24 [some (.ref 0), some (.int a1), some (.int a2), some (.ref 8)] [.int q3, .ref 16] ([kLives 0 8 v0, kTown 8 16 v1, kLaws 16 v2] : List (List zE)).flatten
    refine AW.run hZ hRm [38] 400 ?_
    show (¬ (a2 < 0 ∨ 6 ≤ Int32.toNatClampNeg a2) ∧ (¬ (a2 < 0 ∨ 6 ≤ Int32.toNatClampNeg a2) ∧ AW Z 0 0 38 [some (.ref 0), some (.int a1), some (.int a2), some (.ref 8)] [.int a1, .ref 8, .int ((Lives_home v0) (Int32.toNatClampNeg a2)), .int ((Lives_debt v0) (Int32.toNatClampNeg a2)), .int q3, .ref 16] ([kLives 0 8 v0, kTown 8 16 v1, kLaws 16 v2] : List (List zE)).flatten))
    obtain ⟨b13, hf⟩ := zneed hf
    refine ⟨b13, ?_⟩
    obtain ⟨b12, hf⟩ := zneed hf
    refine ⟨b12, ?_⟩
    obtain ⟨q4, h11, hf⟩ := zbind hf
    refine AW.callVc hZ hR hN (c_Town_skillOf N v1 v2 a1 q4 h11) zMX8_skillOf_ok rfl rfl zK_BorrowedLives_Pairs_73 zV_X8_skillOf rfl [8, 8, 6] [1, 2] [8, 9, 10, 11, 12, 13, 14, 15, 16, 17, 18, 19, 20, 21] rfl rfl rfl (by decide) (by decide) (by omega) (by decide) (Nat.zero_le _) (Nat.zero_le _) rfl rfl rfl rfl rfl ?_
    rintro v cc ⟨rfl, rfl⟩
    refine ⟨_, rfl, rfl, ?_⟩
    show AW Z 0 0 41 [some (.ref 0), some (.int a1), some (.int a2), some (.ref 8)] [.int q4, .int ((Lives_home v0) (Int32.toNatClampNeg a2)), .int ((Lives_debt v0) (Int32.toNatClampNeg a2)), .int q3, .ref 16] ([kLives 0 8 v0, kTown 8 16 v1, kLaws 16 v2] : List (List zE)).flatten
    refine AW.run hZ hRm [43] 400 ?_
    show AW Z 0 0 43 [some (.ref 0), some (.int a1), some (.int a2), some (.ref 8)] [.int a1, .ref 8, .int q4, .int ((Lives_home v0) (Int32.toNatClampNeg a2)), .int ((Lives_debt v0) (Int32.toNatClampNeg a2)), .int q3, .ref 16] ([kLives 0 8 v0, kTown 8 16 v1, kLaws 16 v2] : List (List zE)).flatten
    obtain ⟨q5, h10, hf⟩ := zbind hf
    refine AW.callVc hZ hR hN (c_Town_kindOf N v1 v2 a1 q5 h10) zMX8_kindOf_ok rfl rfl zK_BorrowedLives_Pairs_76 zV_X8_kindOf rfl [8, 8, 6] [1, 2] [8, 9, 10, 11, 12, 13, 14, 15, 16, 17, 18, 19, 20, 21] rfl rfl rfl (by decide) (by decide) (by omega) (by decide) (Nat.zero_le _) (Nat.zero_le _) rfl rfl rfl rfl rfl ?_
    rintro v cc ⟨rfl, rfl⟩
    refine ⟨_, rfl, rfl, ?_⟩
    show AW Z 0 0 46 [some (.ref 0), some (.int a1), some (.int a2), some (.ref 8)] [.int q5, .int q4, .int ((Lives_home v0) (Int32.toNatClampNeg a2)), .int ((Lives_debt v0) (Int32.toNatClampNeg a2)), .int q3, .ref 16] ([kLives 0 8 v0, kTown 8 16 v1, kLaws 16 v2] : List (List zE)).flatten
    obtain ⟨q6, h9, hf⟩ := zbind hf
    refine AW.callVc hZ hR hN (c_Laws_setFacts N v2 q3 ((Lives_debt v0) (Int32.toNatClampNeg a2)) ((Lives_home v0) (Int32.toNatClampNeg a2)) q4 q5 q6 h9) zMX2_setFacts_ok rfl rfl zK_BorrowedLives_Pairs_79 zV_X2_setFacts rfl [8, 8, 6] [2] [16, 17, 18, 19, 20, 21] rfl rfl rfl (by decide) (by decide) (by omega) (by decide) (Nat.zero_le _) (Nat.zero_le _) rfl rfl rfl rfl rfl ?_
    rintro v cc ⟨rfl, rfl⟩
    refine ⟨_, rfl, rfl, ?_⟩
    show AW Z 0 0 49 [some (.ref 0), some (.int a1), some (.int a2), some (.ref 8)] [] ([kLives 0 8 v0, kTown 8 16 v1, kLaws 16 (Laws_facts_s v2 q6)] : List (List zE)).flatten
    refine AW.run hZ hRm [54] 400 ?_
    show AW Z 0 0 54 [some (.ref 0), some (.int a1), some (.int a2), some (.ref 8)] [.int 3, .ref 16] ([kLives 0 8 v0, kTown 8 16 v1, kLaws 16 (Laws_facts_s v2 q6)] : List (List zE)).flatten
    obtain ⟨q7, h8, hf⟩ := zbind hf
    refine AW.callVc hZ hR hN (c_Laws_valueOf N (Laws_facts_s v2 q6) 3 q7 h8) zMX2_valueOf_ok rfl rfl zK_BorrowedLives_Pairs_85 zV_X2_valueOf rfl [8, 8, 6] [2] [16, 17, 18, 19, 20, 21] rfl rfl rfl (by decide) (by decide) (by omega) (by decide) (Nat.zero_le _) (Nat.zero_le _) rfl rfl rfl rfl rfl ?_
    rintro v cc ⟨rfl, rfl⟩
    refine ⟨_, rfl, rfl, ?_⟩
    show AW Z 0 0 57 [some (.ref 0), some (.int a1), some (.int a2), some (.ref 8)] [.int q7.1] ([kLives 0 8 v0, kTown 8 16 v1, kLaws 16 (Laws_s_facts_stack v2 q6 q7.2)] : List (List zE)).flatten
    cases hf
    exact AW.iret hZ hE rfl rfl rfl rfl (Nat.le_refl 0) (Nat.le_refl 0) rfl ⟨rfl, rfl⟩
  · rw [if_pos c2] at hf
    cases hf
    exact AW.iret hZ hE rfl rfl rfl rfl (Nat.le_refl 0) (Nat.le_refl 0) rfl ⟨rfl, rfl⟩
def f_Pairs_wouldRather (N : Nat) (v0 : VLives) (v1 : VTown) (v2 : VLaws) (a1 : Int32) (a2 : Int32) : Option (Int32 × (Nat → Int32) × (Nat → Int32)) := (if (a1 = a2) then (some (0, (Laws_facts v2), (Laws_stack v2))) else ((f_Pairs_wish N v0 v1 v2 a1 a2).bind (fun q2 => ((f_Pairs_wish N v0 v1 (Laws_s_facts_stack v2 q2.2.1 q2.2.2) a1 a1).bind (fun q3 => (if (q2.1 ≤ q3.1) then (some (0, q3.2.1, q3.2.2)) else (some (1, q3.2.1, q3.2.2))))))))
set_option maxRecDepth 20000 in
set_option maxHeartbeats 4000000 in
theorem c_Pairs_wouldRather (N : Nat) (v0 : VLives) (v1 : VTown) (v2 : VLaws) (a1 : Int32) (a2 : Int32) (R : Int32 × (Nat → Int32) × (Nat → Int32)) (hf : f_Pairs_wouldRather N v0 v1 v2 a1 a2 = some R) : Ct zMX5_wouldRather 4 0 0 0 [.ref 0, .int a1, .int a2] ([kLives 0 8 v0, kTown 8 16 v1, kLaws 16 v2] : List (List zE)).flatten (fun v cc => v = some (.int R.1) ∧ cc = ([kLives 0 8 v0, kTown 8 16 v1, kLaws 16 (Laws_s_facts_stack v2 R.2.1 R.2.2)] : List (List zE)).flatten) := by
  refine Ct.of zMX5_wouldRather_ok (by decide) (Nat.le_of_ble_eq_true rfl) ?_
  intro Z hZ hR hN hE
  have hRm : zRoom Z 0 0 := zRoom0 Z
  unfold f_Pairs_wouldRather at hf
  show AW Z 0 0 0 [some (.ref 0), some (.int a1), some (.int a2)] [] ([kLives 0 8 v0, kTown 8 16 v1, kLaws 16 v2] : List (List zE)).flatten
  refine AW.run hZ hRm [8, 25] 400 ?_
  show (((a1 = a2) → AW Z 0 0 25 [some (.ref 0), some (.int a1), some (.int a2)] [.int 0] ([kLives 0 8 v0, kTown 8 16 v1, kLaws 16 v2] : List (List zE)).flatten) ∧ (¬ (a1 = a2) → AW Z 0 0 8 [some (.ref 0), some (.int a1), some (.int a2)] [.int a2, .int a1, .ref 0] ([kLives 0 8 v0, kTown 8 16 v1, kLaws 16 v2] : List (List zE)).flatten))
  refine ⟨fun c1 => ?_, fun c1 => ?_⟩
  · rw [if_pos c1] at hf
    cases hf
    exact AW.iret hZ hE rfl rfl rfl rfl (Nat.le_refl 0) (Nat.le_refl 0) rfl ⟨rfl, rfl⟩
  · rw [if_neg c1] at hf
    obtain ⟨q2, h6, hf⟩ := zbind hf
    refine AW.callSc hZ hR hN (c_Pairs_wish N v0 v1 v2 a1 a2 q2 h6) zMX5_wish_ok rfl rfl zK_BorrowedLives_Pairs_51 zV_X5_wish rfl [8, 8, 6] [0, 1, 2] [0, 1, 2, 3, 4, 5, 6, 7, 8, 9, 10, 11, 12, 13, 14, 15, 16, 17, 18, 19, 20, 21] rfl rfl rfl (by decide) (by decide) (by omega) (by decide) (Nat.zero_le _) (Nat.zero_le _) rfl rfl ?_
    rintro v cc ⟨rfl, rfl⟩
    refine ⟨_, rfl, rfl, ?_⟩
    show AW Z 0 0 11 [some (.ref 0), some (.int a1), some (.int a2)] [.int q2.1] ([kLives 0 8 v0, kTown 8 16 v1, kLaws 16 (Laws_s_facts_stack v2 q2.2.1 q2.2.2)] : List (List zE)).flatten
    refine AW.run hZ hRm [14] 400 ?_
    show AW Z 0 0 14 [some (.ref 0), some (.int a1), some (.int a2)] [.int a1, .int a1, .ref 0, .int q2.1] ([kLives 0 8 v0, kTown 8 16 v1, kLaws 16 (Laws_s_facts_stack v2 q2.2.1 q2.2.2)] : List (List zE)).flatten
    obtain ⟨q3, h5, hf⟩ := zbind hf
    refine AW.callSc hZ hR hN (c_Pairs_wish N v0 v1 (Laws_s_facts_stack v2 q2.2.1 q2.2.2) a1 a1 q3 h5) zMX5_wish_ok rfl rfl zK_BorrowedLives_Pairs_51 zV_X5_wish rfl [8, 8, 6] [0, 1, 2] [0, 1, 2, 3, 4, 5, 6, 7, 8, 9, 10, 11, 12, 13, 14, 15, 16, 17, 18, 19, 20, 21] rfl rfl rfl (by decide) (by decide) (by omega) (by decide) (Nat.zero_le _) (Nat.zero_le _) rfl rfl ?_
    rintro v cc ⟨rfl, rfl⟩
    refine ⟨_, rfl, rfl, ?_⟩
    show AW Z 0 0 17 [some (.ref 0), some (.int a1), some (.int a2)] [.int q3.1, .int q2.1] ([kLives 0 8 v0, kTown 8 16 v1, kLaws 16 (Laws_s_facts_stack v2 q3.2.1 q3.2.2)] : List (List zE)).flatten
    refine AW.run hZ hRm [25] 400 ?_
    show (((q2.1 ≤ q3.1) → AW Z 0 0 25 [some (.ref 0), some (.int a1), some (.int a2)] [.int 0] ([kLives 0 8 v0, kTown 8 16 v1, kLaws 16 (Laws_s_facts_stack v2 q3.2.1 q3.2.2)] : List (List zE)).flatten) ∧ (¬ (q2.1 ≤ q3.1) → AW Z 0 0 25 [some (.ref 0), some (.int a1), some (.int a2)] [.int 1] ([kLives 0 8 v0, kTown 8 16 v1, kLaws 16 (Laws_s_facts_stack v2 q3.2.1 q3.2.2)] : List (List zE)).flatten))
    refine ⟨fun c4 => ?_, fun c4 => ?_⟩
    · rw [if_pos c4] at hf
      cases hf
      exact AW.iret hZ hE rfl rfl rfl rfl (Nat.le_refl 0) (Nat.le_refl 0) rfl ⟨rfl, rfl⟩
    · rw [if_neg c4] at hf
      cases hf
      exact AW.iret hZ hE rfl rfl rfl rfl (Nat.le_refl 0) (Nat.le_refl 0) rfl ⟨rfl, rfl⟩
def f_Pairs_keepRow (N : Nat) (v0 : VPairs) (a1 : Int32) : Option ((Nat → Int32) × Int32) := (zlet ((if (a1 ≤ (Pairs_most v0)) then (Pairs_best v0) else (va_cpy (Pairs_row v0) (Pairs_best v0) (Int32.toNatClampNeg 0) (Int32.toNatClampNeg 0) (Int32.toNatClampNeg 6))) : (Nat → Int32)) (fun z3 => (some (z3, (if (a1 ≤ (Pairs_most v0)) then (Pairs_most v0) else a1)))))
set_option maxRecDepth 20000 in
set_option maxHeartbeats 4000000 in
theorem c_Pairs_keepRow (N : Nat) (v0 : VPairs) (a1 : Int32) (R : (Nat → Int32) × Int32) (hf : f_Pairs_keepRow N v0 a1 = some R) : Ct zMX5_keepRow 2 0 0 0 [.ref 0, .int a1] ([kPairs 0 v0] : List (List zE)).flatten (fun v cc => v = none ∧ cc = ([kPairs 0 (Pairs_s_best_most v0 R.1 R.2)] : List (List zE)).flatten) := by
  refine Ct.of zMX5_keepRow_ok (by decide) (Nat.le_of_ble_eq_true rfl) ?_
  intro Z hZ hR hN hE
  have hRm : zRoom Z 0 0 := zRoom0 Z
  unfold f_Pairs_keepRow at hf
  show AW Z 0 0 0 [some (.ref 0), some (.int a1)] [] ([kPairs 0 v0] : List (List zE)).flatten
  refine AW.run hZ hRm [5] 400 ?_
  show AW Z 0 0 5 [some (.ref 0), some (.int a1)] [.int (Pairs_most v0), .int a1] ([kPairs 0 v0] : List (List zE)).flatten
  suffices H1 : AW Z 0 0 28 [none, none] [] ([kPairs 0 (Pairs_s_best_most v0 (if (a1 ≤ (Pairs_most v0)) then (Pairs_best v0) else (va_cpy (Pairs_row v0) (Pairs_best v0) (Int32.toNatClampNeg 0) (Int32.toNatClampNeg 0) (Int32.toNatClampNeg 6))) (if (a1 ≤ (Pairs_most v0)) then (Pairs_most v0) else a1))] : List (List zE)).flatten from by
    refine AW.run hZ hRm [28] 400 ?_
    show (((a1 ≤ (Pairs_most v0)) → AW Z 0 0 28 [some (.ref 0), some (.int a1)] [] ([kPairs 0 v0] : List (List zE)).flatten) ∧ (¬ (a1 ≤ (Pairs_most v0)) → ((zcpyOk 0 0 6 6 6) ∧ AW Z 0 0 28 [some (.ref 0), some (.int a1)] [] ([kPairs 0 (Pairs_s_best_most v0 (va_cpy (Pairs_row v0) (Pairs_best v0) (Int32.toNatClampNeg 0) (Int32.toNatClampNeg 0) (Int32.toNatClampNeg 6)) a1)] : List (List zE)).flatten)))
    refine ⟨fun c2 => ?_, fun c2 => ?_⟩
    · refine AW.forget [false, false] ?_
      show AW Z 0 0 28 [none, none] [] ([kPairs 0 v0] : List (List zE)).flatten
      show AW Z 0 0 28 [none, none] [] ([kPairs 0 (Pairs_s_best_most v0 (Pairs_best v0) (Pairs_most v0))] : List (List zE)).flatten
      simpa only [if_pos c2] using H1
    · refine ⟨(by unfold zcpyOk; decide), ?_⟩
      refine AW.forget [false, false] ?_
      show AW Z 0 0 28 [none, none] [] ([kPairs 0 (Pairs_s_best_most v0 (va_cpy (Pairs_row v0) (Pairs_best v0) (Int32.toNatClampNeg 0) (Int32.toNatClampNeg 0) (Int32.toNatClampNeg 6)) a1)] : List (List zE)).flatten
      simpa only [if_neg c2] using H1
  replace hf := zlet_gen hf
  generalize ((if (a1 ≤ (Pairs_most v0)) then (Pairs_best v0) else (va_cpy (Pairs_row v0) (Pairs_best v0) (Int32.toNatClampNeg 0) (Int32.toNatClampNeg 0) (Int32.toNatClampNeg 6))) : (Nat → Int32)) = z3 at hf ⊢
  cases hf
  exact AW.vret hZ hE rfl rfl rfl (Nat.le_refl 0) (Nat.le_refl 0) rfl ⟨rfl, rfl⟩
def f_Pairs_pairFrom_L47 (r_f_Pairs_pairFrom : (VPairs → Int32 → Int32 → Int32 → Option ((Nat → Int32) × (Nat → Int32) × Int32))) (N : Nat) : Nat → VPairs → Int32 → Int32 → Int32 → Int32 → (Nat → Int32) → (Nat → Int32) → Int32 → Option ((Nat → Int32) × (Nat → Int32) × Int32)
  | 0, _, _, _, _, _, _, _, _ => none
  | fuel + 1, v0, y1, y2, y3, x4, m_row0, m_best1, m_most2 => (if ((Pairs_people v0) ≤ x4) then (some (m_row0, m_best1, m_most2)) else (if (y1 < 0 ∨ 6 ≤ Int32.toNatClampNeg y1) then none else (if (((((Pairs_willing v0) (Int32.toNatClampNeg y1)) >>> (x4 &&& 31)) &&& 1) = 0) then (f_Pairs_pairFrom_L47 r_f_Pairs_pairFrom N fuel v0 y1 y2 y3 (x4 + 1) m_row0 m_best1 m_most2) else (if (((y2 >>> (x4 &&& 31)) &&& 1) = 0) then (if (y1 < 0 ∨ 6 ≤ Int32.toNatClampNeg y1) then none else (if (x4 < 0 ∨ 6 ≤ Int32.toNatClampNeg x4) then none else ((r_f_Pairs_pairFrom (Pairs_s_row_best_most v0 (upd (upd m_row0 (Int32.toNatClampNeg y1) x4) (Int32.toNatClampNeg x4) y1) m_best1 m_most2) (y1 + 1) ((y2 ||| (1 <<< (y1 &&& 31))) ||| (1 <<< (x4 &&& 31))) (y3 + 1)).bind (fun q12 => (f_Pairs_pairFrom_L47 r_f_Pairs_pairFrom N fuel v0 y1 y2 y3 (x4 + 1) q12.1 q12.2.1 q12.2.2))))) else (f_Pairs_pairFrom_L47 r_f_Pairs_pairFrom N fuel v0 y1 y2 y3 (x4 + 1) m_row0 m_best1 m_most2)))))
def f_Pairs_pairFrom_b (r_f_Pairs_pairFrom : (VPairs → Int32 → Int32 → Int32 → Option ((Nat → Int32) × (Nat → Int32) × Int32))) (N : Nat) (v0 : VPairs) (a1 : Int32) (a2 : Int32) (a3 : Int32) : Option ((Nat → Int32) × (Nat → Int32) × Int32) := (if (a1 < 0) then ((f_Pairs_keepRow N v0 a3).bind (fun q2 => (some ((Pairs_row v0), q2.1, q2.2)))) else (if ((Pairs_people v0) ≤ a1) then ((f_Pairs_keepRow N v0 a3).bind (fun q5 => (some ((Pairs_row v0), q5.1, q5.2)))) else (if (a1 < 6) then (if (((a2 >>> (a1 &&& 31)) &&& 1) = 0) then ((f_Pairs_pairFrom_L47 r_f_Pairs_pairFrom N N v0 a1 a2 a3 (a1 + 1) (Pairs_row v0) (Pairs_best v0) (Pairs_most v0)).bind (fun q17 => (if (a1 < 0 ∨ 6 ≤ Int32.toNatClampNeg a1) then none else ((r_f_Pairs_pairFrom (Pairs_s_row_best_most v0 (upd q17.1 (Int32.toNatClampNeg a1) (-1)) q17.2.1 q17.2.2) (a1 + 1) a2 a3).bind (fun q19 => (some (q19.1, q19.2.1, q19.2.2))))))) else ((r_f_Pairs_pairFrom v0 (a1 + 1) a2 a3).bind (fun q22 => (some (q22.1, q22.2.1, q22.2.2))))) else ((f_Pairs_keepRow N v0 a3).bind (fun q24 => (some ((Pairs_row v0), q24.1, q24.2)))))))
def g_Pairs_pairFrom (N : Nat) : Nat → (VPairs → Int32 → Int32 → Int32 → Option ((Nat → Int32) × (Nat → Int32) × Int32))
  | 0 => (fun _ _ _ _ => none)
  | n + 1 => f_Pairs_pairFrom_b (g_Pairs_pairFrom N n) N
def f_Pairs_pairFrom (e N : Nat) (v0 : VPairs) (a1 : Int32) (a2 : Int32) (a3 : Int32) : Option ((Nat → Int32) × (Nat → Int32) × Int32) := (g_Pairs_pairFrom N e) v0 a1 a2 a3
set_option maxRecDepth 20000 in
set_option maxHeartbeats 4000000 in
theorem c_Pairs_pairFrom_L47 {r_f_Pairs_pairFrom : (VPairs → Int32 → Int32 → Int32 → Option ((Nat → Int32) × (Nat → Int32) × Int32))} {e : Nat} {Z : zCtx} {D n0w nf mcw msw : Nat} (hZ : zOk Z zMX5_pairFrom) (hR : zCan Z D mcw msw) (hDd : e + 3 ≤ D) (hN : zNew Z n0w nf) (hRm : zRoom Z 0 0) (hr_f_Pairs_pairFrom : ∀ (v0 : VPairs) (a1 : Int32) (a2 : Int32) (a3 : Int32) (R : (Nat → Int32) × (Nat → Int32) × Int32), r_f_Pairs_pairFrom v0 a1 a2 a3 = some R → Ct zMX5_pairFrom (e + 2) 0 0 0 [.ref 0, .int a1, .int a2, .int a3] ([kPairs 0 v0] : List (List zE)).flatten (fun v cc => v = none ∧ cc = ([kPairs 0 (Pairs_s_row_best_most v0 R.1 R.2.1 R.2.2)] : List (List zE)).flatten)) (N : Nat) : ∀ (fuel : Nat) (v0 : VPairs) (y1 : Int32) (y2 : Int32) (y3 : Int32) (x4 : Int32) (m_row0 : (Nat → Int32)) (m_best1 : (Nat → Int32)) (m_most2 : Int32) (q : ((Nat → Int32) × (Nat → Int32) × Int32)), f_Pairs_pairFrom_L47 r_f_Pairs_pairFrom N fuel v0 y1 y2 y3 x4 m_row0 m_best1 m_most2 = some q → (AW Z 0 0 121 [some (.ref 0), some (.int y1), some (.int y2), some (.int y3), none] [] ([kPairs 0 (Pairs_s_row_best_most v0 q.1 q.2.1 q.2.2)] : List (List zE)).flatten) → AW Z 0 0 47 [some (.ref 0), some (.int y1), some (.int y2), some (.int y3), some (.int x4)] [] ([kPairs 0 (Pairs_s_row_best_most v0 m_row0 m_best1 m_most2)] : List (List zE)).flatten := by
  intro fuel
  induction fuel with
  | zero =>
    intro v0 y1 y2 y3 x4 m_row0 m_best1 m_most2 q hf hk0
    simp [f_Pairs_pairFrom_L47] at hf
  | succ fuel ih =>
    intro v0 y1 y2 y3 x4 m_row0 m_best1 m_most2 q hf hk0
    rw [f_Pairs_pairFrom_L47] at hf
    refine AW.run hZ hRm [47, 112, 121] 400 ?_
    show ((((Pairs_people v0) ≤ x4) → AW Z 0 0 121 [some (.ref 0), some (.int y1), some (.int y2), some (.int y3), some (.int x4)] [] ([kPairs 0 (Pairs_s_row_best_most v0 m_row0 m_best1 m_most2)] : List (List zE)).flatten) ∧ (¬ ((Pairs_people v0) ≤ x4) → (¬ (y1 < 0 ∨ 6 ≤ Int32.toNatClampNeg y1) ∧ (((((((Pairs_willing v0) (Int32.toNatClampNeg y1)) >>> (x4 &&& 31)) &&& 1) = 0) → AW Z 0 0 47 [some (.ref 0), some (.int y1), some (.int y2), some (.int y3), some (.int (x4 + 1))] [] ([kPairs 0 (Pairs_s_row_best_most v0 m_row0 m_best1 m_most2)] : List (List zE)).flatten) ∧ (¬ (((((Pairs_willing v0) (Int32.toNatClampNeg y1)) >>> (x4 &&& 31)) &&& 1) = 0) → ((¬ (((y2 >>> (x4 &&& 31)) &&& 1) = 0) → AW Z 0 0 47 [some (.ref 0), some (.int y1), some (.int y2), some (.int y3), some (.int (x4 + 1))] [] ([kPairs 0 (Pairs_s_row_best_most v0 m_row0 m_best1 m_most2)] : List (List zE)).flatten) ∧ ((((y2 >>> (x4 &&& 31)) &&& 1) = 0) → (¬ (y1 < 0 ∨ 6 ≤ Int32.toNatClampNeg y1) ∧ (¬ (x4 < 0 ∨ 6 ≤ Int32.toNatClampNeg x4) ∧ AW Z 0 0 112 [some (.ref 0), some (.int y1), some (.int y2), some (.int y3), some (.int x4)] [.int (y3 + 1), .int ((y2 ||| (1 <<< (y1 &&& 31))) ||| (1 <<< (x4 &&& 31))), .int (y1 + 1), .ref 0] ([kPairs 0 (Pairs_s_row_best_most v0 (upd (upd m_row0 (Int32.toNatClampNeg y1) x4) (Int32.toNatClampNeg x4) y1) m_best1 m_most2)] : List (List zE)).flatten)))))))))
    refine ⟨fun c9 => ?_, fun c9 => ?_⟩
    · rw [if_pos c9] at hf
      cases hf
      refine AW.forget [true, true, true, true, false] ?_
      show AW Z 0 0 121 [some (.ref 0), some (.int y1), some (.int y2), some (.int y3), none] [] ([kPairs 0 (Pairs_s_row_best_most v0 m_row0 m_best1 m_most2)] : List (List zE)).flatten
      exact hk0
    · rw [if_neg c9] at hf
      obtain ⟨b16, hf⟩ := zneed hf
      refine ⟨b16, ?_⟩
      refine ⟨fun c10 => ?_, fun c10 => ?_⟩
      · rw [if_pos c10] at hf
        exact ih v0 y1 y2 y3 (x4 + 1) m_row0 m_best1 m_most2 q hf hk0
      · rw [if_neg c10] at hf
        refine ⟨fun c11 => ?_, fun c11 => ?_⟩
        · rw [if_neg c11] at hf
          exact ih v0 y1 y2 y3 (x4 + 1) m_row0 m_best1 m_most2 q hf hk0
        · rw [if_pos c11] at hf
          obtain ⟨b15, hf⟩ := zneed hf
          refine ⟨b15, ?_⟩
          obtain ⟨b14, hf⟩ := zneed hf
          refine ⟨b14, ?_⟩
          obtain ⟨q12, h13, hf⟩ := zbind hf
          refine AW.callSc hZ hR hN (hr_f_Pairs_pairFrom (Pairs_s_row_best_most v0 (upd (upd m_row0 (Int32.toNatClampNeg y1) x4) (Int32.toNatClampNeg x4) y1) m_best1 m_most2) (y1 + 1) ((y2 ||| (1 <<< (y1 &&& 31))) ||| (1 <<< (x4 &&& 31))) (y3 + 1) q12 h13) zMX5_pairFrom_ok rfl rfl zK_BorrowedLives_Pairs_47 zV_X5_pairFrom rfl [4] [0] [0, 1, 2, 3] rfl rfl rfl (by decide) (by decide) (by omega) (by decide) (Nat.zero_le _) (Nat.zero_le _) rfl rfl ?_
          rintro v cc ⟨rfl, rfl⟩
          refine ⟨_, rfl, rfl, ?_⟩
          show AW Z 0 0 115 [some (.ref 0), some (.int y1), some (.int y2), some (.int y3), some (.int x4)] [] ([kPairs 0 (Pairs_s_row_best_most v0 q12.1 q12.2.1 q12.2.2)] : List (List zE)).flatten
          refine AW.run hZ hRm [47] 400 ?_
          show AW Z 0 0 47 [some (.ref 0), some (.int y1), some (.int y2), some (.int y3), some (.int (x4 + 1))] [] ([kPairs 0 (Pairs_s_row_best_most v0 q12.1 q12.2.1 q12.2.2)] : List (List zE)).flatten
          exact ih v0 y1 y2 y3 (x4 + 1) q12.1 q12.2.1 q12.2.2 q hf hk0
set_option maxRecDepth 20000 in
set_option maxHeartbeats 4000000 in
theorem c_Pairs_pairFrom_b {r_f_Pairs_pairFrom : (VPairs → Int32 → Int32 → Int32 → Option ((Nat → Int32) × (Nat → Int32) × Int32))} {e : Nat} (hr_f_Pairs_pairFrom : ∀ (v0 : VPairs) (a1 : Int32) (a2 : Int32) (a3 : Int32) (R : (Nat → Int32) × (Nat → Int32) × Int32), r_f_Pairs_pairFrom v0 a1 a2 a3 = some R → Ct zMX5_pairFrom (e + 2) 0 0 0 [.ref 0, .int a1, .int a2, .int a3] ([kPairs 0 v0] : List (List zE)).flatten (fun v cc => v = none ∧ cc = ([kPairs 0 (Pairs_s_row_best_most v0 R.1 R.2.1 R.2.2)] : List (List zE)).flatten)) (N : Nat) (v0 : VPairs) (a1 : Int32) (a2 : Int32) (a3 : Int32) (R : (Nat → Int32) × (Nat → Int32) × Int32) (hf : f_Pairs_pairFrom_b r_f_Pairs_pairFrom N v0 a1 a2 a3 = some R) : Ct zMX5_pairFrom (e + 3) 0 0 0 [.ref 0, .int a1, .int a2, .int a3] ([kPairs 0 v0] : List (List zE)).flatten (fun v cc => v = none ∧ cc = ([kPairs 0 (Pairs_s_row_best_most v0 R.1 R.2.1 R.2.2)] : List (List zE)).flatten) := by
  refine Ct.of zMX5_pairFrom_ok (by omega) (Nat.le_of_ble_eq_true rfl) ?_
  intro Z hZ hR hN hE
  have hRm : zRoom Z 0 0 := zRoom0 Z
  unfold f_Pairs_pairFrom_b at hf
  show AW Z 0 0 0 [some (.ref 0), some (.int a1), some (.int a2), some (.int a3), none] [] ([kPairs 0 v0] : List (List zE)).flatten
  refine AW.run hZ hRm [20, 38, 47] 400 ?_
  show (((a1 < 0) → AW Z 0 0 20 [some (.ref 0), some (.int a1), some (.int a2), some (.int a3), none] [.int a3, .ref 0] ([kPairs 0 v0] : List (List zE)).flatten) ∧ (¬ (a1 < 0) → ((((Pairs_people v0) ≤ a1) → AW Z 0 0 20 [some (.ref 0), some (.int a1), some (.int a2), some (.int a3), none] [.int a3, .ref 0] ([kPairs 0 v0] : List (List zE)).flatten) ∧ (¬ ((Pairs_people v0) ≤ a1) → (((a1 < 6) → (((((a2 >>> (a1 &&& 31)) &&& 1) = 0) → AW Z 0 0 47 [some (.ref 0), some (.int a1), some (.int a2), some (.int a3), some (.int (a1 + 1))] [] ([kPairs 0 v0] : List (List zE)).flatten) ∧ (¬ (((a2 >>> (a1 &&& 31)) &&& 1) = 0) → AW Z 0 0 38 [some (.ref 0), some (.int a1), some (.int a2), some (.int a3), none] [.int a3, .int a2, .int (a1 + 1), .ref 0] ([kPairs 0 v0] : List (List zE)).flatten))) ∧ (¬ (a1 < 6) → AW Z 0 0 20 [some (.ref 0), some (.int a1), some (.int a2), some (.int a3), none] [.int a3, .ref 0] ([kPairs 0 v0] : List (List zE)).flatten))))))
  refine ⟨fun c1 => ?_, fun c1 => ?_⟩
  · rw [if_pos c1] at hf
    obtain ⟨q2, h3, hf⟩ := zbind hf
    refine AW.callVc hZ hR hN (c_Pairs_keepRow N v0 a3 q2 h3) zMX5_keepRow_ok rfl rfl zK_BorrowedLives_Pairs_88 zV_X5_keepRow rfl [4] [0] [0, 1, 2, 3] rfl rfl rfl (by decide) (by decide) (by omega) (by decide) (Nat.zero_le _) (Nat.zero_le _) rfl rfl rfl rfl rfl ?_
    rintro v cc ⟨rfl, rfl⟩
    refine ⟨_, rfl, rfl, ?_⟩
    show AW Z 0 0 23 [some (.ref 0), some (.int a1), some (.int a2), some (.int a3), none] [] ([kPairs 0 (Pairs_s_best_most v0 q2.1 q2.2)] : List (List zE)).flatten
    cases hf
    exact AW.vret hZ hE rfl rfl rfl (Nat.le_refl 0) (Nat.le_refl 0) rfl ⟨rfl, rfl⟩
  · rw [if_neg c1] at hf
    refine ⟨fun c4 => ?_, fun c4 => ?_⟩
    · rw [if_pos c4] at hf
      obtain ⟨q5, h6, hf⟩ := zbind hf
      refine AW.callVc hZ hR hN (c_Pairs_keepRow N v0 a3 q5 h6) zMX5_keepRow_ok rfl rfl zK_BorrowedLives_Pairs_88 zV_X5_keepRow rfl [4] [0] [0, 1, 2, 3] rfl rfl rfl (by decide) (by decide) (by omega) (by decide) (Nat.zero_le _) (Nat.zero_le _) rfl rfl rfl rfl rfl ?_
      rintro v cc ⟨rfl, rfl⟩
      refine ⟨_, rfl, rfl, ?_⟩
      show AW Z 0 0 23 [some (.ref 0), some (.int a1), some (.int a2), some (.int a3), none] [] ([kPairs 0 (Pairs_s_best_most v0 q5.1 q5.2)] : List (List zE)).flatten
      cases hf
      exact AW.vret hZ hE rfl rfl rfl (Nat.le_refl 0) (Nat.le_refl 0) rfl ⟨rfl, rfl⟩
    · rw [if_neg c4] at hf
      refine ⟨fun c7 => ?_, fun c7 => ?_⟩
      · rw [if_pos c7] at hf
        refine ⟨fun c8 => ?_, fun c8 => ?_⟩
        · rw [if_pos c8] at hf
          obtain ⟨q17, h18, hf⟩ := zbind hf
          refine c_Pairs_pairFrom_L47 hZ hR (by omega) hN hRm hr_f_Pairs_pairFrom N N v0 a1 a2 a3 (a1 + 1) (Pairs_row v0) (Pairs_best v0) (Pairs_most v0) q17 h18 ?_
          show AW Z 0 0 121 [some (.ref 0), some (.int a1), some (.int a2), some (.int a3), none] [] ([kPairs 0 (Pairs_s_row_best_most v0 q17.1 q17.2.1 q17.2.2)] : List (List zE)).flatten
          refine AW.run hZ hRm [134] 400 ?_
          show (¬ (a1 < 0 ∨ 6 ≤ Int32.toNatClampNeg a1) ∧ AW Z 0 0 134 [some (.ref 0), some (.int a1), some (.int a2), some (.int a3), none] [.int a3, .int a2, .int (a1 + 1), .ref 0] ([kPairs 0 (Pairs_s_row_best_most v0 (upd q17.1 (Int32.toNatClampNeg a1) (-1)) q17.2.1 q17.2.2)] : List (List zE)).flatten)
          obtain ⟨b21, hf⟩ := zneed hf
          refine ⟨b21, ?_⟩
          obtain ⟨q19, h20, hf⟩ := zbind hf
          refine AW.callSc hZ hR hN (hr_f_Pairs_pairFrom (Pairs_s_row_best_most v0 (upd q17.1 (Int32.toNatClampNeg a1) (-1)) q17.2.1 q17.2.2) (a1 + 1) a2 a3 q19 h20) zMX5_pairFrom_ok rfl rfl zK_BorrowedLives_Pairs_47 zV_X5_pairFrom rfl [4] [0] [0, 1, 2, 3] rfl rfl rfl (by decide) (by decide) (by omega) (by decide) (Nat.zero_le _) (Nat.zero_le _) rfl rfl ?_
          rintro v cc ⟨rfl, rfl⟩
          refine ⟨_, rfl, rfl, ?_⟩
          show AW Z 0 0 137 [some (.ref 0), some (.int a1), some (.int a2), some (.int a3), none] [] ([kPairs 0 (Pairs_s_row_best_most v0 q19.1 q19.2.1 q19.2.2)] : List (List zE)).flatten
          cases hf
          exact AW.vret hZ hE rfl rfl rfl (Nat.le_refl 0) (Nat.le_refl 0) rfl ⟨rfl, rfl⟩
        · rw [if_neg c8] at hf
          obtain ⟨q22, h23, hf⟩ := zbind hf
          refine AW.callSc hZ hR hN (hr_f_Pairs_pairFrom v0 (a1 + 1) a2 a3 q22 h23) zMX5_pairFrom_ok rfl rfl zK_BorrowedLives_Pairs_47 zV_X5_pairFrom rfl [4] [0] [0, 1, 2, 3] rfl rfl rfl (by decide) (by decide) (by omega) (by decide) (Nat.zero_le _) (Nat.zero_le _) rfl rfl ?_
          rintro v cc ⟨rfl, rfl⟩
          refine ⟨_, rfl, rfl, ?_⟩
          show AW Z 0 0 41 [some (.ref 0), some (.int a1), some (.int a2), some (.int a3), none] [] ([kPairs 0 (Pairs_s_row_best_most v0 q22.1 q22.2.1 q22.2.2)] : List (List zE)).flatten
          cases hf
          exact AW.vret hZ hE rfl rfl rfl (Nat.le_refl 0) (Nat.le_refl 0) rfl ⟨rfl, rfl⟩
      · rw [if_neg c7] at hf
        obtain ⟨q24, h25, hf⟩ := zbind hf
        refine AW.callVc hZ hR hN (c_Pairs_keepRow N v0 a3 q24 h25) zMX5_keepRow_ok rfl rfl zK_BorrowedLives_Pairs_88 zV_X5_keepRow rfl [4] [0] [0, 1, 2, 3] rfl rfl rfl (by decide) (by decide) (by omega) (by decide) (Nat.zero_le _) (Nat.zero_le _) rfl rfl rfl rfl rfl ?_
        rintro v cc ⟨rfl, rfl⟩
        refine ⟨_, rfl, rfl, ?_⟩
        show AW Z 0 0 23 [some (.ref 0), some (.int a1), some (.int a2), some (.int a3), none] [] ([kPairs 0 (Pairs_s_best_most v0 q24.1 q24.2)] : List (List zE)).flatten
        cases hf
        exact AW.vret hZ hE rfl rfl rfl (Nat.le_refl 0) (Nat.le_refl 0) rfl ⟨rfl, rfl⟩
set_option maxRecDepth 20000 in
set_option maxHeartbeats 4000000 in
theorem c_g_Pairs_pairFrom (N : Nat) : ∀ e : Nat, (∀ (v0 : VPairs) (a1 : Int32) (a2 : Int32) (a3 : Int32) (R : (Nat → Int32) × (Nat → Int32) × Int32), (g_Pairs_pairFrom N e) v0 a1 a2 a3 = some R → Ct zMX5_pairFrom (e + 2) 0 0 0 [.ref 0, .int a1, .int a2, .int a3] ([kPairs 0 v0] : List (List zE)).flatten (fun v cc => v = none ∧ cc = ([kPairs 0 (Pairs_s_row_best_most v0 R.1 R.2.1 R.2.2)] : List (List zE)).flatten)) := by
  intro e
  induction e with
  | zero => exact (fun _ _ _ _ R h => by cases h)
  | succ e ih =>
    exact (fun v0 a1 a2 a3 R h => by
      have h9 := c_Pairs_pairFrom_b ih N v0 a1 a2 a3 R h
      rw [show e + 1 + 2 = e + 3 by omega]
      exact h9)
set_option maxRecDepth 20000 in
set_option maxHeartbeats 4000000 in
theorem c_Pairs_pairFrom (e N : Nat) (v0 : VPairs) (a1 : Int32) (a2 : Int32) (a3 : Int32) (R : (Nat → Int32) × (Nat → Int32) × Int32) (hf : f_Pairs_pairFrom e N v0 a1 a2 a3 = some R) : Ct zMX5_pairFrom (e + 2) 0 0 0 [.ref 0, .int a1, .int a2, .int a3] ([kPairs 0 v0] : List (List zE)).flatten (fun v cc => v = none ∧ cc = ([kPairs 0 (Pairs_s_row_best_most v0 R.1 R.2.1 R.2.2)] : List (List zE)).flatten) := by
  exact (c_g_Pairs_pairFrom N e) v0 a1 a2 a3 R hf
def f_Pairs_seek_L35 (N : Nat) : Nat → VPairs → VLives → VTown → VLaws → Int32 → Int32 → (Nat → Int32) → (Nat → Int32) → (Nat → Int32) → Option ((Nat → Int32) × (Nat → Int32) × (Nat → Int32))
  | 0, _, _, _, _, _, _, _, _, _ => none
  | fuel + 1, v0, v1, v2, v3, y2, x3, m_willing0, m_facts1, m_stack2 => (if ((Pairs_people v0) ≤ x3) then (some (m_willing0, m_facts1, m_stack2)) else ((f_Pairs_wouldRather N v1 v2 (Laws_s_facts_stack v3 m_facts1 m_stack2) y2 x3).bind (fun q3 => (if (q3.1 = 0) then (f_Pairs_seek_L35 N fuel v0 v1 v2 v3 y2 (x3 + 1) m_willing0 q3.2.1 q3.2.2) else ((f_Pairs_wouldRather N v1 v2 (Laws_s_facts_stack v3 q3.2.1 q3.2.2) x3 y2).bind (fun q5 => (if (q5.1 = 0) then (f_Pairs_seek_L35 N fuel v0 v1 v2 v3 y2 (x3 + 1) m_willing0 q5.2.1 q5.2.2) else (if (y2 < 0 ∨ 6 ≤ Int32.toNatClampNeg y2) then none else (if (y2 < 0 ∨ 6 ≤ Int32.toNatClampNeg y2) then none else (f_Pairs_seek_L35 N fuel v0 v1 v2 v3 y2 (x3 + 1) (upd m_willing0 (Int32.toNatClampNeg y2) ((m_willing0 (Int32.toNatClampNeg y2)) ||| (1 <<< (x3 &&& 31)))) q5.2.1 q5.2.2))))))))))
def f_Pairs_seek_L18 (N : Nat) : Nat → VPairs → VLives → VTown → VLaws → Int32 → (Nat → Int32) → (Nat → Int32) → (Nat → Int32) → Option ((Nat → Int32) × (Nat → Int32) × (Nat → Int32))
  | 0, _, _, _, _, _, _, _, _ => none
  | fuel + 1, v0, v1, v2, v3, x2, m_willing0, m_facts1, m_stack2 => (if ((Pairs_people v0) ≤ x2) then (some (m_willing0, m_facts1, m_stack2)) else (if (x2 < 0 ∨ 6 ≤ Int32.toNatClampNeg x2) then none else ((f_Pairs_seek_L35 N N (Pairs_willing_s v0 (upd m_willing0 (Int32.toNatClampNeg x2) 0)) v1 v2 (Laws_s_facts_stack v3 m_facts1 m_stack2) x2 0 (upd m_willing0 (Int32.toNatClampNeg x2) 0) m_facts1 m_stack2).bind (fun q11 => (f_Pairs_seek_L18 N fuel v0 v1 v2 v3 (x2 + 1) q11.1 q11.2.1 q11.2.2)))))
def f_Pairs_seek (N : Nat) (v0 : VPairs) (v1 : VLives) (v2 : VTown) (v3 : VLaws) : Option (Int32 × (Nat → Int32) × (Nat → Int32) × (Nat → Int32) × Int32 × (Nat → Int32) × (Nat → Int32)) := ((f_Pairs_seek_L18 N N (Pairs_people_s v0 (if 6 < (Town_people v2) then 6 else (Town_people v2))) v1 v2 v3 0 (Pairs_willing v0) (Laws_facts v3) (Laws_stack v3)).bind (fun q14 => ((f_Pairs_pairFrom 64 N (Pairs_s_people_willing_most v0 (if 6 < (Town_people v2) then 6 else (Town_people v2)) q14.1 (-1)) 0 0 0).bind (fun q16 => (some ((if 6 < (Town_people v2) then 6 else (Town_people v2)), q14.1, q16.1, q16.2.1, q16.2.2, q14.2.1, q14.2.2))))))
set_option maxRecDepth 20000 in
set_option maxHeartbeats 4000000 in
theorem c_Pairs_seek_L35 {Z : zCtx} {D n0w nf mcw msw : Nat} (hZ : zOk Z zMX5_seek) (hR : zCan Z D mcw msw) (hDd : 67 ≤ D) (hN : zNew Z n0w nf) (hRm : zRoom Z 0 0) (N : Nat) : ∀ (fuel : Nat) (v0 : VPairs) (v1 : VLives) (v2 : VTown) (v3 : VLaws) (y2 : Int32) (x3 : Int32) (m_willing0 : (Nat → Int32)) (m_facts1 : (Nat → Int32)) (m_stack2 : (Nat → Int32)) (q : ((Nat → Int32) × (Nat → Int32) × (Nat → Int32))), f_Pairs_seek_L35 N fuel v0 v1 v2 v3 y2 x3 m_willing0 m_facts1 m_stack2 = some q → (AW Z 0 0 79 [some (.ref 0), some (.ref 4), some (.int y2), none] [] ([kPairs 0 (Pairs_willing_s v0 q.1), kLives 4 12 v1, kTown 12 20 v2, kLaws 20 (Laws_s_facts_stack v3 q.2.1 q.2.2)] : List (List zE)).flatten) → AW Z 0 0 35 [some (.ref 0), some (.ref 4), some (.int y2), some (.int x3)] [] ([kPairs 0 (Pairs_willing_s v0 m_willing0), kLives 4 12 v1, kTown 12 20 v2, kLaws 20 (Laws_s_facts_stack v3 m_facts1 m_stack2)] : List (List zE)).flatten := by
  intro fuel
  induction fuel with
  | zero =>
    intro v0 v1 v2 v3 y2 x3 m_willing0 m_facts1 m_stack2 q hf hk0
    simp [f_Pairs_seek_L35] at hf
  | succ fuel ih =>
    intro v0 v1 v2 v3 y2 x3 m_willing0 m_facts1 m_stack2 q hf hk0
    rw [f_Pairs_seek_L35] at hf
    refine AW.run hZ hRm [46, 79] 400 ?_
    show ((((Pairs_people v0) ≤ x3) → AW Z 0 0 79 [some (.ref 0), some (.ref 4), some (.int y2), some (.int x3)] [] ([kPairs 0 (Pairs_willing_s v0 m_willing0), kLives 4 12 v1, kTown 12 20 v2, kLaws 20 (Laws_s_facts_stack v3 m_facts1 m_stack2)] : List (List zE)).flatten) ∧ (¬ ((Pairs_people v0) ≤ x3) → AW Z 0 0 46 [some (.ref 0), some (.ref 4), some (.int y2), some (.int x3)] [.int x3, .int y2, .ref 4] ([kPairs 0 (Pairs_willing_s v0 m_willing0), kLives 4 12 v1, kTown 12 20 v2, kLaws 20 (Laws_s_facts_stack v3 m_facts1 m_stack2)] : List (List zE)).flatten))
    refine ⟨fun c2 => ?_, fun c2 => ?_⟩
    · rw [if_pos c2] at hf
      cases hf
      refine AW.forget [true, true, true, false] ?_
      show AW Z 0 0 79 [some (.ref 0), some (.ref 4), some (.int y2), none] [] ([kPairs 0 (Pairs_willing_s v0 m_willing0), kLives 4 12 v1, kTown 12 20 v2, kLaws 20 (Laws_s_facts_stack v3 m_facts1 m_stack2)] : List (List zE)).flatten
      exact hk0
    · rw [if_neg c2] at hf
      obtain ⟨q3, h10, hf⟩ := zbind hf
      refine AW.callSc hZ hR hN (c_Pairs_wouldRather N v1 v2 (Laws_s_facts_stack v3 m_facts1 m_stack2) y2 x3 q3 h10) zMX5_wouldRather_ok rfl rfl zK_BorrowedLives_Pairs_43 zV_X5_wouldRather rfl [4, 8, 8, 6] [1, 2, 3] [4, 5, 6, 7, 8, 9, 10, 11, 12, 13, 14, 15, 16, 17, 18, 19, 20, 21, 22, 23, 24, 25] rfl rfl rfl (by decide) (by decide) (by omega) (by decide) (Nat.zero_le _) (Nat.zero_le _) rfl rfl ?_
      rintro v cc ⟨rfl, rfl⟩
      refine ⟨_, rfl, rfl, ?_⟩
      show AW Z 0 0 49 [some (.ref 0), some (.ref 4), some (.int y2), some (.int x3)] [.int q3.1] ([kPairs 0 (Pairs_willing_s v0 m_willing0), kLives 4 12 v1, kTown 12 20 v2, kLaws 20 (Laws_s_facts_stack v3 q3.2.1 q3.2.2)] : List (List zE)).flatten
      refine AW.run hZ hRm [35, 55] 400 ?_
      show (((q3.1 = 0) → AW Z 0 0 35 [some (.ref 0), some (.ref 4), some (.int y2), some (.int (x3 + 1))] [] ([kPairs 0 (Pairs_willing_s v0 m_willing0), kLives 4 12 v1, kTown 12 20 v2, kLaws 20 (Laws_s_facts_stack v3 q3.2.1 q3.2.2)] : List (List zE)).flatten) ∧ (¬ (q3.1 = 0) → AW Z 0 0 55 [some (.ref 0), some (.ref 4), some (.int y2), some (.int x3)] [.int y2, .int x3, .ref 4] ([kPairs 0 (Pairs_willing_s v0 m_willing0), kLives 4 12 v1, kTown 12 20 v2, kLaws 20 (Laws_s_facts_stack v3 q3.2.1 q3.2.2)] : List (List zE)).flatten))
      refine ⟨fun c4 => ?_, fun c4 => ?_⟩
      · rw [if_pos c4] at hf
        exact ih v0 v1 v2 v3 y2 (x3 + 1) m_willing0 q3.2.1 q3.2.2 q hf hk0
      · rw [if_neg c4] at hf
        obtain ⟨q5, h9, hf⟩ := zbind hf
        refine AW.callSc hZ hR hN (c_Pairs_wouldRather N v1 v2 (Laws_s_facts_stack v3 q3.2.1 q3.2.2) x3 y2 q5 h9) zMX5_wouldRather_ok rfl rfl zK_BorrowedLives_Pairs_43 zV_X5_wouldRather rfl [4, 8, 8, 6] [1, 2, 3] [4, 5, 6, 7, 8, 9, 10, 11, 12, 13, 14, 15, 16, 17, 18, 19, 20, 21, 22, 23, 24, 25] rfl rfl rfl (by decide) (by decide) (by omega) (by decide) (Nat.zero_le _) (Nat.zero_le _) rfl rfl ?_
        rintro v cc ⟨rfl, rfl⟩
        refine ⟨_, rfl, rfl, ?_⟩
        show AW Z 0 0 58 [some (.ref 0), some (.ref 4), some (.int y2), some (.int x3)] [.int q5.1] ([kPairs 0 (Pairs_willing_s v0 m_willing0), kLives 4 12 v1, kTown 12 20 v2, kLaws 20 (Laws_s_facts_stack v3 q5.2.1 q5.2.2)] : List (List zE)).flatten
        refine AW.run hZ hRm [35] 400 ?_
        show (((q5.1 = 0) → AW Z 0 0 35 [some (.ref 0), some (.ref 4), some (.int y2), some (.int (x3 + 1))] [] ([kPairs 0 (Pairs_willing_s v0 m_willing0), kLives 4 12 v1, kTown 12 20 v2, kLaws 20 (Laws_s_facts_stack v3 q5.2.1 q5.2.2)] : List (List zE)).flatten) ∧ (¬ (q5.1 = 0) → (¬ (y2 < 0 ∨ 6 ≤ Int32.toNatClampNeg y2) ∧ (¬ (y2 < 0 ∨ 6 ≤ Int32.toNatClampNeg y2) ∧ AW Z 0 0 35 [some (.ref 0), some (.ref 4), some (.int y2), some (.int (x3 + 1))] [] ([kPairs 0 (Pairs_willing_s v0 (upd m_willing0 (Int32.toNatClampNeg y2) ((m_willing0 (Int32.toNatClampNeg y2)) ||| (1 <<< (x3 &&& 31))))), kLives 4 12 v1, kTown 12 20 v2, kLaws 20 (Laws_s_facts_stack v3 q5.2.1 q5.2.2)] : List (List zE)).flatten))))
        refine ⟨fun c6 => ?_, fun c6 => ?_⟩
        · rw [if_pos c6] at hf
          exact ih v0 v1 v2 v3 y2 (x3 + 1) m_willing0 q5.2.1 q5.2.2 q hf hk0
        · rw [if_neg c6] at hf
          obtain ⟨b8, hf⟩ := zneed hf
          refine ⟨b8, ?_⟩
          obtain ⟨b7, hf⟩ := zneed hf
          refine ⟨b7, ?_⟩
          exact ih v0 v1 v2 v3 y2 (x3 + 1) (upd m_willing0 (Int32.toNatClampNeg y2) ((m_willing0 (Int32.toNatClampNeg y2)) ||| (1 <<< (x3 &&& 31)))) q5.2.1 q5.2.2 q hf hk0
set_option maxRecDepth 20000 in
set_option maxHeartbeats 4000000 in
theorem c_Pairs_seek_L18 {Z : zCtx} {D n0w nf mcw msw : Nat} (hZ : zOk Z zMX5_seek) (hR : zCan Z D mcw msw) (hDd : 67 ≤ D) (hN : zNew Z n0w nf) (hRm : zRoom Z 0 0) (N : Nat) : ∀ (fuel : Nat) (v0 : VPairs) (v1 : VLives) (v2 : VTown) (v3 : VLaws) (x2 : Int32) (m_willing0 : (Nat → Int32)) (m_facts1 : (Nat → Int32)) (m_stack2 : (Nat → Int32)) (q : ((Nat → Int32) × (Nat → Int32) × (Nat → Int32))), f_Pairs_seek_L18 N fuel v0 v1 v2 v3 x2 m_willing0 m_facts1 m_stack2 = some q → (AW Z 0 0 85 [some (.ref 0), none, none, none] [] ([kPairs 0 (Pairs_willing_s v0 q.1), kLives 4 12 v1, kTown 12 20 v2, kLaws 20 (Laws_s_facts_stack v3 q.2.1 q.2.2)] : List (List zE)).flatten) → AW Z 0 0 18 [some (.ref 0), some (.ref 4), some (.int x2), none] [] ([kPairs 0 (Pairs_willing_s v0 m_willing0), kLives 4 12 v1, kTown 12 20 v2, kLaws 20 (Laws_s_facts_stack v3 m_facts1 m_stack2)] : List (List zE)).flatten := by
  intro fuel
  induction fuel with
  | zero =>
    intro v0 v1 v2 v3 x2 m_willing0 m_facts1 m_stack2 q hf hk0
    simp [f_Pairs_seek_L18] at hf
  | succ fuel ih =>
    intro v0 v1 v2 v3 x2 m_willing0 m_facts1 m_stack2 q hf hk0
    rw [f_Pairs_seek_L18] at hf
    refine AW.run hZ hRm [35, 85] 400 ?_
    show ((((Pairs_people v0) ≤ x2) → AW Z 0 0 85 [some (.ref 0), some (.ref 4), some (.int x2), none] [] ([kPairs 0 (Pairs_willing_s v0 m_willing0), kLives 4 12 v1, kTown 12 20 v2, kLaws 20 (Laws_s_facts_stack v3 m_facts1 m_stack2)] : List (List zE)).flatten) ∧ (¬ ((Pairs_people v0) ≤ x2) → (¬ (x2 < 0 ∨ 6 ≤ Int32.toNatClampNeg x2) ∧ AW Z 0 0 35 [some (.ref 0), some (.ref 4), some (.int x2), some (.int 0)] [] ([kPairs 0 (Pairs_willing_s v0 (upd m_willing0 (Int32.toNatClampNeg x2) 0)), kLives 4 12 v1, kTown 12 20 v2, kLaws 20 (Laws_s_facts_stack v3 m_facts1 m_stack2)] : List (List zE)).flatten)))
    refine ⟨fun c1 => ?_, fun c1 => ?_⟩
    · rw [if_pos c1] at hf
      cases hf
      refine AW.forget [true, false, false, false] ?_
      show AW Z 0 0 85 [some (.ref 0), none, none, none] [] ([kPairs 0 (Pairs_willing_s v0 m_willing0), kLives 4 12 v1, kTown 12 20 v2, kLaws 20 (Laws_s_facts_stack v3 m_facts1 m_stack2)] : List (List zE)).flatten
      exact hk0
    · rw [if_neg c1] at hf
      obtain ⟨b13, hf⟩ := zneed hf
      refine ⟨b13, ?_⟩
      obtain ⟨q11, h12, hf⟩ := zbind hf
      refine c_Pairs_seek_L35 hZ hR (by omega) hN hRm N N (Pairs_willing_s v0 (upd m_willing0 (Int32.toNatClampNeg x2) 0)) v1 v2 (Laws_s_facts_stack v3 m_facts1 m_stack2) x2 0 (upd m_willing0 (Int32.toNatClampNeg x2) 0) m_facts1 m_stack2 q11 h12 ?_
      show AW Z 0 0 79 [some (.ref 0), some (.ref 4), some (.int x2), none] [] ([kPairs 0 (Pairs_willing_s v0 q11.1), kLives 4 12 v1, kTown 12 20 v2, kLaws 20 (Laws_s_facts_stack v3 q11.2.1 q11.2.2)] : List (List zE)).flatten
      refine AW.run hZ hRm [18] 400 ?_
      show AW Z 0 0 18 [some (.ref 0), some (.ref 4), some (.int (x2 + 1)), none] [] ([kPairs 0 (Pairs_willing_s v0 q11.1), kLives 4 12 v1, kTown 12 20 v2, kLaws 20 (Laws_s_facts_stack v3 q11.2.1 q11.2.2)] : List (List zE)).flatten
      exact ih v0 v1 v2 v3 (x2 + 1) q11.1 q11.2.1 q11.2.2 q hf hk0
set_option maxRecDepth 20000 in
set_option maxHeartbeats 4000000 in
theorem c_Pairs_seek (N : Nat) (v0 : VPairs) (v1 : VLives) (v2 : VTown) (v3 : VLaws) (R : Int32 × (Nat → Int32) × (Nat → Int32) × (Nat → Int32) × Int32 × (Nat → Int32) × (Nat → Int32)) (hf : f_Pairs_seek N v0 v1 v2 v3 = some R) : Ct zMX5_seek 67 0 0 0 [.ref 0, .ref 4] ([kPairs 0 v0, kLives 4 12 v1, kTown 12 20 v2, kLaws 20 v3] : List (List zE)).flatten (fun v cc => v = none ∧ cc = ([kPairs 0 (Pairs_s_people_willing_row_best_most v0 R.1 R.2.1 R.2.2.1 R.2.2.2.1 R.2.2.2.2.1), kLives 4 12 v1, kTown 12 20 v2, kLaws 20 (Laws_s_facts_stack v3 R.2.2.2.2.2.1 R.2.2.2.2.2.2)] : List (List zE)).flatten) := by
  refine Ct.of zMX5_seek_ok (by decide) (Nat.le_of_ble_eq_true rfl) ?_
  intro Z hZ hR hN hE
  have hRm : zRoom Z 0 0 := zRoom0 Z
  unfold f_Pairs_seek at hf
  show AW Z 0 0 0 [some (.ref 0), some (.ref 4), none, none] [] ([kPairs 0 v0, kLives 4 12 v1, kTown 12 20 v2, kLaws 20 v3] : List (List zE)).flatten
  refine AW.run hZ hRm [18] 400 ?_
  show AW Z 0 0 18 [some (.ref 0), some (.ref 4), some (.int 0), none] [] ([kPairs 0 (Pairs_people_s v0 (if 6 < (Town_people v2) then 6 else (Town_people v2))), kLives 4 12 v1, kTown 12 20 v2, kLaws 20 v3] : List (List zE)).flatten
  obtain ⟨q14, h15, hf⟩ := zbind hf
  refine c_Pairs_seek_L18 hZ hR (by omega) hN hRm N N (Pairs_people_s v0 (if 6 < (Town_people v2) then 6 else (Town_people v2))) v1 v2 v3 0 (Pairs_willing v0) (Laws_facts v3) (Laws_stack v3) q14 h15 ?_
  show AW Z 0 0 85 [some (.ref 0), none, none, none] [] ([kPairs 0 (Pairs_s_people_willing v0 (if 6 < (Town_people v2) then 6 else (Town_people v2)) q14.1), kLives 4 12 v1, kTown 12 20 v2, kLaws 20 (Laws_s_facts_stack v3 q14.2.1 q14.2.2)] : List (List zE)).flatten
  refine AW.run hZ hRm [94] 400 ?_
  show AW Z 0 0 94 [some (.ref 0), none, none, none] [.int 0, .int 0, .int 0, .ref 0] ([kPairs 0 (Pairs_s_people_willing_most v0 (if 6 < (Town_people v2) then 6 else (Town_people v2)) q14.1 (-1)), kLives 4 12 v1, kTown 12 20 v2, kLaws 20 (Laws_s_facts_stack v3 q14.2.1 q14.2.2)] : List (List zE)).flatten
  obtain ⟨q16, h17, hf⟩ := zbind hf
  refine AW.callSc hZ hR hN (c_Pairs_pairFrom 64 N (Pairs_s_people_willing_most v0 (if 6 < (Town_people v2) then 6 else (Town_people v2)) q14.1 (-1)) 0 0 0 q16 h17) zMX5_pairFrom_ok rfl rfl zK_BorrowedLives_Pairs_47 zV_X5_pairFrom rfl [4, 8, 8, 6] [0] [0, 1, 2, 3] rfl rfl rfl (by decide) (by decide) (by omega) (by decide) (Nat.zero_le _) (Nat.zero_le _) rfl rfl ?_
  rintro v cc ⟨rfl, rfl⟩
  refine ⟨_, rfl, rfl, ?_⟩
  show AW Z 0 0 97 [some (.ref 0), none, none, none] [] ([kPairs 0 (Pairs_s_people_willing_row_best_most v0 (if 6 < (Town_people v2) then 6 else (Town_people v2)) q14.1 q16.1 q16.2.1 q16.2.2), kLives 4 12 v1, kTown 12 20 v2, kLaws 20 (Laws_s_facts_stack v3 q14.2.1 q14.2.2)] : List (List zE)).flatten
  cases hf
  exact AW.vret hZ hE rfl rfl rfl (Nat.le_refl 0) (Nat.le_refl 0) rfl ⟨rfl, rfl⟩
def f_Tales_copyFrom (N : Nat) (v0 : VTales) (v1 : VTales) : Option (Int32 × (Nat → Int32) × (Nat → Int32) × (Nat → Int32)) := (some ((Tales_count v1), (va_cpy (Tales_lives v1) (Tales_lives v0) (Int32.toNatClampNeg 0) (Int32.toNatClampNeg 0) (Int32.toNatClampNeg 8)), (va_cpy (Tales_days v1) (Tales_days v0) (Int32.toNatClampNeg 0) (Int32.toNatClampNeg 0) (Int32.toNatClampNeg 8)), (va_cpy (Tales_purses v1) (Tales_purses v0) (Int32.toNatClampNeg 0) (Int32.toNatClampNeg 0) (Int32.toNatClampNeg 8))))
set_option maxRecDepth 20000 in
set_option maxHeartbeats 4000000 in
theorem c_Tales_copyFrom (N : Nat) (v0 : VTales) (v1 : VTales) (R : Int32 × (Nat → Int32) × (Nat → Int32) × (Nat → Int32)) (hf : f_Tales_copyFrom N v0 v1 = some R) : Ct zMX6_copyFrom 2 0 0 0 [.ref 0, .ref 4] ([kTales 0 v0, kTales 4 v1] : List (List zE)).flatten (fun v cc => v = none ∧ cc = ([kTales 0 (Tales_s_count_lives_days_purses v0 R.1 R.2.1 R.2.2.1 R.2.2.2), kTales 4 v1] : List (List zE)).flatten) := by
  refine Ct.of zMX6_copyFrom_ok (by decide) (Nat.le_of_ble_eq_true rfl) ?_
  intro Z hZ hR hN hE
  have hRm : zRoom Z 0 0 := zRoom0 Z
  unfold f_Tales_copyFrom at hf
  show AW Z 0 0 0 [some (.ref 0), some (.ref 4)] [] ([kTales 0 v0, kTales 4 v1] : List (List zE)).flatten
  refine AW.run hZ hRm [53] 400 ?_
  show ((zcpyOk 0 0 8 8 8) ∧ ((zcpyOk 0 0 8 8 8) ∧ ((zcpyOk 0 0 8 8 8) ∧ AW Z 0 0 53 [some (.ref 0), some (.ref 4)] [] ([kTales 0 (Tales_s_count_lives_days_purses v0 (Tales_count v1) (va_cpy (Tales_lives v1) (Tales_lives v0) (Int32.toNatClampNeg 0) (Int32.toNatClampNeg 0) (Int32.toNatClampNeg 8)) (va_cpy (Tales_days v1) (Tales_days v0) (Int32.toNatClampNeg 0) (Int32.toNatClampNeg 0) (Int32.toNatClampNeg 8)) (va_cpy (Tales_purses v1) (Tales_purses v0) (Int32.toNatClampNeg 0) (Int32.toNatClampNeg 0) (Int32.toNatClampNeg 8))), kTales 4 v1] : List (List zE)).flatten)))
  refine ⟨(by unfold zcpyOk; decide), ?_⟩
  refine ⟨(by unfold zcpyOk; decide), ?_⟩
  refine ⟨(by unfold zcpyOk; decide), ?_⟩
  cases hf
  exact AW.vret hZ hE rfl rfl rfl (Nat.le_refl 0) (Nat.le_refl 0) rfl ⟨rfl, rfl⟩
def f_Tales_add (N : Nat) (v0 : VTales) (a1 : Int32) (a2 : Int32) (a3 : Int32) : Option (Int32 × Int32 × (Nat → Int32) × (Nat → Int32) × (Nat → Int32)) := (if ((Tales_count v0) < 0) then (some (0, (Tales_count v0), (Tales_lives v0), (Tales_days v0), (Tales_purses v0))) else (if (8 ≤ (Tales_count v0)) then (some (0, (Tales_count v0), (Tales_lives v0), (Tales_days v0), (Tales_purses v0))) else (if (a2 < 1) then (some (0, (Tales_count v0), (Tales_lives v0), (Tales_days v0), (Tales_purses v0))) else (if (7 < a2) then (some (0, (Tales_count v0), (Tales_lives v0), (Tales_days v0), (Tales_purses v0))) else (if (a3 < 0) then (some (0, (Tales_count v0), (Tales_lives v0), (Tales_days v0), (Tales_purses v0))) else (if (a3 ≤ 9999) then (if ((Tales_count v0) < 0 ∨ 8 ≤ Int32.toNatClampNeg (Tales_count v0)) then none else (if ((Tales_count v0) < 0 ∨ 8 ≤ Int32.toNatClampNeg (Tales_count v0)) then none else (if ((Tales_count v0) < 0 ∨ 8 ≤ Int32.toNatClampNeg (Tales_count v0)) then none else (some (1, ((Tales_count v0) + 1), (upd (Tales_lives v0) (Int32.toNatClampNeg (Tales_count v0)) a1), (upd (Tales_days v0) (Int32.toNatClampNeg (Tales_count v0)) a2), (upd (Tales_purses v0) (Int32.toNatClampNeg (Tales_count v0)) a3)))))) else (some (0, (Tales_count v0), (Tales_lives v0), (Tales_days v0), (Tales_purses v0)))))))))
set_option maxRecDepth 20000 in
set_option maxHeartbeats 4000000 in
theorem c_Tales_add (N : Nat) (v0 : VTales) (a1 : Int32) (a2 : Int32) (a3 : Int32) (R : Int32 × Int32 × (Nat → Int32) × (Nat → Int32) × (Nat → Int32)) (hf : f_Tales_add N v0 a1 a2 a3 = some R) : Ct zMX6_add 1 0 0 0 [.ref 0, .int a1, .int a2, .int a3] ([kTales 0 v0] : List (List zE)).flatten (fun v cc => v = some (.int R.1) ∧ cc = ([kTales 0 (Tales_s_count_lives_days_purses v0 R.2.1 R.2.2.1 R.2.2.2.1 R.2.2.2.2)] : List (List zE)).flatten) := by
  refine Ct.of zMX6_add_ok (by decide) (Nat.le_of_ble_eq_true rfl) ?_
  intro Z hZ hR hN hE
  have hRm : zRoom Z 0 0 := zRoom0 Z
  unfold f_Tales_add at hf
  show AW Z 0 0 0 [some (.ref 0), some (.int a1), some (.int a2), some (.int a3)] [] ([kTales 0 v0] : List (List zE)).flatten
  refine AW.run hZ hRm [39, 81] 400 ?_
  show ((((Tales_count v0) < 0) → AW Z 0 0 39 [some (.ref 0), some (.int a1), some (.int a2), some (.int a3)] [.int 0] ([kTales 0 v0] : List (List zE)).flatten) ∧ (¬ ((Tales_count v0) < 0) → (((8 ≤ (Tales_count v0)) → AW Z 0 0 39 [some (.ref 0), some (.int a1), some (.int a2), some (.int a3)] [.int 0] ([kTales 0 v0] : List (List zE)).flatten) ∧ (¬ (8 ≤ (Tales_count v0)) → (((a2 < 1) → AW Z 0 0 39 [some (.ref 0), some (.int a1), some (.int a2), some (.int a3)] [.int 0] ([kTales 0 v0] : List (List zE)).flatten) ∧ (¬ (a2 < 1) → (((7 < a2) → AW Z 0 0 39 [some (.ref 0), some (.int a1), some (.int a2), some (.int a3)] [.int 0] ([kTales 0 v0] : List (List zE)).flatten) ∧ (¬ (7 < a2) → (((a3 < 0) → AW Z 0 0 39 [some (.ref 0), some (.int a1), some (.int a2), some (.int a3)] [.int 0] ([kTales 0 v0] : List (List zE)).flatten) ∧ (¬ (a3 < 0) → (((a3 ≤ 9999) → (¬ ((Tales_count v0) < 0 ∨ 8 ≤ Int32.toNatClampNeg (Tales_count v0)) ∧ (¬ ((Tales_count v0) < 0 ∨ 8 ≤ Int32.toNatClampNeg (Tales_count v0)) ∧ (¬ ((Tales_count v0) < 0 ∨ 8 ≤ Int32.toNatClampNeg (Tales_count v0)) ∧ AW Z 0 0 81 [some (.ref 0), some (.int a1), some (.int a2), some (.int a3)] [.int 1] ([kTales 0 (Tales_s_count_lives_days_purses v0 ((Tales_count v0) + 1) (upd (Tales_lives v0) (Int32.toNatClampNeg (Tales_count v0)) a1) (upd (Tales_days v0) (Int32.toNatClampNeg (Tales_count v0)) a2) (upd (Tales_purses v0) (Int32.toNatClampNeg (Tales_count v0)) a3))] : List (List zE)).flatten)))) ∧ (¬ (a3 ≤ 9999) → AW Z 0 0 39 [some (.ref 0), some (.int a1), some (.int a2), some (.int a3)] [.int 0] ([kTales 0 v0] : List (List zE)).flatten))))))))))))
  refine ⟨fun c1 => ?_, fun c1 => ?_⟩
  · rw [if_pos c1] at hf
    cases hf
    exact AW.iret hZ hE rfl rfl rfl rfl (Nat.le_refl 0) (Nat.le_refl 0) rfl ⟨rfl, rfl⟩
  · rw [if_neg c1] at hf
    refine ⟨fun c2 => ?_, fun c2 => ?_⟩
    · rw [if_pos c2] at hf
      cases hf
      exact AW.iret hZ hE rfl rfl rfl rfl (Nat.le_refl 0) (Nat.le_refl 0) rfl ⟨rfl, rfl⟩
    · rw [if_neg c2] at hf
      refine ⟨fun c3 => ?_, fun c3 => ?_⟩
      · rw [if_pos c3] at hf
        cases hf
        exact AW.iret hZ hE rfl rfl rfl rfl (Nat.le_refl 0) (Nat.le_refl 0) rfl ⟨rfl, rfl⟩
      · rw [if_neg c3] at hf
        refine ⟨fun c4 => ?_, fun c4 => ?_⟩
        · rw [if_pos c4] at hf
          cases hf
          exact AW.iret hZ hE rfl rfl rfl rfl (Nat.le_refl 0) (Nat.le_refl 0) rfl ⟨rfl, rfl⟩
        · rw [if_neg c4] at hf
          refine ⟨fun c5 => ?_, fun c5 => ?_⟩
          · rw [if_pos c5] at hf
            cases hf
            exact AW.iret hZ hE rfl rfl rfl rfl (Nat.le_refl 0) (Nat.le_refl 0) rfl ⟨rfl, rfl⟩
          · rw [if_neg c5] at hf
            refine ⟨fun c6 => ?_, fun c6 => ?_⟩
            · rw [if_pos c6] at hf
              obtain ⟨b9, hf⟩ := zneed hf
              refine ⟨b9, ?_⟩
              obtain ⟨b8, hf⟩ := zneed hf
              refine ⟨b8, ?_⟩
              obtain ⟨b7, hf⟩ := zneed hf
              refine ⟨b7, ?_⟩
              cases hf
              exact AW.iret hZ hE rfl rfl rfl rfl (Nat.le_refl 0) (Nat.le_refl 0) rfl ⟨rfl, rfl⟩
            · rw [if_neg c6] at hf
              cases hf
              exact AW.iret hZ hE rfl rfl rfl rfl (Nat.le_refl 0) (Nat.le_refl 0) rfl ⟨rfl, rfl⟩
