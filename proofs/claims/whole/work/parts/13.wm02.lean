def f_R_takeSign (N : Nat) (v0 : VR) (a1 : Int32) : Option (Int32 × Int32) := ((f_R_isSign N v0 a1).bind (fun q1 => (if (q1 = 0) then ((f_R_wrong N v0 1).bind (fun q3 => (some ((R_at v0), q3)))) else (some (((R_at v0) + 1), (R_fault v0))))))
set_option maxRecDepth 20000 in
set_option maxHeartbeats 4000000 in
theorem c_R_takeSign (N : Nat) (v0 : VR) (a1 : Int32) (R : Int32 × Int32) (hf : f_R_takeSign N v0 a1 = some R) : Ct zMX12_takeSign 2 0 0 0 [.ref 0, .int a1] ([kR 0 v0] : List (List zE)).flatten (fun v cc => v = none ∧ cc = ([kR 0 (R_s_at_fault v0 R.1 R.2)] : List (List zE)).flatten) := by
  refine Ct.of zMX12_takeSign_ok (by decide) (Nat.le_of_ble_eq_true rfl) ?_
  intro Z hZ hR hN hE
  have hRm : zRoom Z 0 0 := zRoom0 Z
  unfold f_R_takeSign at hf
  show AW Z 0 0 0 [some (.ref 0), some (.int a1)] [] ([kR 0 v0] : List (List zE)).flatten
  refine AW.run hZ hRm [2] 400 ?_
  show AW Z 0 0 2 [some (.ref 0), some (.int a1)] [.int a1, .ref 0] ([kR 0 v0] : List (List zE)).flatten
  obtain ⟨q1, h5, hf⟩ := zbind hf
  refine AW.callVc hZ hR hN (c_R_isSign N v0 a1 q1 h5) zMX12_isSign_ok rfl rfl zK_BorrowedLivesModel_185 zV_X12_isSign rfl [25] [0] [0, 1, 2, 3, 4, 5, 6, 7, 8, 9, 10, 11, 12, 13, 14, 15, 16, 17, 18, 19, 20, 21, 22, 23, 24] rfl rfl rfl (by decide) (by decide) (by omega) (by decide) (Nat.zero_le _) (Nat.zero_le _) rfl rfl rfl rfl rfl ?_
  rintro v cc ⟨rfl, rfl⟩
  refine ⟨_, rfl, rfl, ?_⟩
  show AW Z 0 0 5 [some (.ref 0), some (.int a1)] [.int q1] ([kR 0 v0] : List (List zE)).flatten
  refine AW.run hZ hRm [23, 26] 400 ?_
  show (((q1 = 0) → AW Z 0 0 23 [some (.ref 0), some (.int a1)] [.int 1, .ref 0] ([kR 0 v0] : List (List zE)).flatten) ∧ (¬ (q1 = 0) → AW Z 0 0 26 [some (.ref 0), some (.int a1)] [] ([kR 0 (R_at_s v0 ((R_at v0) + 1))] : List (List zE)).flatten))
  refine ⟨fun c2 => ?_, fun c2 => ?_⟩
  · rw [if_pos c2] at hf
    obtain ⟨q3, h4, hf⟩ := zbind hf
    refine AW.callVc hZ hR hN (c_R_wrong N v0 1 q3 h4) zMX12_wrong_ok rfl rfl zK_BorrowedLivesModel_188 zV_X12_wrong rfl [25] [0] [0, 1, 2, 3, 4, 5, 6, 7, 8, 9, 10, 11, 12, 13, 14, 15, 16, 17, 18, 19, 20, 21, 22, 23, 24] rfl rfl rfl (by decide) (by decide) (by omega) (by decide) (Nat.zero_le _) (Nat.zero_le _) rfl rfl rfl rfl rfl ?_
    rintro v cc ⟨rfl, rfl⟩
    refine ⟨_, rfl, rfl, ?_⟩
    show AW Z 0 0 26 [some (.ref 0), some (.int a1)] [] ([kR 0 (R_fault_s v0 q3)] : List (List zE)).flatten
    cases hf
    exact AW.vret hZ hE rfl rfl rfl (Nat.le_refl 0) (Nat.le_refl 0) rfl ⟨rfl, rfl⟩
  · rw [if_neg c2] at hf
    cases hf
    exact AW.vret hZ hE rfl rfl rfl (Nat.le_refl 0) (Nat.le_refl 0) rfl ⟨rfl, rfl⟩
def f_R_hasSign (N : Nat) (v0 : VR) (a1 : Int32) : Option (Int32 × Int32) := ((f_R_isSign N v0 a1).bind (fun q1 => (if (q1 = 0 ∨ q1 = 1) then (some (q1, ((R_at v0) + (if (q1 = 0) then 0 else 1)))) else none)))
set_option maxRecDepth 20000 in
set_option maxHeartbeats 4000000 in
theorem c_R_hasSign (N : Nat) (v0 : VR) (a1 : Int32) (R : Int32 × Int32) (hf : f_R_hasSign N v0 a1 = some R) : Ct zMX12_hasSign 2 0 0 0 [.ref 0, .int a1] ([kR 0 v0] : List (List zE)).flatten (fun v cc => v = some (.int R.1) ∧ cc = ([kR 0 (R_at_s v0 R.2)] : List (List zE)).flatten) := by
  refine Ct.of zMX12_hasSign_ok (by decide) (Nat.le_of_ble_eq_true rfl) ?_
  intro Z hZ hR hN hE
  have hRm : zRoom Z 0 0 := zRoom0 Z
  unfold f_R_hasSign at hf
  show AW Z 0 0 0 [some (.ref 0), some (.int a1), none] [] ([kR 0 v0] : List (List zE)).flatten
  refine AW.run hZ hRm [2] 400 ?_
  show AW Z 0 0 2 [some (.ref 0), some (.int a1), none] [.int a1, .ref 0] ([kR 0 v0] : List (List zE)).flatten
  obtain ⟨q1, h5, hf⟩ := zbind hf
  refine AW.callVc hZ hR hN (c_R_isSign N v0 a1 q1 h5) zMX12_isSign_ok rfl rfl zK_BorrowedLivesModel_185 zV_X12_isSign rfl [25] [0] [0, 1, 2, 3, 4, 5, 6, 7, 8, 9, 10, 11, 12, 13, 14, 15, 16, 17, 18, 19, 20, 21, 22, 23, 24] rfl rfl rfl (by decide) (by decide) (by omega) (by decide) (Nat.zero_le _) (Nat.zero_le _) rfl rfl rfl rfl rfl ?_
  rintro v cc ⟨rfl, rfl⟩
  refine ⟨_, rfl, rfl, ?_⟩
  show AW Z 0 0 5 [some (.ref 0), some (.int a1), none] [.int q1] ([kR 0 v0] : List (List zE)).flatten
  refine AW.run hZ hRm [12] 400 ?_
  show AW Z 0 0 12 [some (.ref 0), some (.int a1), some (.int q1)] [.int q1, .int (R_at v0), .ref 0] ([kR 0 v0] : List (List zE)).flatten
  suffices H2 : AW Z 0 0 20 [none, none, some (.int q1)] [.int (if (q1 = 0) then 0 else 1), .int (R_at v0), .ref 0] ([kR 0 v0] : List (List zE)).flatten from by
    refine AW.run hZ hRm [20] 400 ?_
    show (((q1 = 0) → AW Z 0 0 20 [some (.ref 0), some (.int a1), some (.int q1)] [.int 0, .int (R_at v0), .ref 0] ([kR 0 v0] : List (List zE)).flatten) ∧ (¬ (q1 = 0) → AW Z 0 0 20 [some (.ref 0), some (.int a1), some (.int q1)] [.int 1, .int (R_at v0), .ref 0] ([kR 0 v0] : List (List zE)).flatten))
    refine ⟨fun c3 => ?_, fun c3 => ?_⟩
    · refine AW.forget [false, false, true] ?_
      show AW Z 0 0 20 [none, none, some (.int q1)] [.int 0, .int (R_at v0), .ref 0] ([kR 0 v0] : List (List zE)).flatten
      simpa only [if_pos c3] using H2
    · refine AW.forget [false, false, true] ?_
      show AW Z 0 0 20 [none, none, some (.int q1)] [.int 1, .int (R_at v0), .ref 0] ([kR 0 v0] : List (List zE)).flatten
      simpa only [if_neg c3] using H2
  refine AW.run hZ hRm [25] 400 ?_
  show AW Z 0 0 25 [none, none, some (.int q1)] [.int q1] ([kR 0 (R_at_s v0 ((R_at v0) + (if (q1 = 0) then 0 else 1)))] : List (List zE)).flatten
  obtain ⟨b4, hf⟩ := zneedP hf
  cases hf
  exact AW.iret hZ hE rfl rfl rfl (znarZ b4) (Nat.le_refl 0) (Nat.le_refl 0) rfl ⟨rfl, rfl⟩
def f_R_hasWord (N : Nat) (v0 : VR) (a1 : Int32) : Option (Int32 × Int32) := ((f_R_isWord N v0 a1).bind (fun q1 => (if (q1 = 0 ∨ q1 = 1) then (some (q1, ((R_at v0) + (if (q1 = 0) then 0 else 1)))) else none)))
set_option maxRecDepth 20000 in
set_option maxHeartbeats 4000000 in
theorem c_R_hasWord (N : Nat) (v0 : VR) (a1 : Int32) (R : Int32 × Int32) (hf : f_R_hasWord N v0 a1 = some R) : Ct zMX12_hasWord 2 0 0 0 [.ref 0, .int a1] ([kR 0 v0] : List (List zE)).flatten (fun v cc => v = some (.int R.1) ∧ cc = ([kR 0 (R_at_s v0 R.2)] : List (List zE)).flatten) := by
  refine Ct.of zMX12_hasWord_ok (by decide) (Nat.le_of_ble_eq_true rfl) ?_
  intro Z hZ hR hN hE
  have hRm : zRoom Z 0 0 := zRoom0 Z
  unfold f_R_hasWord at hf
  show AW Z 0 0 0 [some (.ref 0), some (.int a1), none] [] ([kR 0 v0] : List (List zE)).flatten
  refine AW.run hZ hRm [2] 400 ?_
  show AW Z 0 0 2 [some (.ref 0), some (.int a1), none] [.int a1, .ref 0] ([kR 0 v0] : List (List zE)).flatten
  obtain ⟨q1, h5, hf⟩ := zbind hf
  refine AW.callVc hZ hR hN (c_R_isWord N v0 a1 q1 h5) zMX12_isWord_ok rfl rfl zK_BorrowedLivesModel_191 zV_X12_isWord rfl [25] [0] [0, 1, 2, 3, 4, 5, 6, 7, 8, 9, 10, 11, 12, 13, 14, 15, 16, 17, 18, 19, 20, 21, 22, 23, 24] rfl rfl rfl (by decide) (by decide) (by omega) (by decide) (Nat.zero_le _) (Nat.zero_le _) rfl rfl rfl rfl rfl ?_
  rintro v cc ⟨rfl, rfl⟩
  refine ⟨_, rfl, rfl, ?_⟩
  show AW Z 0 0 5 [some (.ref 0), some (.int a1), none] [.int q1] ([kR 0 v0] : List (List zE)).flatten
  refine AW.run hZ hRm [12] 400 ?_
  show AW Z 0 0 12 [some (.ref 0), some (.int a1), some (.int q1)] [.int q1, .int (R_at v0), .ref 0] ([kR 0 v0] : List (List zE)).flatten
  suffices H2 : AW Z 0 0 20 [none, none, some (.int q1)] [.int (if (q1 = 0) then 0 else 1), .int (R_at v0), .ref 0] ([kR 0 v0] : List (List zE)).flatten from by
    refine AW.run hZ hRm [20] 400 ?_
    show (((q1 = 0) → AW Z 0 0 20 [some (.ref 0), some (.int a1), some (.int q1)] [.int 0, .int (R_at v0), .ref 0] ([kR 0 v0] : List (List zE)).flatten) ∧ (¬ (q1 = 0) → AW Z 0 0 20 [some (.ref 0), some (.int a1), some (.int q1)] [.int 1, .int (R_at v0), .ref 0] ([kR 0 v0] : List (List zE)).flatten))
    refine ⟨fun c3 => ?_, fun c3 => ?_⟩
    · refine AW.forget [false, false, true] ?_
      show AW Z 0 0 20 [none, none, some (.int q1)] [.int 0, .int (R_at v0), .ref 0] ([kR 0 v0] : List (List zE)).flatten
      simpa only [if_pos c3] using H2
    · refine AW.forget [false, false, true] ?_
      show AW Z 0 0 20 [none, none, some (.int q1)] [.int 1, .int (R_at v0), .ref 0] ([kR 0 v0] : List (List zE)).flatten
      simpa only [if_neg c3] using H2
  refine AW.run hZ hRm [25] 400 ?_
  show AW Z 0 0 25 [none, none, some (.int q1)] [.int q1] ([kR 0 (R_at_s v0 ((R_at v0) + (if (q1 = 0) then 0 else 1)))] : List (List zE)).flatten
  obtain ⟨b4, hf⟩ := zneedP hf
  cases hf
  exact AW.iret hZ hE rfl rfl rfl (znarZ b4) (Nat.le_refl 0) (Nat.le_refl 0) rfl ⟨rfl, rfl⟩
def f_R_takeWord (N : Nat) (v0 : VR) (a1 : Int32) : Option (Int32 × Int32) := ((f_R_hasWord N v0 a1).bind (fun q1 => (if (q1.1 = 0) then ((f_R_wrong N (R_at_s v0 q1.2) 1).bind (fun q3 => (some (q1.2, q3)))) else (some (q1.2, (R_fault v0))))))
set_option maxRecDepth 20000 in
set_option maxHeartbeats 4000000 in
theorem c_R_takeWord (N : Nat) (v0 : VR) (a1 : Int32) (R : Int32 × Int32) (hf : f_R_takeWord N v0 a1 = some R) : Ct zMX12_takeWord 3 0 0 0 [.ref 0, .int a1] ([kR 0 v0] : List (List zE)).flatten (fun v cc => v = none ∧ cc = ([kR 0 (R_s_at_fault v0 R.1 R.2)] : List (List zE)).flatten) := by
  refine Ct.of zMX12_takeWord_ok (by decide) (Nat.le_of_ble_eq_true rfl) ?_
  intro Z hZ hR hN hE
  have hRm : zRoom Z 0 0 := zRoom0 Z
  unfold f_R_takeWord at hf
  show AW Z 0 0 0 [some (.ref 0), some (.int a1)] [] ([kR 0 v0] : List (List zE)).flatten
  refine AW.run hZ hRm [2] 400 ?_
  show AW Z 0 0 2 [some (.ref 0), some (.int a1)] [.int a1, .ref 0] ([kR 0 v0] : List (List zE)).flatten
  obtain ⟨q1, h5, hf⟩ := zbind hf
  refine AW.callVc hZ hR hN (c_R_hasWord N v0 a1 q1 h5) zMX12_hasWord_ok rfl rfl zK_BorrowedLivesModel_194 zV_X12_hasWord rfl [25] [0] [0, 1, 2, 3, 4, 5, 6, 7, 8, 9, 10, 11, 12, 13, 14, 15, 16, 17, 18, 19, 20, 21, 22, 23, 24] rfl rfl rfl (by decide) (by decide) (by omega) (by decide) (Nat.zero_le _) (Nat.zero_le _) rfl rfl rfl rfl rfl ?_
  rintro v cc ⟨rfl, rfl⟩
  refine ⟨_, rfl, rfl, ?_⟩
  show AW Z 0 0 5 [some (.ref 0), some (.int a1)] [.int q1.1] ([kR 0 (R_at_s v0 q1.2)] : List (List zE)).flatten
  refine AW.run hZ hRm [10, 13] 400 ?_
  show ((¬ (q1.1 = 0) → AW Z 0 0 13 [some (.ref 0), some (.int a1)] [] ([kR 0 (R_at_s v0 q1.2)] : List (List zE)).flatten) ∧ ((q1.1 = 0) → AW Z 0 0 10 [some (.ref 0), some (.int a1)] [.int 1, .ref 0] ([kR 0 (R_at_s v0 q1.2)] : List (List zE)).flatten))
  refine ⟨fun c2 => ?_, fun c2 => ?_⟩
  · rw [if_neg c2] at hf
    cases hf
    exact AW.vret hZ hE rfl rfl rfl (Nat.le_refl 0) (Nat.le_refl 0) rfl ⟨rfl, rfl⟩
  · rw [if_pos c2] at hf
    obtain ⟨q3, h4, hf⟩ := zbind hf
    refine AW.callVc hZ hR hN (c_R_wrong N (R_at_s v0 q1.2) 1 q3 h4) zMX12_wrong_ok rfl rfl zK_BorrowedLivesModel_188 zV_X12_wrong rfl [25] [0] [0, 1, 2, 3, 4, 5, 6, 7, 8, 9, 10, 11, 12, 13, 14, 15, 16, 17, 18, 19, 20, 21, 22, 23, 24] rfl rfl rfl (by decide) (by decide) (by omega) (by decide) (Nat.zero_le _) (Nat.zero_le _) rfl rfl rfl rfl rfl ?_
    rintro v cc ⟨rfl, rfl⟩
    refine ⟨_, rfl, rfl, ?_⟩
    show AW Z 0 0 13 [some (.ref 0), some (.int a1)] [] ([kR 0 (R_s_at_fault v0 q1.2 q3)] : List (List zE)).flatten
    cases hf
    exact AW.vret hZ hE rfl rfl rfl (Nat.le_refl 0) (Nat.le_refl 0) rfl ⟨rfl, rfl⟩
def f_R_within (N : Nat) (a0 : Int32) (a1 : Int32) (a2 : Int32) : Option (Int32) := (if (a0 < a1) then (some 0) else (if (a2 < a0) then (some 0) else (some 1)))
set_option maxRecDepth 20000 in
set_option maxHeartbeats 4000000 in
theorem c_R_within (N : Nat) (a0 : Int32) (a1 : Int32) (a2 : Int32) (R : Int32) (hf : f_R_within N a0 a1 a2 = some R) : Ct zMX12_within 1 0 0 0 [.int a0, .int a1, .int a2] ([] : List (List zE)).flatten (fun v cc => v = some (.int R) ∧ cc = ([] : List (List zE)).flatten) := by
  refine Ct.of zMX12_within_ok (by decide) (Nat.le_of_ble_eq_true rfl) ?_
  intro Z hZ hR hN hE
  have hRm : zRoom Z 0 0 := zRoom0 Z
  unfold f_R_within at hf
  show AW Z 0 0 0 [some (.int a0), some (.int a1), some (.int a2)] [] ([] : List (List zE)).flatten
  refine AW.run hZ hRm [15] 400 ?_
  show (((a0 < a1) → AW Z 0 0 15 [some (.int a0), some (.int a1), some (.int a2)] [.int 0] ([] : List (List zE)).flatten) ∧ (¬ (a0 < a1) → (((a2 < a0) → AW Z 0 0 15 [some (.int a0), some (.int a1), some (.int a2)] [.int 0] ([] : List (List zE)).flatten) ∧ (¬ (a2 < a0) → AW Z 0 0 15 [some (.int a0), some (.int a1), some (.int a2)] [.int 1] ([] : List (List zE)).flatten))))
  refine ⟨fun c1 => ?_, fun c1 => ?_⟩
  · rw [if_pos c1] at hf
    cases hf
    exact AW.iret hZ hE rfl rfl rfl rfl (Nat.le_refl 0) (Nat.le_refl 0) rfl ⟨rfl, rfl⟩
  · rw [if_neg c1] at hf
    refine ⟨fun c2 => ?_, fun c2 => ?_⟩
    · rw [if_pos c2] at hf
      cases hf
      exact AW.iret hZ hE rfl rfl rfl rfl (Nat.le_refl 0) (Nat.le_refl 0) rfl ⟨rfl, rfl⟩
    · rw [if_neg c2] at hf
      cases hf
      exact AW.iret hZ hE rfl rfl rfl rfl (Nat.le_refl 0) (Nat.le_refl 0) rfl ⟨rfl, rfl⟩
def f_R_takeNumber (N : Nat) (v0 : VR) (a1 : Int32) (a2 : Int32) : Option (Int32 × Int32 × Int32) := (if ((R_fault v0) = 0) then (if ((R_at v0) < 0 ∨ 1002 ≤ Int32.toNatClampNeg (R_at v0)) then none else (if (((R_sort v0) (Int32.toNatClampNeg (R_at v0))) = 2) then (if ((R_fault v0) = 0) then (if ((R_at v0) < 0 ∨ 1002 ≤ Int32.toNatClampNeg (R_at v0)) then none else (if ((lg_cmp ((R_value v0) (Int32.toNatClampNeg (R_at v0))) (Int32.toInt64 a1)) < 0) then ((f_R_wrong N v0 4).bind (fun q24 => (if (q24 ≤ 0) then (if ((((R_at v0) + 1) - 1) < 0 ∨ 1002 ≤ Int32.toNatClampNeg (((R_at v0) + 1) - 1)) then none else (some ((Int64.toInt32 ((R_value v0) (Int32.toNatClampNeg (((R_at v0) + 1) - 1)))), ((R_at v0) + 1), q24))) else (some (0, (R_at v0), q24))))) else (if ((R_at v0) < 0 ∨ 1002 ≤ Int32.toNatClampNeg (R_at v0)) then none else (if ((lg_cmp ((R_value v0) (Int32.toNatClampNeg (R_at v0))) (Int32.toInt64 a2)) ≤ 0) then (if ((R_fault v0) ≤ 0) then (if ((((R_at v0) + 1) - 1) < 0 ∨ 1002 ≤ Int32.toNatClampNeg (((R_at v0) + 1) - 1)) then none else (some ((Int64.toInt32 ((R_value v0) (Int32.toNatClampNeg (((R_at v0) + 1) - 1)))), ((R_at v0) + 1), (R_fault v0)))) else (some (0, (R_at v0), (R_fault v0)))) else ((f_R_wrong N v0 4).bind (fun q31 => (if (q31 ≤ 0) then (if ((((R_at v0) + 1) - 1) < 0 ∨ 1002 ≤ Int32.toNatClampNeg (((R_at v0) + 1) - 1)) then none else (some ((Int64.toInt32 ((R_value v0) (Int32.toNatClampNeg (((R_at v0) + 1) - 1)))), ((R_at v0) + 1), q31))) else (some (0, (R_at v0), q31))))))))) else (if ((R_fault v0) ≤ 0) then (if ((((R_at v0) + 1) - 1) < 0 ∨ 1002 ≤ Int32.toNatClampNeg (((R_at v0) + 1) - 1)) then none else (some ((Int64.toInt32 ((R_value v0) (Int32.toNatClampNeg (((R_at v0) + 1) - 1)))), ((R_at v0) + 1), (R_fault v0)))) else (some (0, (R_at v0), (R_fault v0))))) else ((f_R_wrong N v0 1).bind (fun q37 => (if (q37 ≤ 0) then (if ((((R_at v0) + 1) - 1) < 0 ∨ 1002 ≤ Int32.toNatClampNeg (((R_at v0) + 1) - 1)) then none else (some ((Int64.toInt32 ((R_value v0) (Int32.toNatClampNeg (((R_at v0) + 1) - 1)))), ((R_at v0) + 1), q37))) else (some (0, (R_at v0), q37))))))) else (if ((R_fault v0) = 0) then (if ((R_at v0) < 0 ∨ 1002 ≤ Int32.toNatClampNeg (R_at v0)) then none else (if ((lg_cmp ((R_value v0) (Int32.toNatClampNeg (R_at v0))) (Int32.toInt64 a1)) < 0) then ((f_R_wrong N v0 4).bind (fun q6 => (if (q6 ≤ 0) then (if ((((R_at v0) + 1) - 1) < 0 ∨ 1002 ≤ Int32.toNatClampNeg (((R_at v0) + 1) - 1)) then none else (some ((Int64.toInt32 ((R_value v0) (Int32.toNatClampNeg (((R_at v0) + 1) - 1)))), ((R_at v0) + 1), q6))) else (some (0, (R_at v0), q6))))) else (if ((R_at v0) < 0 ∨ 1002 ≤ Int32.toNatClampNeg (R_at v0)) then none else (if ((lg_cmp ((R_value v0) (Int32.toNatClampNeg (R_at v0))) (Int32.toInt64 a2)) ≤ 0) then (if ((R_fault v0) ≤ 0) then (if ((((R_at v0) + 1) - 1) < 0 ∨ 1002 ≤ Int32.toNatClampNeg (((R_at v0) + 1) - 1)) then none else (some ((Int64.toInt32 ((R_value v0) (Int32.toNatClampNeg (((R_at v0) + 1) - 1)))), ((R_at v0) + 1), (R_fault v0)))) else (some (0, (R_at v0), (R_fault v0)))) else ((f_R_wrong N v0 4).bind (fun q13 => (if (q13 ≤ 0) then (if ((((R_at v0) + 1) - 1) < 0 ∨ 1002 ≤ Int32.toNatClampNeg (((R_at v0) + 1) - 1)) then none else (some ((Int64.toInt32 ((R_value v0) (Int32.toNatClampNeg (((R_at v0) + 1) - 1)))), ((R_at v0) + 1), q13))) else (some (0, (R_at v0), q13))))))))) else (if ((R_fault v0) ≤ 0) then (if ((((R_at v0) + 1) - 1) < 0 ∨ 1002 ≤ Int32.toNatClampNeg (((R_at v0) + 1) - 1)) then none else (some ((Int64.toInt32 ((R_value v0) (Int32.toNatClampNeg (((R_at v0) + 1) - 1)))), ((R_at v0) + 1), (R_fault v0)))) else (some (0, (R_at v0), (R_fault v0))))))
set_option maxRecDepth 20000 in
set_option maxHeartbeats 4000000 in
theorem c_R_takeNumber (N : Nat) (v0 : VR) (a1 : Int32) (a2 : Int32) (R : Int32 × Int32 × Int32) (hf : f_R_takeNumber N v0 a1 a2 = some R) : Ct zMX12_takeNumber 2 0 0 0 [.ref 0, .int a1, .int a2] ([kR 0 v0] : List (List zE)).flatten (fun v cc => v = some (.int R.1) ∧ cc = ([kR 0 (R_s_at_fault v0 R.2.1 R.2.2)] : List (List zE)).flatten) := by
  refine Ct.of zMX12_takeNumber_ok (by decide) (Nat.le_of_ble_eq_true rfl) ?_
  intro Z hZ hR hN hE
  have hRm : zRoom Z 0 0 := zRoom0 Z
  unfold f_R_takeNumber at hf
  show AW Z 0 0 0 [some (.ref 0), some (.int a1), some (.int a2)] [] ([kR 0 v0] : List (List zE)).flatten
  refine AW.run hZ hRm [22, 67, 78, 101] 400 ?_
  show ((¬ ((R_fault v0) = 0) → ((¬ ((R_fault v0) = 0) → ((((R_fault v0) ≤ 0) → (¬ ((((R_at v0) + 1) - 1) < 0 ∨ 1002 ≤ Int32.toNatClampNeg (((R_at v0) + 1) - 1)) ∧ AW Z 0 0 101 [some (.ref 0), some (.int a1), some (.int a2)] [.int (Int64.toInt32 ((R_value v0) (Int32.toNatClampNeg (((R_at v0) + 1) - 1))))] ([kR 0 (R_at_s v0 ((R_at v0) + 1))] : List (List zE)).flatten)) ∧ (¬ ((R_fault v0) ≤ 0) → AW Z 0 0 78 [some (.ref 0), some (.int a1), some (.int a2)] [.int 0] ([kR 0 v0] : List (List zE)).flatten))) ∧ (((R_fault v0) = 0) → (¬ ((R_at v0) < 0 ∨ 1002 ≤ Int32.toNatClampNeg (R_at v0)) ∧ ((((lg_cmp ((R_value v0) (Int32.toNatClampNeg (R_at v0))) (Int32.toInt64 a1)) < 0) → AW Z 0 0 67 [some (.ref 0), some (.int a1), some (.int a2)] [.int 4, .ref 0] ([kR 0 v0] : List (List zE)).flatten) ∧ (¬ ((lg_cmp ((R_value v0) (Int32.toNatClampNeg (R_at v0))) (Int32.toInt64 a1)) < 0) → (¬ ((R_at v0) < 0 ∨ 1002 ≤ Int32.toNatClampNeg (R_at v0)) ∧ ((((lg_cmp ((R_value v0) (Int32.toNatClampNeg (R_at v0))) (Int32.toInt64 a2)) ≤ 0) → ((((R_fault v0) ≤ 0) → (¬ ((((R_at v0) + 1) - 1) < 0 ∨ 1002 ≤ Int32.toNatClampNeg (((R_at v0) + 1) - 1)) ∧ AW Z 0 0 101 [some (.ref 0), some (.int a1), some (.int a2)] [.int (Int64.toInt32 ((R_value v0) (Int32.toNatClampNeg (((R_at v0) + 1) - 1))))] ([kR 0 (R_at_s v0 ((R_at v0) + 1))] : List (List zE)).flatten)) ∧ (¬ ((R_fault v0) ≤ 0) → AW Z 0 0 78 [some (.ref 0), some (.int a1), some (.int a2)] [.int 0] ([kR 0 v0] : List (List zE)).flatten))) ∧ (¬ ((lg_cmp ((R_value v0) (Int32.toNatClampNeg (R_at v0))) (Int32.toInt64 a2)) ≤ 0) → AW Z 0 0 67 [some (.ref 0), some (.int a1), some (.int a2)] [.int 4, .ref 0] ([kR 0 v0] : List (List zE)).flatten))))))))) ∧ (((R_fault v0) = 0) → (¬ ((R_at v0) < 0 ∨ 1002 ≤ Int32.toNatClampNeg (R_at v0)) ∧ (((((R_sort v0) (Int32.toNatClampNeg (R_at v0))) = 2) → ((¬ ((R_fault v0) = 0) → ((((R_fault v0) ≤ 0) → (¬ ((((R_at v0) + 1) - 1) < 0 ∨ 1002 ≤ Int32.toNatClampNeg (((R_at v0) + 1) - 1)) ∧ AW Z 0 0 101 [some (.ref 0), some (.int a1), some (.int a2)] [.int (Int64.toInt32 ((R_value v0) (Int32.toNatClampNeg (((R_at v0) + 1) - 1))))] ([kR 0 (R_at_s v0 ((R_at v0) + 1))] : List (List zE)).flatten)) ∧ (¬ ((R_fault v0) ≤ 0) → AW Z 0 0 78 [some (.ref 0), some (.int a1), some (.int a2)] [.int 0] ([kR 0 v0] : List (List zE)).flatten))) ∧ (((R_fault v0) = 0) → (¬ ((R_at v0) < 0 ∨ 1002 ≤ Int32.toNatClampNeg (R_at v0)) ∧ ((((lg_cmp ((R_value v0) (Int32.toNatClampNeg (R_at v0))) (Int32.toInt64 a1)) < 0) → AW Z 0 0 67 [some (.ref 0), some (.int a1), some (.int a2)] [.int 4, .ref 0] ([kR 0 v0] : List (List zE)).flatten) ∧ (¬ ((lg_cmp ((R_value v0) (Int32.toNatClampNeg (R_at v0))) (Int32.toInt64 a1)) < 0) → (¬ ((R_at v0) < 0 ∨ 1002 ≤ Int32.toNatClampNeg (R_at v0)) ∧ ((((lg_cmp ((R_value v0) (Int32.toNatClampNeg (R_at v0))) (Int32.toInt64 a2)) ≤ 0) → ((((R_fault v0) ≤ 0) → (¬ ((((R_at v0) + 1) - 1) < 0 ∨ 1002 ≤ Int32.toNatClampNeg (((R_at v0) + 1) - 1)) ∧ AW Z 0 0 101 [some (.ref 0), some (.int a1), some (.int a2)] [.int (Int64.toInt32 ((R_value v0) (Int32.toNatClampNeg (((R_at v0) + 1) - 1))))] ([kR 0 (R_at_s v0 ((R_at v0) + 1))] : List (List zE)).flatten)) ∧ (¬ ((R_fault v0) ≤ 0) → AW Z 0 0 78 [some (.ref 0), some (.int a1), some (.int a2)] [.int 0] ([kR 0 v0] : List (List zE)).flatten))) ∧ (¬ ((lg_cmp ((R_value v0) (Int32.toNatClampNeg (R_at v0))) (Int32.toInt64 a2)) ≤ 0) → AW Z 0 0 67 [some (.ref 0), some (.int a1), some (.int a2)] [.int 4, .ref 0] ([kR 0 v0] : List (List zE)).flatten))))))))) ∧ (¬ (((R_sort v0) (Int32.toNatClampNeg (R_at v0))) = 2) → AW Z 0 0 22 [some (.ref 0), some (.int a1), some (.int a2)] [.int 1, .ref 0] ([kR 0 v0] : List (List zE)).flatten)))))
  refine ⟨fun c1 => ?_, fun c1 => ?_⟩
  · rw [if_neg c1] at hf
    refine ⟨fun c2 => ?_, fun c2 => ?_⟩
    · rw [if_neg c2] at hf
      refine ⟨fun c3 => ?_, fun c3 => ?_⟩
      · rw [if_pos c3] at hf
        obtain ⟨b4, hf⟩ := zneed hf
        refine ⟨b4, ?_⟩
        cases hf
        exact AW.iret hZ hE rfl rfl rfl rfl (Nat.le_refl 0) (Nat.le_refl 0) rfl ⟨rfl, rfl⟩
      · rw [if_neg c3] at hf
        cases hf
        exact AW.iret hZ hE rfl rfl rfl rfl (Nat.le_refl 0) (Nat.le_refl 0) rfl ⟨rfl, rfl⟩
    · rw [if_pos c2] at hf
      obtain ⟨b18, hf⟩ := zneed hf
      refine ⟨b18, ?_⟩
      refine ⟨fun c5 => ?_, fun c5 => ?_⟩
      · rw [if_pos c5] at hf
        obtain ⟨q6, h9, hf⟩ := zbind hf
        refine AW.callVc hZ hR hN (c_R_wrong N v0 4 q6 h9) zMX12_wrong_ok rfl rfl zK_BorrowedLivesModel_188 zV_X12_wrong rfl [25] [0] [0, 1, 2, 3, 4, 5, 6, 7, 8, 9, 10, 11, 12, 13, 14, 15, 16, 17, 18, 19, 20, 21, 22, 23, 24] rfl rfl rfl (by decide) (by decide) (by omega) (by decide) (Nat.zero_le _) (Nat.zero_le _) rfl rfl rfl rfl rfl ?_
        rintro v cc ⟨rfl, rfl⟩
        refine ⟨_, rfl, rfl, ?_⟩
        show AW Z 0 0 70 [some (.ref 0), some (.int a1), some (.int a2)] [] ([kR 0 (R_fault_s v0 q6)] : List (List zE)).flatten
        refine AW.run hZ hRm [78, 101] 400 ?_
        show (((q6 ≤ 0) → (¬ ((((R_at v0) + 1) - 1) < 0 ∨ 1002 ≤ Int32.toNatClampNeg (((R_at v0) + 1) - 1)) ∧ AW Z 0 0 101 [some (.ref 0), some (.int a1), some (.int a2)] [.int (Int64.toInt32 ((R_value v0) (Int32.toNatClampNeg (((R_at v0) + 1) - 1))))] ([kR 0 (R_s_at_fault v0 ((R_at v0) + 1) q6)] : List (List zE)).flatten)) ∧ (¬ (q6 ≤ 0) → AW Z 0 0 78 [some (.ref 0), some (.int a1), some (.int a2)] [.int 0] ([kR 0 (R_fault_s v0 q6)] : List (List zE)).flatten))
        refine ⟨fun c7 => ?_, fun c7 => ?_⟩
        · rw [if_pos c7] at hf
          obtain ⟨b8, hf⟩ := zneed hf
          refine ⟨b8, ?_⟩
          cases hf
          exact AW.iret hZ hE rfl rfl rfl rfl (Nat.le_refl 0) (Nat.le_refl 0) rfl ⟨rfl, rfl⟩
        · rw [if_neg c7] at hf
          cases hf
          exact AW.iret hZ hE rfl rfl rfl rfl (Nat.le_refl 0) (Nat.le_refl 0) rfl ⟨rfl, rfl⟩
      · rw [if_neg c5] at hf
        obtain ⟨b17, hf⟩ := zneed hf
        refine ⟨b17, ?_⟩
        refine ⟨fun c10 => ?_, fun c10 => ?_⟩
        · rw [if_pos c10] at hf
          refine ⟨fun c11 => ?_, fun c11 => ?_⟩
          · rw [if_pos c11] at hf
            obtain ⟨b12, hf⟩ := zneed hf
            refine ⟨b12, ?_⟩
            cases hf
            exact AW.iret hZ hE rfl rfl rfl rfl (Nat.le_refl 0) (Nat.le_refl 0) rfl ⟨rfl, rfl⟩
          · rw [if_neg c11] at hf
            cases hf
            exact AW.iret hZ hE rfl rfl rfl rfl (Nat.le_refl 0) (Nat.le_refl 0) rfl ⟨rfl, rfl⟩
        · rw [if_neg c10] at hf
          obtain ⟨q13, h16, hf⟩ := zbind hf
          refine AW.callVc hZ hR hN (c_R_wrong N v0 4 q13 h16) zMX12_wrong_ok rfl rfl zK_BorrowedLivesModel_188 zV_X12_wrong rfl [25] [0] [0, 1, 2, 3, 4, 5, 6, 7, 8, 9, 10, 11, 12, 13, 14, 15, 16, 17, 18, 19, 20, 21, 22, 23, 24] rfl rfl rfl (by decide) (by decide) (by omega) (by decide) (Nat.zero_le _) (Nat.zero_le _) rfl rfl rfl rfl rfl ?_
          rintro v cc ⟨rfl, rfl⟩
          refine ⟨_, rfl, rfl, ?_⟩
          show AW Z 0 0 70 [some (.ref 0), some (.int a1), some (.int a2)] [] ([kR 0 (R_fault_s v0 q13)] : List (List zE)).flatten
          refine AW.run hZ hRm [78, 101] 400 ?_
          show (((q13 ≤ 0) → (¬ ((((R_at v0) + 1) - 1) < 0 ∨ 1002 ≤ Int32.toNatClampNeg (((R_at v0) + 1) - 1)) ∧ AW Z 0 0 101 [some (.ref 0), some (.int a1), some (.int a2)] [.int (Int64.toInt32 ((R_value v0) (Int32.toNatClampNeg (((R_at v0) + 1) - 1))))] ([kR 0 (R_s_at_fault v0 ((R_at v0) + 1) q13)] : List (List zE)).flatten)) ∧ (¬ (q13 ≤ 0) → AW Z 0 0 78 [some (.ref 0), some (.int a1), some (.int a2)] [.int 0] ([kR 0 (R_fault_s v0 q13)] : List (List zE)).flatten))
          refine ⟨fun c14 => ?_, fun c14 => ?_⟩
          · rw [if_pos c14] at hf
            obtain ⟨b15, hf⟩ := zneed hf
            refine ⟨b15, ?_⟩
            cases hf
            exact AW.iret hZ hE rfl rfl rfl rfl (Nat.le_refl 0) (Nat.le_refl 0) rfl ⟨rfl, rfl⟩
          · rw [if_neg c14] at hf
            cases hf
            exact AW.iret hZ hE rfl rfl rfl rfl (Nat.le_refl 0) (Nat.le_refl 0) rfl ⟨rfl, rfl⟩
  · rw [if_pos c1] at hf
    obtain ⟨b41, hf⟩ := zneed hf
    refine ⟨b41, ?_⟩
    refine ⟨fun c19 => ?_, fun c19 => ?_⟩
    · rw [if_pos c19] at hf
      refine ⟨fun c20 => ?_, fun c20 => ?_⟩
      · rw [if_neg c20] at hf
        refine ⟨fun c21 => ?_, fun c21 => ?_⟩
        · rw [if_pos c21] at hf
          obtain ⟨b22, hf⟩ := zneed hf
          refine ⟨b22, ?_⟩
          cases hf
          exact AW.iret hZ hE rfl rfl rfl rfl (Nat.le_refl 0) (Nat.le_refl 0) rfl ⟨rfl, rfl⟩
        · rw [if_neg c21] at hf
          cases hf
          exact AW.iret hZ hE rfl rfl rfl rfl (Nat.le_refl 0) (Nat.le_refl 0) rfl ⟨rfl, rfl⟩
      · rw [if_pos c20] at hf
        obtain ⟨b36, hf⟩ := zneed hf
        refine ⟨b36, ?_⟩
        refine ⟨fun c23 => ?_, fun c23 => ?_⟩
        · rw [if_pos c23] at hf
          obtain ⟨q24, h27, hf⟩ := zbind hf
          refine AW.callVc hZ hR hN (c_R_wrong N v0 4 q24 h27) zMX12_wrong_ok rfl rfl zK_BorrowedLivesModel_188 zV_X12_wrong rfl [25] [0] [0, 1, 2, 3, 4, 5, 6, 7, 8, 9, 10, 11, 12, 13, 14, 15, 16, 17, 18, 19, 20, 21, 22, 23, 24] rfl rfl rfl (by decide) (by decide) (by omega) (by decide) (Nat.zero_le _) (Nat.zero_le _) rfl rfl rfl rfl rfl ?_
          rintro v cc ⟨rfl, rfl⟩
          refine ⟨_, rfl, rfl, ?_⟩
          show AW Z 0 0 70 [some (.ref 0), some (.int a1), some (.int a2)] [] ([kR 0 (R_fault_s v0 q24)] : List (List zE)).flatten
          refine AW.run hZ hRm [78, 101] 400 ?_
          show (((q24 ≤ 0) → (¬ ((((R_at v0) + 1) - 1) < 0 ∨ 1002 ≤ Int32.toNatClampNeg (((R_at v0) + 1) - 1)) ∧ AW Z 0 0 101 [some (.ref 0), some (.int a1), some (.int a2)] [.int (Int64.toInt32 ((R_value v0) (Int32.toNatClampNeg (((R_at v0) + 1) - 1))))] ([kR 0 (R_s_at_fault v0 ((R_at v0) + 1) q24)] : List (List zE)).flatten)) ∧ (¬ (q24 ≤ 0) → AW Z 0 0 78 [some (.ref 0), some (.int a1), some (.int a2)] [.int 0] ([kR 0 (R_fault_s v0 q24)] : List (List zE)).flatten))
          refine ⟨fun c25 => ?_, fun c25 => ?_⟩
          · rw [if_pos c25] at hf
            obtain ⟨b26, hf⟩ := zneed hf
            refine ⟨b26, ?_⟩
            cases hf
            exact AW.iret hZ hE rfl rfl rfl rfl (Nat.le_refl 0) (Nat.le_refl 0) rfl ⟨rfl, rfl⟩
          · rw [if_neg c25] at hf
            cases hf
            exact AW.iret hZ hE rfl rfl rfl rfl (Nat.le_refl 0) (Nat.le_refl 0) rfl ⟨rfl, rfl⟩
        · rw [if_neg c23] at hf
          obtain ⟨b35, hf⟩ := zneed hf
          refine ⟨b35, ?_⟩
          refine ⟨fun c28 => ?_, fun c28 => ?_⟩
          · rw [if_pos c28] at hf
            refine ⟨fun c29 => ?_, fun c29 => ?_⟩
            · rw [if_pos c29] at hf
              obtain ⟨b30, hf⟩ := zneed hf
              refine ⟨b30, ?_⟩
              cases hf
              exact AW.iret hZ hE rfl rfl rfl rfl (Nat.le_refl 0) (Nat.le_refl 0) rfl ⟨rfl, rfl⟩
            · rw [if_neg c29] at hf
              cases hf
              exact AW.iret hZ hE rfl rfl rfl rfl (Nat.le_refl 0) (Nat.le_refl 0) rfl ⟨rfl, rfl⟩
          · rw [if_neg c28] at hf
            obtain ⟨q31, h34, hf⟩ := zbind hf
            refine AW.callVc hZ hR hN (c_R_wrong N v0 4 q31 h34) zMX12_wrong_ok rfl rfl zK_BorrowedLivesModel_188 zV_X12_wrong rfl [25] [0] [0, 1, 2, 3, 4, 5, 6, 7, 8, 9, 10, 11, 12, 13, 14, 15, 16, 17, 18, 19, 20, 21, 22, 23, 24] rfl rfl rfl (by decide) (by decide) (by omega) (by decide) (Nat.zero_le _) (Nat.zero_le _) rfl rfl rfl rfl rfl ?_
            rintro v cc ⟨rfl, rfl⟩
            refine ⟨_, rfl, rfl, ?_⟩
            show AW Z 0 0 70 [some (.ref 0), some (.int a1), some (.int a2)] [] ([kR 0 (R_fault_s v0 q31)] : List (List zE)).flatten
            refine AW.run hZ hRm [78, 101] 400 ?_
            show (((q31 ≤ 0) → (¬ ((((R_at v0) + 1) - 1) < 0 ∨ 1002 ≤ Int32.toNatClampNeg (((R_at v0) + 1) - 1)) ∧ AW Z 0 0 101 [some (.ref 0), some (.int a1), some (.int a2)] [.int (Int64.toInt32 ((R_value v0) (Int32.toNatClampNeg (((R_at v0) + 1) - 1))))] ([kR 0 (R_s_at_fault v0 ((R_at v0) + 1) q31)] : List (List zE)).flatten)) ∧ (¬ (q31 ≤ 0) → AW Z 0 0 78 [some (.ref 0), some (.int a1), some (.int a2)] [.int 0] ([kR 0 (R_fault_s v0 q31)] : List (List zE)).flatten))
            refine ⟨fun c32 => ?_, fun c32 => ?_⟩
            · rw [if_pos c32] at hf
              obtain ⟨b33, hf⟩ := zneed hf
              refine ⟨b33, ?_⟩
              cases hf
              exact AW.iret hZ hE rfl rfl rfl rfl (Nat.le_refl 0) (Nat.le_refl 0) rfl ⟨rfl, rfl⟩
            · rw [if_neg c32] at hf
              cases hf
              exact AW.iret hZ hE rfl rfl rfl rfl (Nat.le_refl 0) (Nat.le_refl 0) rfl ⟨rfl, rfl⟩
    · rw [if_neg c19] at hf
      obtain ⟨q37, h40, hf⟩ := zbind hf
      refine AW.callVc hZ hR hN (c_R_wrong N v0 1 q37 h40) zMX12_wrong_ok rfl rfl zK_BorrowedLivesModel_188 zV_X12_wrong rfl [25] [0] [0, 1, 2, 3, 4, 5, 6, 7, 8, 9, 10, 11, 12, 13, 14, 15, 16, 17, 18, 19, 20, 21, 22, 23, 24] rfl rfl rfl (by decide) (by decide) (by omega) (by decide) (Nat.zero_le _) (Nat.zero_le _) rfl rfl rfl rfl rfl ?_
      rintro v cc ⟨rfl, rfl⟩
      refine ⟨_, rfl, rfl, ?_⟩
      show AW Z 0 0 25 [some (.ref 0), some (.int a1), some (.int a2)] [] ([kR 0 (R_fault_s v0 q37)] : List (List zE)).flatten
      refine AW.run hZ hRm [78, 101] 400 ?_
      show (((q37 ≤ 0) → (¬ ((((R_at v0) + 1) - 1) < 0 ∨ 1002 ≤ Int32.toNatClampNeg (((R_at v0) + 1) - 1)) ∧ AW Z 0 0 101 [some (.ref 0), some (.int a1), some (.int a2)] [.int (Int64.toInt32 ((R_value v0) (Int32.toNatClampNeg (((R_at v0) + 1) - 1))))] ([kR 0 (R_s_at_fault v0 ((R_at v0) + 1) q37)] : List (List zE)).flatten)) ∧ (¬ (q37 ≤ 0) → AW Z 0 0 78 [some (.ref 0), some (.int a1), some (.int a2)] [.int 0] ([kR 0 (R_fault_s v0 q37)] : List (List zE)).flatten))
      refine ⟨fun c38 => ?_, fun c38 => ?_⟩
      · rw [if_pos c38] at hf
        obtain ⟨b39, hf⟩ := zneed hf
        refine ⟨b39, ?_⟩
        cases hf
        exact AW.iret hZ hE rfl rfl rfl rfl (Nat.le_refl 0) (Nat.le_refl 0) rfl ⟨rfl, rfl⟩
      · rw [if_neg c38] at hf
        cases hf
        exact AW.iret hZ hE rfl rfl rfl rfl (Nat.le_refl 0) (Nat.le_refl 0) rfl ⟨rfl, rfl⟩
def f_R_takeAfter (N : Nat) (v0 : VR) (a1 : Int32) (a2 : Int32) (a3 : Int32) : Option (Int32 × Int32 × Int32) := ((f_R_takeWord N v0 a1).bind (fun q1 => ((f_R_takeNumber N (R_s_at_fault v0 q1.1 q1.2) a2 a3).bind (fun q2 => (some (q2.1, q2.2.1, q2.2.2))))))
set_option maxRecDepth 20000 in
set_option maxHeartbeats 4000000 in
theorem c_R_takeAfter (N : Nat) (v0 : VR) (a1 : Int32) (a2 : Int32) (a3 : Int32) (R : Int32 × Int32 × Int32) (hf : f_R_takeAfter N v0 a1 a2 a3 = some R) : Ct zMX12_takeAfter 4 0 0 0 [.ref 0, .int a1, .int a2, .int a3] ([kR 0 v0] : List (List zE)).flatten (fun v cc => v = some (.int R.1) ∧ cc = ([kR 0 (R_s_at_fault v0 R.2.1 R.2.2)] : List (List zE)).flatten) := by
  refine Ct.of zMX12_takeAfter_ok (by decide) (Nat.le_of_ble_eq_true rfl) ?_
  intro Z hZ hR hN hE
  have hRm : zRoom Z 0 0 := zRoom0 Z
  unfold f_R_takeAfter at hf
  show AW Z 0 0 0 [some (.ref 0), some (.int a1), some (.int a2), some (.int a3)] [] ([kR 0 v0] : List (List zE)).flatten
  refine AW.run hZ hRm [2] 400 ?_
  show AW Z 0 0 2 [some (.ref 0), some (.int a1), some (.int a2), some (.int a3)] [.int a1, .ref 0] ([kR 0 v0] : List (List zE)).flatten
  obtain ⟨q1, h4, hf⟩ := zbind hf
  refine AW.callVc hZ hR hN (c_R_takeWord N v0 a1 q1 h4) zMX12_takeWord_ok rfl rfl zK_BorrowedLivesModel_197 zV_X12_takeWord rfl [25] [0] [0, 1, 2, 3, 4, 5, 6, 7, 8, 9, 10, 11, 12, 13, 14, 15, 16, 17, 18, 19, 20, 21, 22, 23, 24] rfl rfl rfl (by decide) (by decide) (by omega) (by decide) (Nat.zero_le _) (Nat.zero_le _) rfl rfl rfl rfl rfl ?_
  rintro v cc ⟨rfl, rfl⟩
  refine ⟨_, rfl, rfl, ?_⟩
  show AW Z 0 0 5 [some (.ref 0), some (.int a1), some (.int a2), some (.int a3)] [] ([kR 0 (R_s_at_fault v0 q1.1 q1.2)] : List (List zE)).flatten
  refine AW.run hZ hRm [8] 400 ?_
  show AW Z 0 0 8 [some (.ref 0), some (.int a1), some (.int a2), some (.int a3)] [.int a3, .int a2, .ref 0] ([kR 0 (R_s_at_fault v0 q1.1 q1.2)] : List (List zE)).flatten
  obtain ⟨q2, h3, hf⟩ := zbind hf
  refine AW.callVc hZ hR hN (c_R_takeNumber N (R_s_at_fault v0 q1.1 q1.2) a2 a3 q2 h3) zMX12_takeNumber_ok rfl rfl zK_BorrowedLivesModel_200 zV_X12_takeNumber rfl [25] [0] [0, 1, 2, 3, 4, 5, 6, 7, 8, 9, 10, 11, 12, 13, 14, 15, 16, 17, 18, 19, 20, 21, 22, 23, 24] rfl rfl rfl (by decide) (by decide) (by omega) (by decide) (Nat.zero_le _) (Nat.zero_le _) rfl rfl rfl rfl rfl ?_
  rintro v cc ⟨rfl, rfl⟩
  refine ⟨_, rfl, rfl, ?_⟩
  show AW Z 0 0 11 [some (.ref 0), some (.int a1), some (.int a2), some (.int a3)] [.int q2.1] ([kR 0 (R_s_at_fault v0 q2.2.1 q2.2.2)] : List (List zE)).flatten
  cases hf
  exact AW.iret hZ hE rfl rfl rfl rfl (Nat.le_refl 0) (Nat.le_refl 0) rfl ⟨rfl, rfl⟩
def f_R_wordHere_L5 (N : Nat) : Nat → VR → Int32 → Int32 → Int32 → Int32 → Option (Int32)
  | 0, _, _, _, _, _ => none
  | fuel + 1, v0, y1, y2, x3, x4 => (if (y2 ≤ x4) then (some x3) else ((f_R_isWord N v0 (y1 + x4)).bind (fun q2 => (f_R_wordHere_L5 N fuel v0 y1 y2 (if (q2 = 0) then x3 else x4) (x4 + 1)))))
def f_R_wordHere (N : Nat) (v0 : VR) (a1 : Int32) (a2 : Int32) : Option (Int32) := ((f_R_wordHere_L5 N N v0 a1 a2 (-1) 0).bind (fun q6 => (some q6)))
set_option maxRecDepth 20000 in
set_option maxHeartbeats 4000000 in
theorem c_R_wordHere_L5 {Z : zCtx} {D n0w nf mcw msw : Nat} (hZ : zOk Z zMX12_wordHere) (hR : zCan Z D mcw msw) (hDd : 2 ≤ D) (hN : zNew Z n0w nf) (hRm : zRoom Z 0 0) (N : Nat) : ∀ (fuel : Nat) (v0 : VR) (y1 : Int32) (y2 : Int32) (x3 : Int32) (x4 : Int32) (q : (Int32)), f_R_wordHere_L5 N fuel v0 y1 y2 x3 x4 = some q → (AW Z 0 0 35 [none, none, none, some (.int q), none] [] ([kR 0 v0] : List (List zE)).flatten) → AW Z 0 0 5 [some (.ref 0), some (.int y1), some (.int y2), some (.int x3), some (.int x4)] [] ([kR 0 v0] : List (List zE)).flatten := by
  intro fuel
  induction fuel with
  | zero =>
    intro v0 y1 y2 x3 x4 q hf hk0
    simp [f_R_wordHere_L5] at hf
  | succ fuel ih =>
    intro v0 y1 y2 x3 x4 q hf hk0
    rw [f_R_wordHere_L5] at hf
    refine AW.run hZ hRm [16, 35] 400 ?_
    show (((y2 ≤ x4) → AW Z 0 0 35 [some (.ref 0), some (.int y1), some (.int y2), some (.int x3), some (.int x4)] [] ([kR 0 v0] : List (List zE)).flatten) ∧ (¬ (y2 ≤ x4) → AW Z 0 0 16 [some (.ref 0), some (.int y1), some (.int y2), some (.int x3), some (.int x4)] [.int (y1 + x4), .ref 0] ([kR 0 v0] : List (List zE)).flatten))
    refine ⟨fun c1 => ?_, fun c1 => ?_⟩
    · rw [if_pos c1] at hf
      cases hf
      refine AW.forget [false, false, false, true, false] ?_
      show AW Z 0 0 35 [none, none, none, some (.int x3), none] [] ([kR 0 v0] : List (List zE)).flatten
      exact hk0
    · rw [if_neg c1] at hf
      obtain ⟨q2, h5, hf⟩ := zbind hf
      refine AW.callVc hZ hR hN (c_R_isWord N v0 (y1 + x4) q2 h5) zMX12_isWord_ok rfl rfl zK_BorrowedLivesModel_191 zV_X12_isWord rfl [25] [0] [0, 1, 2, 3, 4, 5, 6, 7, 8, 9, 10, 11, 12, 13, 14, 15, 16, 17, 18, 19, 20, 21, 22, 23, 24] rfl rfl rfl (by decide) (by decide) (by omega) (by decide) (Nat.zero_le _) (Nat.zero_le _) rfl rfl rfl rfl rfl ?_
      rintro v cc ⟨rfl, rfl⟩
      refine ⟨_, rfl, rfl, ?_⟩
      show AW Z 0 0 19 [some (.ref 0), some (.int y1), some (.int y2), some (.int x3), some (.int x4)] [.int q2] ([kR 0 v0] : List (List zE)).flatten
      suffices H3 : AW Z 0 0 28 [some (.ref 0), some (.int y1), some (.int y2), none, some (.int x4)] [.int (if (q2 = 0) then x3 else x4)] ([kR 0 v0] : List (List zE)).flatten from by
        refine AW.run hZ hRm [28] 400 ?_
        show (((q2 = 0) → AW Z 0 0 28 [some (.ref 0), some (.int y1), some (.int y2), some (.int x3), some (.int x4)] [.int x3] ([kR 0 v0] : List (List zE)).flatten) ∧ (¬ (q2 = 0) → AW Z 0 0 28 [some (.ref 0), some (.int y1), some (.int y2), some (.int x3), some (.int x4)] [.int x4] ([kR 0 v0] : List (List zE)).flatten))
        refine ⟨fun c4 => ?_, fun c4 => ?_⟩
        · refine AW.forget [true, true, true, false, true] ?_
          show AW Z 0 0 28 [some (.ref 0), some (.int y1), some (.int y2), none, some (.int x4)] [.int x3] ([kR 0 v0] : List (List zE)).flatten
          simpa only [if_pos c4] using H3
        · refine AW.forget [true, true, true, false, true] ?_
          show AW Z 0 0 28 [some (.ref 0), some (.int y1), some (.int y2), none, some (.int x4)] [.int x4] ([kR 0 v0] : List (List zE)).flatten
          simpa only [if_neg c4] using H3
      refine AW.run hZ hRm [5] 400 ?_
      show AW Z 0 0 5 [some (.ref 0), some (.int y1), some (.int y2), some (.int (if (q2 = 0) then x3 else x4)), some (.int (x4 + 1))] [] ([kR 0 v0] : List (List zE)).flatten
      exact ih v0 y1 y2 (if (q2 = 0) then x3 else x4) (x4 + 1) q hf hk0
set_option maxRecDepth 20000 in
set_option maxHeartbeats 4000000 in
theorem c_R_wordHere (N : Nat) (v0 : VR) (a1 : Int32) (a2 : Int32) (R : Int32) (hf : f_R_wordHere N v0 a1 a2 = some R) : Ct zMX12_wordHere 2 0 0 0 [.ref 0, .int a1, .int a2] ([kR 0 v0] : List (List zE)).flatten (fun v cc => v = some (.int R) ∧ cc = ([kR 0 v0] : List (List zE)).flatten) := by
  refine Ct.of zMX12_wordHere_ok (by decide) (Nat.le_of_ble_eq_true rfl) ?_
  intro Z hZ hR hN hE
  have hRm : zRoom Z 0 0 := zRoom0 Z
  unfold f_R_wordHere at hf
  show AW Z 0 0 0 [some (.ref 0), some (.int a1), some (.int a2), none, none] [] ([kR 0 v0] : List (List zE)).flatten
  refine AW.run hZ hRm [5] 400 ?_
  show AW Z 0 0 5 [some (.ref 0), some (.int a1), some (.int a2), some (.int (-1)), some (.int 0)] [] ([kR 0 v0] : List (List zE)).flatten
  obtain ⟨q6, h7, hf⟩ := zbind hf
  refine c_R_wordHere_L5 hZ hR (by omega) hN hRm N N v0 a1 a2 (-1) 0 q6 h7 ?_
  show AW Z 0 0 35 [none, none, none, some (.int q6), none] [] ([kR 0 v0] : List (List zE)).flatten
  refine AW.run hZ hRm [36] 400 ?_
  show AW Z 0 0 36 [none, none, none, some (.int q6), none] [.int q6] ([kR 0 v0] : List (List zE)).flatten
  cases hf
  exact AW.iret hZ hE rfl rfl rfl rfl (Nat.le_refl 0) (Nat.le_refl 0) rfl ⟨rfl, rfl⟩
def f_R_takeOne (N : Nat) (v0 : VR) (a1 : Int32) (a2 : Int32) : Option (Int32 × Int32 × Int32) := (if ((R_fault v0) ≤ 0) then ((f_R_wordHere N v0 a1 a2).bind (fun q2 => (if ((R_fault v0) = 0) then (if (0 ≤ q2) then (if ((R_fault v0) ≤ 0) then (some (q2, ((R_at v0) + (if ((R_fault v0) ≤ 0) then 1 else 0)), (R_fault v0))) else (some (0, ((R_at v0) + (if ((R_fault v0) ≤ 0) then 1 else 0)), (R_fault v0)))) else ((f_R_wrong N v0 1).bind (fun q11 => (if (q11 ≤ 0) then (some (q2, ((R_at v0) + (if (q11 ≤ 0) then 1 else 0)), q11)) else (some (0, ((R_at v0) + (if (q11 ≤ 0) then 1 else 0)), q11)))))) else (if ((R_fault v0) ≤ 0) then (some (q2, ((R_at v0) + (if ((R_fault v0) ≤ 0) then 1 else 0)), (R_fault v0))) else (some (0, ((R_at v0) + (if ((R_fault v0) ≤ 0) then 1 else 0)), (R_fault v0))))))) else (if ((R_fault v0) = 0) then ((f_R_wrong N v0 1).bind (fun q21 => (if (q21 ≤ 0) then (some ((-1), ((R_at v0) + (if (q21 ≤ 0) then 1 else 0)), q21)) else (some (0, ((R_at v0) + (if (q21 ≤ 0) then 1 else 0)), q21))))) else (if ((R_fault v0) ≤ 0) then (some ((-1), ((R_at v0) + (if ((R_fault v0) ≤ 0) then 1 else 0)), (R_fault v0))) else (some (0, ((R_at v0) + (if ((R_fault v0) ≤ 0) then 1 else 0)), (R_fault v0))))))
set_option maxRecDepth 20000 in
set_option maxHeartbeats 4000000 in
theorem c_R_takeOne (N : Nat) (v0 : VR) (a1 : Int32) (a2 : Int32) (R : Int32 × Int32 × Int32) (hf : f_R_takeOne N v0 a1 a2 = some R) : Ct zMX12_takeOne 3 0 0 0 [.ref 0, .int a1, .int a2] ([kR 0 v0] : List (List zE)).flatten (fun v cc => v = some (.int R.1) ∧ cc = ([kR 0 (R_s_at_fault v0 R.2.1 R.2.2)] : List (List zE)).flatten) := by
  refine Ct.of zMX12_takeOne_ok (by decide) (Nat.le_of_ble_eq_true rfl) ?_
  intro Z hZ hR hN hE
  have hRm : zRoom Z 0 0 := zRoom0 Z
  unfold f_R_takeOne at hf
  show AW Z 0 0 0 [some (.ref 0), some (.int a1), some (.int a2), none] [] ([kR 0 v0] : List (List zE)).flatten
  refine AW.run hZ hRm [14, 31, 43] 400 ?_
  show ((((R_fault v0) ≤ 0) → AW Z 0 0 14 [some (.ref 0), some (.int a1), some (.int a2), none] [.int a2, .int a1, .ref 0] ([kR 0 v0] : List (List zE)).flatten) ∧ (¬ ((R_fault v0) ≤ 0) → ((¬ ((R_fault v0) = 0) → AW Z 0 0 43 [some (.ref 0), some (.int a1), some (.int a2), some (.int (-1))] [.int (R_fault v0), .int (R_at v0), .ref 0] ([kR 0 v0] : List (List zE)).flatten) ∧ (((R_fault v0) = 0) → ((((0 : Int32) ≤ (-1)) → AW Z 0 0 43 [some (.ref 0), some (.int a1), some (.int a2), some (.int (-1))] [.int (R_fault v0), .int (R_at v0), .ref 0] ([kR 0 v0] : List (List zE)).flatten) ∧ (¬ ((0 : Int32) ≤ (-1)) → AW Z 0 0 31 [some (.ref 0), some (.int a1), some (.int a2), some (.int (-1))] [.int 1, .ref 0] ([kR 0 v0] : List (List zE)).flatten))))))
  refine ⟨fun c1 => ?_, fun c1 => ?_⟩
  · rw [if_pos c1] at hf
    obtain ⟨q2, h16, hf⟩ := zbind hf
    refine AW.callVc hZ hR hN (c_R_wordHere N v0 a1 a2 q2 h16) zMX12_wordHere_ok rfl rfl zK_BorrowedLivesModel_204 zV_X12_wordHere rfl [25] [0] [0, 1, 2, 3, 4, 5, 6, 7, 8, 9, 10, 11, 12, 13, 14, 15, 16, 17, 18, 19, 20, 21, 22, 23, 24] rfl rfl rfl (by decide) (by decide) (by omega) (by decide) (Nat.zero_le _) (Nat.zero_le _) rfl rfl rfl rfl rfl ?_
    rintro v cc ⟨rfl, rfl⟩
    refine ⟨_, rfl, rfl, ?_⟩
    show AW Z 0 0 17 [some (.ref 0), some (.int a1), some (.int a2), none] [.int q2] ([kR 0 v0] : List (List zE)).flatten
    refine AW.run hZ hRm [31, 43] 400 ?_
    show ((¬ ((R_fault v0) = 0) → AW Z 0 0 43 [some (.ref 0), some (.int a1), some (.int a2), some (.int q2)] [.int (R_fault v0), .int (R_at v0), .ref 0] ([kR 0 v0] : List (List zE)).flatten) ∧ (((R_fault v0) = 0) → (((0 ≤ q2) → AW Z 0 0 43 [some (.ref 0), some (.int a1), some (.int a2), some (.int q2)] [.int (R_fault v0), .int (R_at v0), .ref 0] ([kR 0 v0] : List (List zE)).flatten) ∧ (¬ (0 ≤ q2) → AW Z 0 0 31 [some (.ref 0), some (.int a1), some (.int a2), some (.int q2)] [.int 1, .ref 0] ([kR 0 v0] : List (List zE)).flatten))))
    refine ⟨fun c3 => ?_, fun c3 => ?_⟩
    · rw [if_neg c3] at hf
      suffices H4 : AW Z 0 0 51 [some (.ref 0), none, none, some (.int q2)] [.int (if ((R_fault v0) ≤ 0) then 1 else 0), .int (R_at v0), .ref 0] ([kR 0 v0] : List (List zE)).flatten from by
        refine AW.run hZ hRm [51] 400 ?_
        show ((((R_fault v0) ≤ 0) → AW Z 0 0 51 [some (.ref 0), some (.int a1), some (.int a2), some (.int q2)] [.int 1, .int (R_at v0), .ref 0] ([kR 0 v0] : List (List zE)).flatten) ∧ (¬ ((R_fault v0) ≤ 0) → AW Z 0 0 51 [some (.ref 0), some (.int a1), some (.int a2), some (.int q2)] [.int 0, .int (R_at v0), .ref 0] ([kR 0 v0] : List (List zE)).flatten))
        refine ⟨fun c5 => ?_, fun c5 => ?_⟩
        · refine AW.forget [true, false, false, true] ?_
          show AW Z 0 0 51 [some (.ref 0), none, none, some (.int q2)] [.int 1, .int (R_at v0), .ref 0] ([kR 0 v0] : List (List zE)).flatten
          simpa only [if_pos c5] using H4
        · refine AW.forget [true, false, false, true] ?_
          show AW Z 0 0 51 [some (.ref 0), none, none, some (.int q2)] [.int 0, .int (R_at v0), .ref 0] ([kR 0 v0] : List (List zE)).flatten
          simpa only [if_neg c5] using H4
      refine AW.run hZ hRm [67] 400 ?_
      show ((((R_fault v0) ≤ 0) → AW Z 0 0 67 [some (.ref 0), none, none, some (.int q2)] [.int q2] ([kR 0 (R_at_s v0 ((R_at v0) + (if ((R_fault v0) ≤ 0) then 1 else 0)))] : List (List zE)).flatten) ∧ (¬ ((R_fault v0) ≤ 0) → AW Z 0 0 67 [some (.ref 0), none, none, some (.int q2)] [.int 0] ([kR 0 (R_at_s v0 ((R_at v0) + (if ((R_fault v0) ≤ 0) then 1 else 0)))] : List (List zE)).flatten))
      refine ⟨fun c6 => ?_, fun c6 => ?_⟩
      · rw [if_pos c6] at hf
        cases hf
        exact AW.iret hZ hE rfl rfl rfl rfl (Nat.le_refl 0) (Nat.le_refl 0) rfl ⟨rfl, rfl⟩
      · rw [if_neg c6] at hf
        cases hf
        exact AW.iret hZ hE rfl rfl rfl rfl (Nat.le_refl 0) (Nat.le_refl 0) rfl ⟨rfl, rfl⟩
    · rw [if_pos c3] at hf
      refine ⟨fun c7 => ?_, fun c7 => ?_⟩
      · rw [if_pos c7] at hf
        suffices H8 : AW Z 0 0 51 [some (.ref 0), none, none, some (.int q2)] [.int (if ((R_fault v0) ≤ 0) then 1 else 0), .int (R_at v0), .ref 0] ([kR 0 v0] : List (List zE)).flatten from by
          refine AW.run hZ hRm [51] 400 ?_
          show ((((R_fault v0) ≤ 0) → AW Z 0 0 51 [some (.ref 0), some (.int a1), some (.int a2), some (.int q2)] [.int 1, .int (R_at v0), .ref 0] ([kR 0 v0] : List (List zE)).flatten) ∧ (¬ ((R_fault v0) ≤ 0) → AW Z 0 0 51 [some (.ref 0), some (.int a1), some (.int a2), some (.int q2)] [.int 0, .int (R_at v0), .ref 0] ([kR 0 v0] : List (List zE)).flatten))
          refine ⟨fun c9 => ?_, fun c9 => ?_⟩
          · refine AW.forget [true, false, false, true] ?_
            show AW Z 0 0 51 [some (.ref 0), none, none, some (.int q2)] [.int 1, .int (R_at v0), .ref 0] ([kR 0 v0] : List (List zE)).flatten
            simpa only [if_pos c9] using H8
          · refine AW.forget [true, false, false, true] ?_
            show AW Z 0 0 51 [some (.ref 0), none, none, some (.int q2)] [.int 0, .int (R_at v0), .ref 0] ([kR 0 v0] : List (List zE)).flatten
            simpa only [if_neg c9] using H8
        refine AW.run hZ hRm [67] 400 ?_
        show ((((R_fault v0) ≤ 0) → AW Z 0 0 67 [some (.ref 0), none, none, some (.int q2)] [.int q2] ([kR 0 (R_at_s v0 ((R_at v0) + (if ((R_fault v0) ≤ 0) then 1 else 0)))] : List (List zE)).flatten) ∧ (¬ ((R_fault v0) ≤ 0) → AW Z 0 0 67 [some (.ref 0), none, none, some (.int q2)] [.int 0] ([kR 0 (R_at_s v0 ((R_at v0) + (if ((R_fault v0) ≤ 0) then 1 else 0)))] : List (List zE)).flatten))
        refine ⟨fun c10 => ?_, fun c10 => ?_⟩
        · rw [if_pos c10] at hf
          cases hf
          exact AW.iret hZ hE rfl rfl rfl rfl (Nat.le_refl 0) (Nat.le_refl 0) rfl ⟨rfl, rfl⟩
        · rw [if_neg c10] at hf
          cases hf
          exact AW.iret hZ hE rfl rfl rfl rfl (Nat.le_refl 0) (Nat.le_refl 0) rfl ⟨rfl, rfl⟩
      · rw [if_neg c7] at hf
        obtain ⟨q11, h15, hf⟩ := zbind hf
        refine AW.callVc hZ hR hN (c_R_wrong N v0 1 q11 h15) zMX12_wrong_ok rfl rfl zK_BorrowedLivesModel_188 zV_X12_wrong rfl [25] [0] [0, 1, 2, 3, 4, 5, 6, 7, 8, 9, 10, 11, 12, 13, 14, 15, 16, 17, 18, 19, 20, 21, 22, 23, 24] rfl rfl rfl (by decide) (by decide) (by omega) (by decide) (Nat.zero_le _) (Nat.zero_le _) rfl rfl rfl rfl rfl ?_
        rintro v cc ⟨rfl, rfl⟩
        refine ⟨_, rfl, rfl, ?_⟩
        show AW Z 0 0 34 [some (.ref 0), some (.int a1), some (.int a2), some (.int q2)] [] ([kR 0 (R_fault_s v0 q11)] : List (List zE)).flatten
        refine AW.run hZ hRm [43] 400 ?_
        show AW Z 0 0 43 [some (.ref 0), some (.int a1), some (.int a2), some (.int q2)] [.int q11, .int (R_at v0), .ref 0] ([kR 0 (R_fault_s v0 q11)] : List (List zE)).flatten
        suffices H12 : AW Z 0 0 51 [some (.ref 0), none, none, some (.int q2)] [.int (if (q11 ≤ 0) then 1 else 0), .int (R_at v0), .ref 0] ([kR 0 (R_fault_s v0 q11)] : List (List zE)).flatten from by
          refine AW.run hZ hRm [51] 400 ?_
          show (((q11 ≤ 0) → AW Z 0 0 51 [some (.ref 0), some (.int a1), some (.int a2), some (.int q2)] [.int 1, .int (R_at v0), .ref 0] ([kR 0 (R_fault_s v0 q11)] : List (List zE)).flatten) ∧ (¬ (q11 ≤ 0) → AW Z 0 0 51 [some (.ref 0), some (.int a1), some (.int a2), some (.int q2)] [.int 0, .int (R_at v0), .ref 0] ([kR 0 (R_fault_s v0 q11)] : List (List zE)).flatten))
          refine ⟨fun c13 => ?_, fun c13 => ?_⟩
          · refine AW.forget [true, false, false, true] ?_
            show AW Z 0 0 51 [some (.ref 0), none, none, some (.int q2)] [.int 1, .int (R_at v0), .ref 0] ([kR 0 (R_fault_s v0 q11)] : List (List zE)).flatten
            simpa only [if_pos c13] using H12
          · refine AW.forget [true, false, false, true] ?_
            show AW Z 0 0 51 [some (.ref 0), none, none, some (.int q2)] [.int 0, .int (R_at v0), .ref 0] ([kR 0 (R_fault_s v0 q11)] : List (List zE)).flatten
            simpa only [if_neg c13] using H12
        refine AW.run hZ hRm [67] 400 ?_
        show (((q11 ≤ 0) → AW Z 0 0 67 [some (.ref 0), none, none, some (.int q2)] [.int q2] ([kR 0 (R_s_at_fault v0 ((R_at v0) + (if (q11 ≤ 0) then 1 else 0)) q11)] : List (List zE)).flatten) ∧ (¬ (q11 ≤ 0) → AW Z 0 0 67 [some (.ref 0), none, none, some (.int q2)] [.int 0] ([kR 0 (R_s_at_fault v0 ((R_at v0) + (if (q11 ≤ 0) then 1 else 0)) q11)] : List (List zE)).flatten))
        refine ⟨fun c14 => ?_, fun c14 => ?_⟩
        · rw [if_pos c14] at hf
          cases hf
          exact AW.iret hZ hE rfl rfl rfl rfl (Nat.le_refl 0) (Nat.le_refl 0) rfl ⟨rfl, rfl⟩
        · rw [if_neg c14] at hf
          cases hf
          exact AW.iret hZ hE rfl rfl rfl rfl (Nat.le_refl 0) (Nat.le_refl 0) rfl ⟨rfl, rfl⟩
  · rw [if_neg c1] at hf
    refine ⟨fun c17 => ?_, fun c17 => ?_⟩
    · rw [if_neg c17] at hf
      suffices H18 : AW Z 0 0 51 [some (.ref 0), none, none, some (.int (-1))] [.int (if ((R_fault v0) ≤ 0) then 1 else 0), .int (R_at v0), .ref 0] ([kR 0 v0] : List (List zE)).flatten from by
        refine AW.run hZ hRm [51] 400 ?_
        show ((((R_fault v0) ≤ 0) → AW Z 0 0 51 [some (.ref 0), some (.int a1), some (.int a2), some (.int (-1))] [.int 1, .int (R_at v0), .ref 0] ([kR 0 v0] : List (List zE)).flatten) ∧ (¬ ((R_fault v0) ≤ 0) → AW Z 0 0 51 [some (.ref 0), some (.int a1), some (.int a2), some (.int (-1))] [.int 0, .int (R_at v0), .ref 0] ([kR 0 v0] : List (List zE)).flatten))
        refine ⟨fun c19 => ?_, fun c19 => ?_⟩
        · refine AW.forget [true, false, false, true] ?_
          show AW Z 0 0 51 [some (.ref 0), none, none, some (.int (-1))] [.int 1, .int (R_at v0), .ref 0] ([kR 0 v0] : List (List zE)).flatten
          simpa only [if_pos c19] using H18
        · refine AW.forget [true, false, false, true] ?_
          show AW Z 0 0 51 [some (.ref 0), none, none, some (.int (-1))] [.int 0, .int (R_at v0), .ref 0] ([kR 0 v0] : List (List zE)).flatten
          simpa only [if_neg c19] using H18
      refine AW.run hZ hRm [67] 400 ?_
      show ((((R_fault v0) ≤ 0) → AW Z 0 0 67 [some (.ref 0), none, none, some (.int (-1))] [.int (-1)] ([kR 0 (R_at_s v0 ((R_at v0) + (if ((R_fault v0) ≤ 0) then 1 else 0)))] : List (List zE)).flatten) ∧ (¬ ((R_fault v0) ≤ 0) → AW Z 0 0 67 [some (.ref 0), none, none, some (.int (-1))] [.int 0] ([kR 0 (R_at_s v0 ((R_at v0) + (if ((R_fault v0) ≤ 0) then 1 else 0)))] : List (List zE)).flatten))
      refine ⟨fun c20 => ?_, fun c20 => ?_⟩
      · rw [if_pos c20] at hf
        cases hf
        exact AW.iret hZ hE rfl rfl rfl rfl (Nat.le_refl 0) (Nat.le_refl 0) rfl ⟨rfl, rfl⟩
      · rw [if_neg c20] at hf
        cases hf
        exact AW.iret hZ hE rfl rfl rfl rfl (Nat.le_refl 0) (Nat.le_refl 0) rfl ⟨rfl, rfl⟩
    · rw [if_pos c17] at hf
      refine ⟨fun h => absurd h (by decide), fun _ => ?_⟩
      obtain ⟨q21, h25, hf⟩ := zbind hf
      refine AW.callVc hZ hR hN (c_R_wrong N v0 1 q21 h25) zMX12_wrong_ok rfl rfl zK_BorrowedLivesModel_188 zV_X12_wrong rfl [25] [0] [0, 1, 2, 3, 4, 5, 6, 7, 8, 9, 10, 11, 12, 13, 14, 15, 16, 17, 18, 19, 20, 21, 22, 23, 24] rfl rfl rfl (by decide) (by decide) (by omega) (by decide) (Nat.zero_le _) (Nat.zero_le _) rfl rfl rfl rfl rfl ?_
      rintro v cc ⟨rfl, rfl⟩
      refine ⟨_, rfl, rfl, ?_⟩
      show AW Z 0 0 34 [some (.ref 0), some (.int a1), some (.int a2), some (.int (-1))] [] ([kR 0 (R_fault_s v0 q21)] : List (List zE)).flatten
      refine AW.run hZ hRm [43] 400 ?_
      show AW Z 0 0 43 [some (.ref 0), some (.int a1), some (.int a2), some (.int (-1))] [.int q21, .int (R_at v0), .ref 0] ([kR 0 (R_fault_s v0 q21)] : List (List zE)).flatten
      suffices H22 : AW Z 0 0 51 [some (.ref 0), none, none, some (.int (-1))] [.int (if (q21 ≤ 0) then 1 else 0), .int (R_at v0), .ref 0] ([kR 0 (R_fault_s v0 q21)] : List (List zE)).flatten from by
        refine AW.run hZ hRm [51] 400 ?_
        show (((q21 ≤ 0) → AW Z 0 0 51 [some (.ref 0), some (.int a1), some (.int a2), some (.int (-1))] [.int 1, .int (R_at v0), .ref 0] ([kR 0 (R_fault_s v0 q21)] : List (List zE)).flatten) ∧ (¬ (q21 ≤ 0) → AW Z 0 0 51 [some (.ref 0), some (.int a1), some (.int a2), some (.int (-1))] [.int 0, .int (R_at v0), .ref 0] ([kR 0 (R_fault_s v0 q21)] : List (List zE)).flatten))
        refine ⟨fun c23 => ?_, fun c23 => ?_⟩
        · refine AW.forget [true, false, false, true] ?_
          show AW Z 0 0 51 [some (.ref 0), none, none, some (.int (-1))] [.int 1, .int (R_at v0), .ref 0] ([kR 0 (R_fault_s v0 q21)] : List (List zE)).flatten
          simpa only [if_pos c23] using H22
        · refine AW.forget [true, false, false, true] ?_
          show AW Z 0 0 51 [some (.ref 0), none, none, some (.int (-1))] [.int 0, .int (R_at v0), .ref 0] ([kR 0 (R_fault_s v0 q21)] : List (List zE)).flatten
          simpa only [if_neg c23] using H22
      refine AW.run hZ hRm [67] 400 ?_
      show (((q21 ≤ 0) → AW Z 0 0 67 [some (.ref 0), none, none, some (.int (-1))] [.int (-1)] ([kR 0 (R_s_at_fault v0 ((R_at v0) + (if (q21 ≤ 0) then 1 else 0)) q21)] : List (List zE)).flatten) ∧ (¬ (q21 ≤ 0) → AW Z 0 0 67 [some (.ref 0), none, none, some (.int (-1))] [.int 0] ([kR 0 (R_s_at_fault v0 ((R_at v0) + (if (q21 ≤ 0) then 1 else 0)) q21)] : List (List zE)).flatten))
      refine ⟨fun c24 => ?_, fun c24 => ?_⟩
      · rw [if_pos c24] at hf
        cases hf
        exact AW.iret hZ hE rfl rfl rfl rfl (Nat.le_refl 0) (Nat.le_refl 0) rfl ⟨rfl, rfl⟩
      · rw [if_neg c24] at hf
        cases hf
        exact AW.iret hZ hE rfl rfl rfl rfl (Nat.le_refl 0) (Nat.le_refl 0) rfl ⟨rfl, rfl⟩
def f_R_isName (N : Nat) (v0 : VR) : Option (Int32) := (if ((R_fault v0) = 0) then (if ((R_at v0) < 0 ∨ 1002 ≤ Int32.toNatClampNeg (R_at v0)) then none else (if (((R_sort v0) (Int32.toNatClampNeg (R_at v0))) = 1) then ((f_R_wordHere N v0 0 22).bind (fun q3 => (if (0 ≤ q3) then (some 0) else (some 1)))) else (some 0))) else (some 0))
set_option maxRecDepth 20000 in
set_option maxHeartbeats 4000000 in
theorem c_R_isName (N : Nat) (v0 : VR) (R : Int32) (hf : f_R_isName N v0 = some R) : Ct zMX12_isName 3 0 0 0 [.ref 0] ([kR 0 v0] : List (List zE)).flatten (fun v cc => v = some (.int R) ∧ cc = ([kR 0 v0] : List (List zE)).flatten) := by
  refine Ct.of zMX12_isName_ok (by decide) (Nat.le_of_ble_eq_true rfl) ?_
  intro Z hZ hR hN hE
  have hRm : zRoom Z 0 0 := zRoom0 Z
  unfold f_R_isName at hf
  show AW Z 0 0 0 [some (.ref 0)] [] ([kR 0 v0] : List (List zE)).flatten
  refine AW.run hZ hRm [24, 35] 400 ?_
  show ((¬ ((R_fault v0) = 0) → AW Z 0 0 35 [some (.ref 0)] [.int 0] ([kR 0 v0] : List (List zE)).flatten) ∧ (((R_fault v0) = 0) → (¬ ((R_at v0) < 0 ∨ 1002 ≤ Int32.toNatClampNeg (R_at v0)) ∧ ((¬ (((R_sort v0) (Int32.toNatClampNeg (R_at v0))) = 1) → AW Z 0 0 35 [some (.ref 0)] [.int 0] ([kR 0 v0] : List (List zE)).flatten) ∧ ((((R_sort v0) (Int32.toNatClampNeg (R_at v0))) = 1) → AW Z 0 0 24 [some (.ref 0)] [.int 22, .int 0, .ref 0] ([kR 0 v0] : List (List zE)).flatten)))))
  refine ⟨fun c1 => ?_, fun c1 => ?_⟩
  · rw [if_neg c1] at hf
    cases hf
    exact AW.iret hZ hE rfl rfl rfl rfl (Nat.le_refl 0) (Nat.le_refl 0) rfl ⟨rfl, rfl⟩
  · rw [if_pos c1] at hf
    obtain ⟨b6, hf⟩ := zneed hf
    refine ⟨b6, ?_⟩
    refine ⟨fun c2 => ?_, fun c2 => ?_⟩
    · rw [if_neg c2] at hf
      cases hf
      exact AW.iret hZ hE rfl rfl rfl rfl (Nat.le_refl 0) (Nat.le_refl 0) rfl ⟨rfl, rfl⟩
    · rw [if_pos c2] at hf
      obtain ⟨q3, h5, hf⟩ := zbind hf
      refine AW.callVc hZ hR hN (c_R_wordHere N v0 0 22 q3 h5) zMX12_wordHere_ok rfl rfl zK_BorrowedLivesModel_204 zV_X12_wordHere rfl [25] [0] [0, 1, 2, 3, 4, 5, 6, 7, 8, 9, 10, 11, 12, 13, 14, 15, 16, 17, 18, 19, 20, 21, 22, 23, 24] rfl rfl rfl (by decide) (by decide) (by omega) (by decide) (Nat.zero_le _) (Nat.zero_le _) rfl rfl rfl rfl rfl ?_
      rintro v cc ⟨rfl, rfl⟩
      refine ⟨_, rfl, rfl, ?_⟩
      show AW Z 0 0 27 [some (.ref 0)] [.int q3] ([kR 0 v0] : List (List zE)).flatten
      refine AW.run hZ hRm [35] 400 ?_
      show (((0 ≤ q3) → AW Z 0 0 35 [some (.ref 0)] [.int 0] ([kR 0 v0] : List (List zE)).flatten) ∧ (¬ (0 ≤ q3) → AW Z 0 0 35 [some (.ref 0)] [.int 1] ([kR 0 v0] : List (List zE)).flatten))
      refine ⟨fun c4 => ?_, fun c4 => ?_⟩
      · rw [if_pos c4] at hf
        cases hf
        exact AW.iret hZ hE rfl rfl rfl rfl (Nat.le_refl 0) (Nat.le_refl 0) rfl ⟨rfl, rfl⟩
      · rw [if_neg c4] at hf
        cases hf
        exact AW.iret hZ hE rfl rfl rfl rfl (Nat.le_refl 0) (Nat.le_refl 0) rfl ⟨rfl, rfl⟩
