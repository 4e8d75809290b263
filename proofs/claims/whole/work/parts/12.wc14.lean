def f_Tape_expect (N : Nat) (v0 : VTape) (a1 : Int32) : Option (Int32 × Int32) := ((f_Tape_token N v0).bind (fun q1 => (if (q1 = a1) then ((f_Tape_advance N v0).bind (fun q5 => (some (q5, (Tape_fault v0))))) else ((f_Tape_wrong N v0 1).bind (fun q3 => (some ((Tape_at v0), q3)))))))
set_option maxRecDepth 20000 in
set_option maxHeartbeats 4000000 in
theorem c_Tape_expect (N : Nat) (v0 : VTape) (a1 : Int32) (R : Int32 × Int32) (hf : f_Tape_expect N v0 a1 = some R) : Ct zMX7_expect 2 0 0 0 [.ref 0, .int a1] ([kTape 0 v0] : List (List zE)).flatten (fun v cc => v = none ∧ cc = ([kTape 0 (Tape_s_at_fault v0 R.1 R.2)] : List (List zE)).flatten) := by
  refine Ct.of zMX7_expect_ok (by decide) (Nat.le_of_ble_eq_true rfl) ?_
  intro Z hZ hR hN hE
  have hRm : zRoom Z 0 0 := zRoom0 Z
  unfold f_Tape_expect at hf
  show AW Z 0 0 0 [some (.ref 0), some (.int a1)] [] ([kTape 0 v0] : List (List zE)).flatten
  refine AW.run hZ hRm [1] 400 ?_
  show AW Z 0 0 1 [some (.ref 0), some (.int a1)] [.ref 0] ([kTape 0 v0] : List (List zE)).flatten
  obtain ⟨q1, h7, hf⟩ := zbind hf
  refine AW.callVc hZ hR hN (c_Tape_token N v0 q1 h7) zMX7_token_ok rfl rfl zK_BorrowedLives_Tape_82 zV_X7_token rfl [5] [0] [0, 1, 2, 3, 4] rfl rfl rfl (by decide) (by decide) (by omega) (by decide) (Nat.zero_le _) (Nat.zero_le _) rfl rfl rfl rfl rfl ?_
  rintro v cc ⟨rfl, rfl⟩
  refine ⟨_, rfl, rfl, ?_⟩
  show AW Z 0 0 4 [some (.ref 0), some (.int a1)] [.int q1] ([kTape 0 v0] : List (List zE)).flatten
  refine AW.run hZ hRm [9, 17] 400 ?_
  show ((¬ (q1 = a1) → AW Z 0 0 17 [some (.ref 0), some (.int a1)] [.int 1, .ref 0] ([kTape 0 v0] : List (List zE)).flatten) ∧ ((q1 = a1) → AW Z 0 0 9 [some (.ref 0), some (.int a1)] [.ref 0] ([kTape 0 v0] : List (List zE)).flatten))
  refine ⟨fun c2 => ?_, fun c2 => ?_⟩
  · rw [if_neg c2] at hf
    obtain ⟨q3, h4, hf⟩ := zbind hf
    refine AW.callVc hZ hR hN (c_Tape_wrong N v0 1 q3 h4) zMX7_wrong_ok rfl rfl zK_BorrowedLives_Tape_88 zV_X7_wrong rfl [5] [0] [0, 1, 2, 3, 4] rfl rfl rfl (by decide) (by decide) (by omega) (by decide) (Nat.zero_le _) (Nat.zero_le _) rfl rfl rfl rfl rfl ?_
    rintro v cc ⟨rfl, rfl⟩
    refine ⟨_, rfl, rfl, ?_⟩
    show AW Z 0 0 20 [some (.ref 0), some (.int a1)] [] ([kTape 0 (Tape_fault_s v0 q3)] : List (List zE)).flatten
    cases hf
    exact AW.vret hZ hE rfl rfl rfl (Nat.le_refl 0) (Nat.le_refl 0) rfl ⟨rfl, rfl⟩
  · rw [if_pos c2] at hf
    obtain ⟨q5, h6, hf⟩ := zbind hf
    refine AW.callVc hZ hR hN (c_Tape_advance N v0 q5 h6) zMX7_advance_ok rfl rfl zK_BorrowedLives_Tape_85 zV_X7_advance rfl [5] [0] [0, 1, 2, 3, 4] rfl rfl rfl (by decide) (by decide) (by omega) (by decide) (Nat.zero_le _) (Nat.zero_le _) rfl rfl rfl rfl rfl ?_
    rintro v cc ⟨rfl, rfl⟩
    refine ⟨_, rfl, rfl, ?_⟩
    show AW Z 0 0 12 [some (.ref 0), some (.int a1)] [] ([kTape 0 (Tape_at_s v0 q5)] : List (List zE)).flatten
    refine AW.run hZ hRm [20] 400 ?_
    show AW Z 0 0 20 [some (.ref 0), some (.int a1)] [] ([kTape 0 (Tape_at_s v0 q5)] : List (List zE)).flatten
    cases hf
    exact AW.vret hZ hE rfl rfl rfl (Nat.le_refl 0) (Nat.le_refl 0) rfl ⟨rfl, rfl⟩
def f_Tape_readNumber (N : Nat) (v0 : VTape) (a1 : Int32) : Option (Int32 × Int32 × Int32) := ((f_Tape_token N v0).bind (fun q1 => (if (q1 = 2) then ((f_Tape_value N v0).bind (fun q3 => (if ((Int64.toInt32 q3) ≤ a1) then ((f_Tape_advance N v0).bind (fun q5 => (some ((Int64.toInt32 q3), q5, (Tape_fault v0))))) else ((f_Tape_wrong N v0 4).bind (fun q7 => (some (0, (Tape_at v0), q7))))))) else ((f_Tape_wrong N v0 1).bind (fun q10 => (some (0, (Tape_at v0), q10)))))))
set_option maxRecDepth 20000 in
set_option maxHeartbeats 4000000 in
theorem c_Tape_readNumber (N : Nat) (v0 : VTape) (a1 : Int32) (R : Int32 × Int32 × Int32) (hf : f_Tape_readNumber N v0 a1 = some R) : Ct zMX7_readNumber 2 0 0 0 [.ref 0, .int a1] ([kTape 0 v0] : List (List zE)).flatten (fun v cc => v = some (.int R.1) ∧ cc = ([kTape 0 (Tape_s_at_fault v0 R.2.1 R.2.2)] : List (List zE)).flatten) := by
  refine Ct.of zMX7_readNumber_ok (by decide) (Nat.le_of_ble_eq_true rfl) ?_
  intro Z hZ hR hN hE
  have hRm : zRoom Z 0 0 := zRoom0 Z
  unfold f_Tape_readNumber at hf
  show AW Z 0 0 0 [some (.ref 0), some (.int a1), none] [] ([kTape 0 v0] : List (List zE)).flatten
  refine AW.run hZ hRm [1] 400 ?_
  show AW Z 0 0 1 [some (.ref 0), some (.int a1), none] [.ref 0] ([kTape 0 v0] : List (List zE)).flatten
  obtain ⟨q1, h12, hf⟩ := zbind hf
  refine AW.callVc hZ hR hN (c_Tape_token N v0 q1 h12) zMX7_token_ok rfl rfl zK_BorrowedLives_Tape_82 zV_X7_token rfl [5] [0] [0, 1, 2, 3, 4] rfl rfl rfl (by decide) (by decide) (by omega) (by decide) (Nat.zero_le _) (Nat.zero_le _) rfl rfl rfl rfl rfl ?_
  rintro v cc ⟨rfl, rfl⟩
  refine ⟨_, rfl, rfl, ?_⟩
  show AW Z 0 0 4 [some (.ref 0), some (.int a1), none] [.int q1] ([kTape 0 v0] : List (List zE)).flatten
  refine AW.run hZ hRm [10, 16] 400 ?_
  show (((q1 = 2) → AW Z 0 0 16 [some (.ref 0), some (.int a1), none] [.ref 0] ([kTape 0 v0] : List (List zE)).flatten) ∧ (¬ (q1 = 2) → AW Z 0 0 10 [some (.ref 0), some (.int a1), none] [.int 1, .ref 0] ([kTape 0 v0] : List (List zE)).flatten))
  refine ⟨fun c2 => ?_, fun c2 => ?_⟩
  · rw [if_pos c2] at hf
    obtain ⟨q3, h9, hf⟩ := zbind hf
    refine AW.callVc hZ hR hN (c_Tape_value N v0 q3 h9) zMX7_value_ok rfl rfl zK_BorrowedLives_Tape_92 zV_X7_value rfl [5] [0] [0, 1, 2, 3, 4] rfl rfl rfl (by decide) (by decide) (by omega) (by decide) (Nat.zero_le _) (Nat.zero_le _) rfl rfl rfl rfl rfl ?_
    rintro v cc ⟨rfl, rfl⟩
    refine ⟨_, rfl, rfl, ?_⟩
    show AW Z 0 0 19 [some (.ref 0), some (.int a1), none] [.long q3] ([kTape 0 v0] : List (List zE)).flatten
    refine AW.run hZ hRm [28, 34] 400 ?_
    show ((((Int64.toInt32 q3) ≤ a1) → AW Z 0 0 34 [some (.ref 0), some (.int a1), some (.int (Int64.toInt32 q3))] [.ref 0] ([kTape 0 v0] : List (List zE)).flatten) ∧ (¬ ((Int64.toInt32 q3) ≤ a1) → AW Z 0 0 28 [some (.ref 0), some (.int a1), some (.int (Int64.toInt32 q3))] [.int 4, .ref 0] ([kTape 0 v0] : List (List zE)).flatten))
    refine ⟨fun c4 => ?_, fun c4 => ?_⟩
    · rw [if_pos c4] at hf
      obtain ⟨q5, h6, hf⟩ := zbind hf
      refine AW.callVc hZ hR hN (c_Tape_advance N v0 q5 h6) zMX7_advance_ok rfl rfl zK_BorrowedLives_Tape_85 zV_X7_advance rfl [5] [0] [0, 1, 2, 3, 4] rfl rfl rfl (by decide) (by decide) (by omega) (by decide) (Nat.zero_le _) (Nat.zero_le _) rfl rfl rfl rfl rfl ?_
      rintro v cc ⟨rfl, rfl⟩
      refine ⟨_, rfl, rfl, ?_⟩
      show AW Z 0 0 37 [some (.ref 0), some (.int a1), some (.int (Int64.toInt32 q3))] [] ([kTape 0 (Tape_at_s v0 q5)] : List (List zE)).flatten
      refine AW.run hZ hRm [38] 400 ?_
      show AW Z 0 0 38 [some (.ref 0), some (.int a1), some (.int (Int64.toInt32 q3))] [.int (Int64.toInt32 q3)] ([kTape 0 (Tape_at_s v0 q5)] : List (List zE)).flatten
      cases hf
      exact AW.iret hZ hE rfl rfl rfl rfl (Nat.le_refl 0) (Nat.le_refl 0) rfl ⟨rfl, rfl⟩
    · rw [if_neg c4] at hf
      obtain ⟨q7, h8, hf⟩ := zbind hf
      refine AW.callVc hZ hR hN (c_Tape_wrong N v0 4 q7 h8) zMX7_wrong_ok rfl rfl zK_BorrowedLives_Tape_88 zV_X7_wrong rfl [5] [0] [0, 1, 2, 3, 4] rfl rfl rfl (by decide) (by decide) (by omega) (by decide) (Nat.zero_le _) (Nat.zero_le _) rfl rfl rfl rfl rfl ?_
      rintro v cc ⟨rfl, rfl⟩
      refine ⟨_, rfl, rfl, ?_⟩
      show AW Z 0 0 31 [some (.ref 0), some (.int a1), some (.int (Int64.toInt32 q3))] [] ([kTape 0 (Tape_fault_s v0 q7)] : List (List zE)).flatten
      refine AW.run hZ hRm [32] 400 ?_
      show AW Z 0 0 32 [some (.ref 0), some (.int a1), some (.int (Int64.toInt32 q3))] [.int 0] ([kTape 0 (Tape_fault_s v0 q7)] : List (List zE)).flatten
      cases hf
      exact AW.iret hZ hE rfl rfl rfl rfl (Nat.le_refl 0) (Nat.le_refl 0) rfl ⟨rfl, rfl⟩
  · rw [if_neg c2] at hf
    obtain ⟨q10, h11, hf⟩ := zbind hf
    refine AW.callVc hZ hR hN (c_Tape_wrong N v0 1 q10 h11) zMX7_wrong_ok rfl rfl zK_BorrowedLives_Tape_88 zV_X7_wrong rfl [5] [0] [0, 1, 2, 3, 4] rfl rfl rfl (by decide) (by decide) (by omega) (by decide) (Nat.zero_le _) (Nat.zero_le _) rfl rfl rfl rfl rfl ?_
    rintro v cc ⟨rfl, rfl⟩
    refine ⟨_, rfl, rfl, ?_⟩
    show AW Z 0 0 13 [some (.ref 0), some (.int a1), none] [] ([kTape 0 (Tape_fault_s v0 q10)] : List (List zE)).flatten
    refine AW.run hZ hRm [14] 400 ?_
    show AW Z 0 0 14 [some (.ref 0), some (.int a1), none] [.int 0] ([kTape 0 (Tape_fault_s v0 q10)] : List (List zE)).flatten
    cases hf
    exact AW.iret hZ hE rfl rfl rfl rfl (Nat.le_refl 0) (Nat.le_refl 0) rfl ⟨rfl, rfl⟩
def f_Tape_isName (N : Nat) (v0 : VTape) : Option (Int32) := ((f_Tape_token N v0).bind (fun q1 => (if (q1 = 1) then (some 1) else ((f_Tape_token N v0).bind (fun q3 => (if (q3 < 150) then (some 0) else (some 1)))))))
set_option maxRecDepth 20000 in
set_option maxHeartbeats 4000000 in
theorem c_Tape_isName (N : Nat) (v0 : VTape) (R : Int32) (hf : f_Tape_isName N v0 = some R) : Ct zMX7_isName 2 0 0 0 [.ref 0] ([kTape 0 v0] : List (List zE)).flatten (fun v cc => v = some (.int R) ∧ cc = ([kTape 0 v0] : List (List zE)).flatten) := by
  refine Ct.of zMX7_isName_ok (by decide) (Nat.le_of_ble_eq_true rfl) ?_
  intro Z hZ hR hN hE
  have hRm : zRoom Z 0 0 := zRoom0 Z
  unfold f_Tape_isName at hf
  show AW Z 0 0 0 [some (.ref 0)] [] ([kTape 0 v0] : List (List zE)).flatten
  refine AW.run hZ hRm [1] 400 ?_
  show AW Z 0 0 1 [some (.ref 0)] [.ref 0] ([kTape 0 v0] : List (List zE)).flatten
  obtain ⟨q1, h6, hf⟩ := zbind hf
  refine AW.callVc hZ hR hN (c_Tape_token N v0 q1 h6) zMX7_token_ok rfl rfl zK_BorrowedLives_Tape_82 zV_X7_token rfl [5] [0] [0, 1, 2, 3, 4] rfl rfl rfl (by decide) (by decide) (by omega) (by decide) (Nat.zero_le _) (Nat.zero_le _) rfl rfl rfl rfl rfl ?_
  rintro v cc ⟨rfl, rfl⟩
  refine ⟨_, rfl, rfl, ?_⟩
  show AW Z 0 0 4 [some (.ref 0)] [.int q1] ([kTape 0 v0] : List (List zE)).flatten
  refine AW.run hZ hRm [9, 23] 400 ?_
  show (((q1 = 1) → AW Z 0 0 23 [some (.ref 0)] [.int 1] ([kTape 0 v0] : List (List zE)).flatten) ∧ (¬ (q1 = 1) → AW Z 0 0 9 [some (.ref 0)] [.ref 0] ([kTape 0 v0] : List (List zE)).flatten))
  refine ⟨fun c2 => ?_, fun c2 => ?_⟩
  · rw [if_pos c2] at hf
    cases hf
    exact AW.iret hZ hE rfl rfl rfl rfl (Nat.le_refl 0) (Nat.le_refl 0) rfl ⟨rfl, rfl⟩
  · rw [if_neg c2] at hf
    obtain ⟨q3, h5, hf⟩ := zbind hf
    refine AW.callVc hZ hR hN (c_Tape_token N v0 q3 h5) zMX7_token_ok rfl rfl zK_BorrowedLives_Tape_82 zV_X7_token rfl [5] [0] [0, 1, 2, 3, 4] rfl rfl rfl (by decide) (by decide) (by omega) (by decide) (Nat.zero_le _) (Nat.zero_le _) rfl rfl rfl rfl rfl ?_
    rintro v cc ⟨rfl, rfl⟩
    refine ⟨_, rfl, rfl, ?_⟩
    show AW Z 0 0 12 [some (.ref 0)] [.int q3] ([kTape 0 v0] : List (List zE)).flatten
    refine AW.run hZ hRm [23] 400 ?_
    show (((q3 < 150) → AW Z 0 0 23 [some (.ref 0)] [.int 0] ([kTape 0 v0] : List (List zE)).flatten) ∧ (¬ (q3 < 150) → AW Z 0 0 23 [some (.ref 0)] [.int 1] ([kTape 0 v0] : List (List zE)).flatten))
    refine ⟨fun c4 => ?_, fun c4 => ?_⟩
    · rw [if_pos c4] at hf
      cases hf
      exact AW.iret hZ hE rfl rfl rfl rfl (Nat.le_refl 0) (Nat.le_refl 0) rfl ⟨rfl, rfl⟩
    · rw [if_neg c4] at hf
      cases hf
      exact AW.iret hZ hE rfl rfl rfl rfl (Nat.le_refl 0) (Nat.le_refl 0) rfl ⟨rfl, rfl⟩
def f_Town_named_L2 (N : Nat) : Nat → VTown → VLaws → Int64 → Int32 → Option ((Int32) ⊕ (Unit))
  | 0, _, _, _, _ => none
  | fuel + 1, v0, v1, y1, x3 => (if ((Town_people v0) ≤ x3) then (some (Sum.inr ())) else (if (x3 < 0 ∨ 6 ≤ Int32.toNatClampNeg x3) then none else (if ((lg_cmp ((Town_names v0) (Int32.toNatClampNeg x3)) y1) = 0) then (some (Sum.inl x3)) else (f_Town_named_L2 N fuel v0 v1 y1 (x3 + 1)))))
def f_Town_named (N : Nat) (v0 : VTown) (v1 : VLaws) (a1 : Int64) : Option (Int32) := ((f_Town_named_L2 N N v0 v1 a1 0).bind (Sum.elim (fun w6 => (some w6)) (fun w7 => (some (-1)))))
set_option maxRecDepth 20000 in
set_option maxHeartbeats 4000000 in
theorem c_Town_named_L2 {Z : zCtx} {D n0w nf mcw msw : Nat} (hZ : zOk Z zMX8_named) (hR : zCan Z D mcw msw) (hDd : 1 ≤ D) (hN : zNew Z n0w nf) (hRm : zRoom Z 0 0) (N : Nat) : ∀ (fuel : Nat) (v0 : VTown) (v1 : VLaws) (y1 : Int64) (x3 : Int32) (q : ((Int32) ⊕ (Unit))), f_Town_named_L2 N fuel v0 v1 y1 x3 = some q → (∀ w : Int32, q = (Sum.inl w) → AW Z 0 0 21 [none, none, none, some (.int w)] [] ([kTown 0 8 v0, kLaws 8 v1] : List (List zE)).flatten) → (∀ w : Unit, q = (Sum.inr w) → AW Z 0 0 29 [none, none, none, none] [] ([kTown 0 8 v0, kLaws 8 v1] : List (List zE)).flatten) → AW Z 0 0 2 [some (.ref 0), some (.long y1), none, some (.int x3)] [] ([kTown 0 8 v0, kLaws 8 v1] : List (List zE)).flatten := by
  intro fuel
  induction fuel with
  | zero =>
    intro v0 v1 y1 x3 q hf hk0 hk1
    simp [f_Town_named_L2] at hf
  | succ fuel ih =>
    intro v0 v1 y1 x3 q hf hk0 hk1
    rw [f_Town_named_L2] at hf
    refine AW.run hZ hRm [2, 21, 29] 400 ?_
    show ((((Town_people v0) ≤ x3) → AW Z 0 0 29 [some (.ref 0), some (.long y1), none, some (.int x3)] [] ([kTown 0 8 v0, kLaws 8 v1] : List (List zE)).flatten) ∧ (¬ ((Town_people v0) ≤ x3) → (¬ (x3 < 0 ∨ 6 ≤ Int32.toNatClampNeg x3) ∧ ((¬ ((lg_cmp ((Town_names v0) (Int32.toNatClampNeg x3)) y1) = 0) → AW Z 0 0 2 [some (.ref 0), some (.long y1), none, some (.int (x3 + 1))] [] ([kTown 0 8 v0, kLaws 8 v1] : List (List zE)).flatten) ∧ (((lg_cmp ((Town_names v0) (Int32.toNatClampNeg x3)) y1) = 0) → AW Z 0 0 21 [some (.ref 0), some (.long y1), none, some (.int x3)] [] ([kTown 0 8 v0, kLaws 8 v1] : List (List zE)).flatten)))))
    refine ⟨fun c1 => ?_, fun c1 => ?_⟩
    · rw [if_pos c1] at hf
      cases hf
      refine AW.forget [false, false, false, false] ?_
      show AW Z 0 0 29 [none, none, none, none] [] ([kTown 0 8 v0, kLaws 8 v1] : List (List zE)).flatten
      exact hk1 _ rfl
    · rw [if_neg c1] at hf
      obtain ⟨b3, hf⟩ := zneed hf
      refine ⟨b3, ?_⟩
      refine ⟨fun c2 => ?_, fun c2 => ?_⟩
      · rw [if_neg c2] at hf
        exact ih v0 v1 y1 (x3 + 1) q hf hk0 hk1
      · rw [if_pos c2] at hf
        cases hf
        refine AW.forget [false, false, false, true] ?_
        show AW Z 0 0 21 [none, none, none, some (.int x3)] [] ([kTown 0 8 v0, kLaws 8 v1] : List (List zE)).flatten
        exact hk0 _ rfl
set_option maxRecDepth 20000 in
set_option maxHeartbeats 4000000 in
theorem c_Town_named (N : Nat) (v0 : VTown) (v1 : VLaws) (a1 : Int64) (R : Int32) (hf : f_Town_named N v0 v1 a1 = some R) : Ct zMX8_named 1 0 0 0 [.ref 0, .long a1] ([kTown 0 8 v0, kLaws 8 v1] : List (List zE)).flatten (fun v cc => v = some (.int R) ∧ cc = ([kTown 0 8 v0, kLaws 8 v1] : List (List zE)).flatten) := by
  refine Ct.of zMX8_named_ok (by decide) (Nat.le_of_ble_eq_true rfl) ?_
  intro Z hZ hR hN hE
  have hRm : zRoom Z 0 0 := zRoom0 Z
  unfold f_Town_named at hf
  show AW Z 0 0 0 [some (.ref 0), some (.long a1), none, none] [] ([kTown 0 8 v0, kLaws 8 v1] : List (List zE)).flatten
  refine AW.run hZ hRm [2] 400 ?_
  show AW Z 0 0 2 [some (.ref 0), some (.long a1), none, some (.int 0)] [] ([kTown 0 8 v0, kLaws 8 v1] : List (List zE)).flatten
  obtain ⟨q4, h5, hf⟩ := zbind hf
  refine c_Town_named_L2 hZ hR (by omega) hN hRm N N v0 v1 a1 0 q4 h5 ?_ ?_
  · intro w6 hq
    subst hq
    show AW Z 0 0 21 [none, none, none, some (.int w6)] [] ([kTown 0 8 v0, kLaws 8 v1] : List (List zE)).flatten
    replace hf : (some w6) = some R := hf
    refine AW.run hZ hRm [22] 400 ?_
    show AW Z 0 0 22 [none, none, none, some (.int w6)] [.int w6] ([kTown 0 8 v0, kLaws 8 v1] : List (List zE)).flatten
    cases hf
    exact AW.iret hZ hE rfl rfl rfl rfl (Nat.le_refl 0) (Nat.le_refl 0) rfl ⟨rfl, rfl⟩
  · intro w7 hq
    subst hq
    show AW Z 0 0 29 [none, none, none, none] [] ([kTown 0 8 v0, kLaws 8 v1] : List (List zE)).flatten
    replace hf : (some (-1)) = some R := hf
    refine AW.run hZ hRm [30] 400 ?_
    show AW Z 0 0 30 [none, none, none, none] [.int (-1)] ([kTown 0 8 v0, kLaws 8 v1] : List (List zE)).flatten
    cases hf
    exact AW.iret hZ hE rfl rfl rfl rfl (Nat.le_refl 0) (Nat.le_refl 0) rfl ⟨rfl, rfl⟩
def f_Tape_readPerson (N : Nat) (v0 : VTape) (v1 : VTown) (v2 : VLaws) : Option (Int32 × Int32 × Int32) := ((f_Tape_isName N v0).bind (fun q1 => (if (q1 = 0) then (if (((-1) : Int32) = (-1)) then ((f_Tape_isName N v0).bind (fun q6 => ((f_Tape_wrong N v0 (if (q6 = 0) then 1 else 2)).bind (fun q9 => (some ((-1), (Tape_at v0), q9)))))) else ((f_Tape_advance N v0).bind (fun q4 => (some ((-1), q4, (Tape_fault v0)))))) else ((f_Tape_value N v0).bind (fun q12 => ((f_Town_named N v1 v2 q12).bind (fun q13 => (if (q13 = (-1)) then ((f_Tape_isName N v0).bind (fun q17 => ((f_Tape_wrong N v0 (if (q17 = 0) then 1 else 2)).bind (fun q20 => (some ((-1), (Tape_at v0), q20)))))) else ((f_Tape_advance N v0).bind (fun q15 => (some (q13, q15, (Tape_fault v0)))))))))))))
set_option maxRecDepth 20000 in
set_option maxHeartbeats 4000000 in
theorem c_Tape_readPerson (N : Nat) (v0 : VTape) (v1 : VTown) (v2 : VLaws) (R : Int32 × Int32 × Int32) (hf : f_Tape_readPerson N v0 v1 v2 = some R) : Ct zMX7_readPerson 3 0 0 0 [.ref 0, .ref 5] ([kTape 0 v0, kTown 5 13 v1, kLaws 13 v2] : List (List zE)).flatten (fun v cc => v = some (.int R.1) ∧ cc = ([kTape 0 (Tape_s_at_fault v0 R.2.1 R.2.2), kTown 5 13 v1, kLaws 13 v2] : List (List zE)).flatten) := by
  refine Ct.of zMX7_readPerson_ok (by decide) (Nat.le_of_ble_eq_true rfl) ?_
  intro Z hZ hR hN hE
  have hRm : zRoom Z 0 0 := zRoom0 Z
  unfold f_Tape_readPerson at hf
  show AW Z 0 0 0 [some (.ref 0), some (.ref 5), none] [] ([kTape 0 v0, kTown 5 13 v1, kLaws 13 v2] : List (List zE)).flatten
  refine AW.run hZ hRm [1] 400 ?_
  show AW Z 0 0 1 [some (.ref 0), some (.ref 5), none] [.ref 0] ([kTape 0 v0, kTown 5 13 v1, kLaws 13 v2] : List (List zE)).flatten
  obtain ⟨q1, h25, hf⟩ := zbind hf
  refine AW.callVc hZ hR hN (c_Tape_isName N v0 q1 h25) zMX7_isName_ok rfl rfl zK_BorrowedLives_Tape_96 zV_X7_isName rfl [5, 8, 6] [0] [0, 1, 2, 3, 4] rfl rfl rfl (by decide) (by decide) (by omega) (by decide) (Nat.zero_le _) (Nat.zero_le _) rfl rfl rfl rfl rfl ?_
  rintro v cc ⟨rfl, rfl⟩
  refine ⟨_, rfl, rfl, ?_⟩
  show AW Z 0 0 4 [some (.ref 0), some (.ref 5), none] [.int q1] ([kTape 0 v0, kTown 5 13 v1, kLaws 13 v2] : List (List zE)).flatten
  refine AW.run hZ hRm [9, 27, 44] 400 ?_
  show (((q1 = 0) → ((¬ (((-1) : Int32) = (-1)) → AW Z 0 0 44 [some (.ref 0), some (.ref 5), some (.int (-1))] [.ref 0] ([kTape 0 v0, kTown 5 13 v1, kLaws 13 v2] : List (List zE)).flatten) ∧ ((((-1) : Int32) = (-1)) → AW Z 0 0 27 [some (.ref 0), some (.ref 5), some (.int (-1))] [.ref 0, .ref 0] ([kTape 0 v0, kTown 5 13 v1, kLaws 13 v2] : List (List zE)).flatten))) ∧ (¬ (q1 = 0) → AW Z 0 0 9 [some (.ref 0), some (.ref 5), none] [.ref 0, .ref 5] ([kTape 0 v0, kTown 5 13 v1, kLaws 13 v2] : List (List zE)).flatten))
  refine ⟨fun c2 => ?_, fun c2 => ?_⟩
  · rw [if_pos c2] at hf
    refine ⟨fun c3 => ?_, fun c3 => ?_⟩
    · rw [if_neg c3] at hf
      obtain ⟨q4, h5, hf⟩ := zbind hf
      refine AW.callVc hZ hR hN (c_Tape_advance N v0 q4 h5) zMX7_advance_ok rfl rfl zK_BorrowedLives_Tape_85 zV_X7_advance rfl [5, 8, 6] [0] [0, 1, 2, 3, 4] rfl rfl rfl (by decide) (by decide) (by omega) (by decide) (Nat.zero_le _) (Nat.zero_le _) rfl rfl rfl rfl rfl ?_
      rintro v cc ⟨rfl, rfl⟩
      refine ⟨_, rfl, rfl, ?_⟩
      show AW Z 0 0 47 [some (.ref 0), some (.ref 5), some (.int (-1))] [] ([kTape 0 (Tape_at_s v0 q4), kTown 5 13 v1, kLaws 13 v2] : List (List zE)).flatten
      refine AW.run hZ hRm [48] 400 ?_
      show AW Z 0 0 48 [some (.ref 0), some (.ref 5), some (.int (-1))] [.int (-1)] ([kTape 0 (Tape_at_s v0 q4), kTown 5 13 v1, kLaws 13 v2] : List (List zE)).flatten
      cases hf
      exact AW.iret hZ hE rfl rfl rfl rfl (Nat.le_refl 0) (Nat.le_refl 0) rfl ⟨rfl, rfl⟩
    · rw [if_pos c3] at hf
      obtain ⟨q6, h11, hf⟩ := zbind hf
      refine AW.callVc hZ hR hN (c_Tape_isName N v0 q6 h11) zMX7_isName_ok rfl rfl zK_BorrowedLives_Tape_96 zV_X7_isName rfl [5, 8, 6] [0] [0, 1, 2, 3, 4] rfl rfl rfl (by decide) (by decide) (by omega) (by decide) (Nat.zero_le _) (Nat.zero_le _) rfl rfl rfl rfl rfl ?_
      rintro v cc ⟨rfl, rfl⟩
      refine ⟨_, rfl, rfl, ?_⟩
      show AW Z 0 0 30 [some (.ref 0), some (.ref 5), some (.int (-1))] [.int q6, .ref 0] ([kTape 0 v0, kTown 5 13 v1, kLaws 13 v2] : List (List zE)).flatten
      suffices H7 : AW Z 0 0 38 [none, none, none] [.int (if (q6 = 0) then 1 else 2), .ref 0] ([kTape 0 v0, kTown 5 13 v1, kLaws 13 v2] : List (List zE)).flatten from by
        refine AW.run hZ hRm [38] 400 ?_
        show (((q6 = 0) → AW Z 0 0 38 [some (.ref 0), some (.ref 5), some (.int (-1))] [.int 1, .ref 0] ([kTape 0 v0, kTown 5 13 v1, kLaws 13 v2] : List (List zE)).flatten) ∧ (¬ (q6 = 0) → AW Z 0 0 38 [some (.ref 0), some (.ref 5), some (.int (-1))] [.int 2, .ref 0] ([kTape 0 v0, kTown 5 13 v1, kLaws 13 v2] : List (List zE)).flatten))
        refine ⟨fun c8 => ?_, fun c8 => ?_⟩
        · refine AW.forget [false, false, false] ?_
          show AW Z 0 0 38 [none, none, none] [.int 1, .ref 0] ([kTape 0 v0, kTown 5 13 v1, kLaws 13 v2] : List (List zE)).flatten
          simpa only [if_pos c8] using H7
        · refine AW.forget [false, false, false] ?_
          show AW Z 0 0 38 [none, none, none] [.int 2, .ref 0] ([kTape 0 v0, kTown 5 13 v1, kLaws 13 v2] : List (List zE)).flatten
          simpa only [if_neg c8] using H7
      obtain ⟨q9, h10, hf⟩ := zbind hf
      refine AW.callVc hZ hR hN (c_Tape_wrong N v0 (if (q6 = 0) then 1 else 2) q9 h10) zMX7_wrong_ok rfl rfl zK_BorrowedLives_Tape_88 zV_X7_wrong rfl [5, 8, 6] [0] [0, 1, 2, 3, 4] rfl rfl rfl (by decide) (by decide) (by omega) (by decide) (Nat.zero_le _) (Nat.zero_le _) rfl rfl rfl rfl rfl ?_
      rintro v cc ⟨rfl, rfl⟩
      refine ⟨_, rfl, rfl, ?_⟩
      show AW Z 0 0 41 [none, none, none] [] ([kTape 0 (Tape_fault_s v0 q9), kTown 5 13 v1, kLaws 13 v2] : List (List zE)).flatten
      refine AW.run hZ hRm [42] 400 ?_
      show AW Z 0 0 42 [none, none, none] [.int (-1)] ([kTape 0 (Tape_fault_s v0 q9), kTown 5 13 v1, kLaws 13 v2] : List (List zE)).flatten
      cases hf
      exact AW.iret hZ hE rfl rfl rfl rfl (Nat.le_refl 0) (Nat.le_refl 0) rfl ⟨rfl, rfl⟩
  · rw [if_neg c2] at hf
    obtain ⟨q12, h24, hf⟩ := zbind hf
    refine AW.callVc hZ hR hN (c_Tape_value N v0 q12 h24) zMX7_value_ok rfl rfl zK_BorrowedLives_Tape_92 zV_X7_value rfl [5, 8, 6] [0] [0, 1, 2, 3, 4] rfl rfl rfl (by decide) (by decide) (by omega) (by decide) (Nat.zero_le _) (Nat.zero_le _) rfl rfl rfl rfl rfl ?_
    rintro v cc ⟨rfl, rfl⟩
    refine ⟨_, rfl, rfl, ?_⟩
    show AW Z 0 0 12 [some (.ref 0), some (.ref 5), none] [.long q12, .ref 5] ([kTape 0 v0, kTown 5 13 v1, kLaws 13 v2] : List (List zE)).flatten
    obtain ⟨q13, h23, hf⟩ := zbind hf
    refine AW.callVc hZ hR hN (c_Town_named N v1 v2 q12 q13 h23) zMX8_named_ok rfl rfl zK_BorrowedLives_Tape_100 zV_X8_named rfl [5, 8, 6] [1, 2] [5, 6, 7, 8, 9, 10, 11, 12, 13, 14, 15, 16, 17, 18] rfl rfl rfl (by decide) (by decide) (by omega) (by decide) (Nat.zero_le _) (Nat.zero_le _) rfl rfl rfl rfl rfl ?_
    rintro v cc ⟨rfl, rfl⟩
    refine ⟨_, rfl, rfl, ?_⟩
    show AW Z 0 0 15 [some (.ref 0), some (.ref 5), none] [.int q13] ([kTape 0 v0, kTown 5 13 v1, kLaws 13 v2] : List (List zE)).flatten
    refine AW.run hZ hRm [27, 44] 400 ?_
    show ((¬ (q13 = (-1)) → AW Z 0 0 44 [some (.ref 0), some (.ref 5), some (.int q13)] [.ref 0] ([kTape 0 v0, kTown 5 13 v1, kLaws 13 v2] : List (List zE)).flatten) ∧ ((q13 = (-1)) → AW Z 0 0 27 [some (.ref 0), some (.ref 5), some (.int q13)] [.ref 0, .ref 0] ([kTape 0 v0, kTown 5 13 v1, kLaws 13 v2] : List (List zE)).flatten))
    refine ⟨fun c14 => ?_, fun c14 => ?_⟩
    · rw [if_neg c14] at hf
      obtain ⟨q15, h16, hf⟩ := zbind hf
      refine AW.callVc hZ hR hN (c_Tape_advance N v0 q15 h16) zMX7_advance_ok rfl rfl zK_BorrowedLives_Tape_85 zV_X7_advance rfl [5, 8, 6] [0] [0, 1, 2, 3, 4] rfl rfl rfl (by decide) (by decide) (by omega) (by decide) (Nat.zero_le _) (Nat.zero_le _) rfl rfl rfl rfl rfl ?_
      rintro v cc ⟨rfl, rfl⟩
      refine ⟨_, rfl, rfl, ?_⟩
      show AW Z 0 0 47 [some (.ref 0), some (.ref 5), some (.int q13)] [] ([kTape 0 (Tape_at_s v0 q15), kTown 5 13 v1, kLaws 13 v2] : List (List zE)).flatten
      refine AW.run hZ hRm [48] 400 ?_
      show AW Z 0 0 48 [some (.ref 0), some (.ref 5), some (.int q13)] [.int q13] ([kTape 0 (Tape_at_s v0 q15), kTown 5 13 v1, kLaws 13 v2] : List (List zE)).flatten
      cases hf
      exact AW.iret hZ hE rfl rfl rfl rfl (Nat.le_refl 0) (Nat.le_refl 0) rfl ⟨rfl, rfl⟩
    · rw [if_pos c14] at hf
      obtain ⟨q17, h22, hf⟩ := zbind hf
      refine AW.callVc hZ hR hN (c_Tape_isName N v0 q17 h22) zMX7_isName_ok rfl rfl zK_BorrowedLives_Tape_96 zV_X7_isName rfl [5, 8, 6] [0] [0, 1, 2, 3, 4] rfl rfl rfl (by decide) (by decide) (by omega) (by decide) (Nat.zero_le _) (Nat.zero_le _) rfl rfl rfl rfl rfl ?_
      rintro v cc ⟨rfl, rfl⟩
      refine ⟨_, rfl, rfl, ?_⟩
      show AW Z 0 0 30 [some (.ref 0), some (.ref 5), some (.int q13)] [.int q17, .ref 0] ([kTape 0 v0, kTown 5 13 v1, kLaws 13 v2] : List (List zE)).flatten
      suffices H18 : AW Z 0 0 38 [none, none, none] [.int (if (q17 = 0) then 1 else 2), .ref 0] ([kTape 0 v0, kTown 5 13 v1, kLaws 13 v2] : List (List zE)).flatten from by
        refine AW.run hZ hRm [38] 400 ?_
        show (((q17 = 0) → AW Z 0 0 38 [some (.ref 0), some (.ref 5), some (.int q13)] [.int 1, .ref 0] ([kTape 0 v0, kTown 5 13 v1, kLaws 13 v2] : List (List zE)).flatten) ∧ (¬ (q17 = 0) → AW Z 0 0 38 [some (.ref 0), some (.ref 5), some (.int q13)] [.int 2, .ref 0] ([kTape 0 v0, kTown 5 13 v1, kLaws 13 v2] : List (List zE)).flatten))
        refine ⟨fun c19 => ?_, fun c19 => ?_⟩
        · refine AW.forget [false, false, false] ?_
          show AW Z 0 0 38 [none, none, none] [.int 1, .ref 0] ([kTape 0 v0, kTown 5 13 v1, kLaws 13 v2] : List (List zE)).flatten
          simpa only [if_pos c19] using H18
        · refine AW.forget [false, false, false] ?_
          show AW Z 0 0 38 [none, none, none] [.int 2, .ref 0] ([kTape 0 v0, kTown 5 13 v1, kLaws 13 v2] : List (List zE)).flatten
          simpa only [if_neg c19] using H18
      obtain ⟨q20, h21, hf⟩ := zbind hf
      refine AW.callVc hZ hR hN (c_Tape_wrong N v0 (if (q17 = 0) then 1 else 2) q20 h21) zMX7_wrong_ok rfl rfl zK_BorrowedLives_Tape_88 zV_X7_wrong rfl [5, 8, 6] [0] [0, 1, 2, 3, 4] rfl rfl rfl (by decide) (by decide) (by omega) (by decide) (Nat.zero_le _) (Nat.zero_le _) rfl rfl rfl rfl rfl ?_
      rintro v cc ⟨rfl, rfl⟩
      refine ⟨_, rfl, rfl, ?_⟩
      show AW Z 0 0 41 [none, none, none] [] ([kTape 0 (Tape_fault_s v0 q20), kTown 5 13 v1, kLaws 13 v2] : List (List zE)).flatten
      refine AW.run hZ hRm [42] 400 ?_
      show AW Z 0 0 42 [none, none, none] [.int (-1)] ([kTape 0 (Tape_fault_s v0 q20), kTown 5 13 v1, kLaws 13 v2] : List (List zE)).flatten
      cases hf
      exact AW.iret hZ hE rfl rfl rfl rfl (Nat.le_refl 0) (Nat.le_refl 0) rfl ⟨rfl, rfl⟩
def f_Town_clear (N : Nat) (v0 : VTown) (v1 : VLaws) : Option (Int32 × (Nat → Int32) × Int32 × Int32 × Int32 × Int32 × (Nat → Int32) × (Nat → Int32)) := ((f_Arr_fill N 6 (Town_barred v0) 0).bind (fun q1 => ((f_Laws_clear N v1).bind (fun q2 => (some (0, q1, 0, 50, 0, q2.1, q2.2.1, q2.2.2))))))
set_option maxRecDepth 20000 in
set_option maxHeartbeats 4000000 in
theorem c_Town_clear (N : Nat) (v0 : VTown) (v1 : VLaws) (R : Int32 × (Nat → Int32) × Int32 × Int32 × Int32 × Int32 × (Nat → Int32) × (Nat → Int32)) (hf : f_Town_clear N v0 v1 = some R) : Ct zMX8_clear 11 0 0 0 [.ref 0] ([kTown 0 8 v0, kLaws 8 v1] : List (List zE)).flatten (fun v cc => v = none ∧ cc = ([kTown 0 8 (Town_s_people_barred_bars_sign_signTold v0 R.1 R.2.1 R.2.2.1 R.2.2.2.1 R.2.2.2.2.1), kLaws 8 (Laws_s_size_from_to v1 R.2.2.2.2.2.1 R.2.2.2.2.2.2.1 R.2.2.2.2.2.2.2)] : List (List zE)).flatten) := by
  refine Ct.of zMX8_clear_ok (by decide) (Nat.le_of_ble_eq_true rfl) ?_
  intro Z hZ hR hN hE
  have hRm : zRoom Z 0 0 := zRoom0 Z
  unfold f_Town_clear at hf
  show AW Z 0 0 0 [some (.ref 0)] [] ([kTown 0 8 v0, kLaws 8 v1] : List (List zE)).flatten
  refine AW.run hZ hRm [10] 400 ?_
  show AW Z 0 0 10 [some (.ref 0)] [.int 0, .ref 7] ([kTown 0 8 (Town_people_s v0 0), kLaws 8 v1] : List (List zE)).flatten
  obtain ⟨q1, h4, hf⟩ := zbind hf
  refine AW.callS hZ hR hN (c_Arr_fill N 6 (Town_barred v0) 0 q1 h4) zMJ7_fill_53178_ok rfl rfl zK_BorrowedLives_Town_55 zV_J7_fill_53178 rfl [7] rfl (by decide) (Or.inl rfl) (by decide) (by omega) (by decide) (Nat.zero_le _) (Nat.zero_le _) rfl rfl ?_
  rintro v cc ⟨rfl, rfl⟩ -
  show AW Z 0 0 13 [some (.ref 0)] [] ([kTown 0 8 (Town_s_people_barred v0 0 q1), kLaws 8 v1] : List (List zE)).flatten
  refine AW.run hZ hRm [33] 400 ?_
  show (((0 : Int32) = 0 ∨ (0 : Int32) = 1) ∧ AW Z 0 0 33 [some (.ref 0)] [.ref 8] ([kTown 0 8 (Town_s_people_barred_bars_sign_signTold v0 0 q1 0 50 0), kLaws 8 v1] : List (List zE)).flatten)
  refine ⟨(by decide), ?_⟩
  obtain ⟨q2, h3, hf⟩ := zbind hf
  refine AW.callVc hZ hR hN (c_Laws_clear N v1 q2 h3) zMX2_clear_ok rfl rfl zK_BorrowedLives_Town_61 zV_X2_clear rfl [8, 6] [1] [8, 9, 10, 11, 12, 13] rfl rfl rfl (by decide) (by decide) (by omega) (by decide) (Nat.zero_le _) (Nat.zero_le _) rfl rfl rfl rfl rfl ?_
  rintro v cc ⟨rfl, rfl⟩
  refine ⟨_, rfl, rfl, ?_⟩
  show AW Z 0 0 36 [some (.ref 0)] [] ([kTown 0 8 (Town_s_people_barred_bars_sign_signTold v0 0 q1 0 50 0), kLaws 8 (Laws_s_size_from_to v1 q2.1 q2.2.1 q2.2.2)] : List (List zE)).flatten
  cases hf
  exact AW.vret hZ hE rfl rfl rfl (Nat.le_refl 0) (Nat.le_refl 0) rfl ⟨rfl, rfl⟩
def f_Town_copyFrom (N : Nat) (v0 : VTown) (v1 : VLaws) (v2 : VTown) (v3 : VLaws) : Option (Int32 × (Nat → Int64) × (Nat → Int32) × (Nat → Int32) × (Nat → Int32) × (Nat → Int32) × (Nat → Int32) × (Nat → Int32) × Int32 × Int32 × Int32 × (Nat → Int32) × Int32 × (Nat → Int32) × (Nat → Int32)) := (if ((Town_signTold v2) = 0 ∨ (Town_signTold v2) = 1) then ((f_Laws_copyFrom N v1 v3).bind (fun q1 => (zlet ((va_cpy (Town_barred v2) (Town_barred v0) (Int32.toNatClampNeg 0) (Int32.toNatClampNeg 0) (Int32.toNatClampNeg 6)) : (Nat → Int32)) (fun z2 => (zlet ((va_cpy (Town_debts v2) (Town_debts v0) (Int32.toNatClampNeg 0) (Int32.toNatClampNeg 0) (Int32.toNatClampNeg 6)) : (Nat → Int32)) (fun z3 => (zlet ((va_cpy (Town_homes v2) (Town_homes v0) (Int32.toNatClampNeg 0) (Int32.toNatClampNeg 0) (Int32.toNatClampNeg 6)) : (Nat → Int32)) (fun z4 => (zlet ((va_cpy (Town_kinds v2) (Town_kinds v0) (Int32.toNatClampNeg 0) (Int32.toNatClampNeg 0) (Int32.toNatClampNeg 6)) : (Nat → Int32)) (fun z5 => (zlet ((va_cpy (Town_names v2) (Town_names v0) (Int32.toNatClampNeg 0) (Int32.toNatClampNeg 0) (Int32.toNatClampNeg 6)) : (Nat → Int64)) (fun z6 => (zlet ((va_cpy (Town_purses v2) (Town_purses v0) (Int32.toNatClampNeg 0) (Int32.toNatClampNeg 0) (Int32.toNatClampNeg 6)) : (Nat → Int32)) (fun z7 => (zlet ((va_cpy (Town_skills v2) (Town_skills v0) (Int32.toNatClampNeg 0) (Int32.toNatClampNeg 0) (Int32.toNatClampNeg 6)) : (Nat → Int32)) (fun z8 => (some ((Town_people v2), z6, z5, z8, z7, z3, z4, z2, (Town_bars v2), (Town_sign v2), (Town_signTold v2), q1.1, q1.2.1, q1.2.2.1, q1.2.2.2)))))))))))))))))) else none)
set_option maxRecDepth 20000 in
set_option maxHeartbeats 4000000 in
theorem c_Town_copyFrom (N : Nat) (v0 : VTown) (v1 : VLaws) (v2 : VTown) (v3 : VLaws) (R : Int32 × (Nat → Int64) × (Nat → Int32) × (Nat → Int32) × (Nat → Int32) × (Nat → Int32) × (Nat → Int32) × (Nat → Int32) × Int32 × Int32 × Int32 × (Nat → Int32) × Int32 × (Nat → Int32) × (Nat → Int32)) (hf : f_Town_copyFrom N v0 v1 v2 v3 = some R) : Ct zMX8_copyFrom 3 0 0 0 [.ref 0, .ref 14] ([kTown 0 8 v0, kLaws 8 v1, kTown 14 22 v2, kLaws 22 v3] : List (List zE)).flatten (fun v cc => v = none ∧ cc = ([kTown 0 8 (Town_s_people_names_kinds_skills_purses_debts_homes_barred_bars_sign_signTold v0 R.1 R.2.1 R.2.2.1 R.2.2.2.1 R.2.2.2.2.1 R.2.2.2.2.2.1 R.2.2.2.2.2.2.1 R.2.2.2.2.2.2.2.1 R.2.2.2.2.2.2.2.2.1 R.2.2.2.2.2.2.2.2.2.1 R.2.2.2.2.2.2.2.2.2.2.1), kLaws 8 (Laws_s_codes_size_from_to v1 R.2.2.2.2.2.2.2.2.2.2.2.1 R.2.2.2.2.2.2.2.2.2.2.2.2.1 R.2.2.2.2.2.2.2.2.2.2.2.2.2.1 R.2.2.2.2.2.2.2.2.2.2.2.2.2.2), kTown 14 22 v2, kLaws 22 v3] : List (List zE)).flatten) := by
  refine Ct.of zMX8_copyFrom_ok (by decide) (Nat.le_of_ble_eq_true rfl) ?_
  intro Z hZ hR hN hE
  have hRm : zRoom Z 0 0 := zRoom0 Z
  unfold f_Town_copyFrom at hf
  show AW Z 0 0 0 [some (.ref 0), some (.ref 14)] [] ([kTown 0 8 v0, kLaws 8 v1, kTown 14 22 v2, kLaws 22 v3] : List (List zE)).flatten
  refine AW.run hZ hRm [145] 400 ?_
  show ((zcpyOk 0 0 6 6 6) ∧ ((zcpyOk 0 0 6 6 6) ∧ ((zcpyOk 0 0 6 6 6) ∧ ((zcpyOk 0 0 6 6 6) ∧ ((zcpyOk 0 0 6 6 6) ∧ ((zcpyOk 0 0 6 6 6) ∧ ((zcpyOk 0 0 6 6 6) ∧ (((Town_signTold v2) = 0 ∨ (Town_signTold v2) = 1) ∧ AW Z 0 0 145 [some (.ref 0), some (.ref 14)] [.ref 22, .ref 8] ([kTown 0 8 (Town_s_people_names_kinds_skills_purses_debts_homes_barred_bars_sign_signTold v0 (Town_people v2) (va_cpy (Town_names v2) (Town_names v0) (Int32.toNatClampNeg 0) (Int32.toNatClampNeg 0) (Int32.toNatClampNeg 6)) (va_cpy (Town_kinds v2) (Town_kinds v0) (Int32.toNatClampNeg 0) (Int32.toNatClampNeg 0) (Int32.toNatClampNeg 6)) (va_cpy (Town_skills v2) (Town_skills v0) (Int32.toNatClampNeg 0) (Int32.toNatClampNeg 0) (Int32.toNatClampNeg 6)) (va_cpy (Town_purses v2) (Town_purses v0) (Int32.toNatClampNeg 0) (Int32.toNatClampNeg 0) (Int32.toNatClampNeg 6)) (va_cpy (Town_debts v2) (Town_debts v0) (Int32.toNatClampNeg 0) (Int32.toNatClampNeg 0) (Int32.toNatClampNeg 6)) (va_cpy (Town_homes v2) (Town_homes v0) (Int32.toNatClampNeg 0) (Int32.toNatClampNeg 0) (Int32.toNatClampNeg 6)) (va_cpy (Town_barred v2) (Town_barred v0) (Int32.toNatClampNeg 0) (Int32.toNatClampNeg 0) (Int32.toNatClampNeg 6)) (Town_bars v2) (Town_sign v2) (Town_signTold v2)), kLaws 8 v1, kTown 14 22 v2, kLaws 22 v3] : List (List zE)).flatten))))))))
  refine ⟨(by unfold zcpyOk; decide), ?_⟩
  refine ⟨(by unfold zcpyOk; decide), ?_⟩
  refine ⟨(by unfold zcpyOk; decide), ?_⟩
  refine ⟨(by unfold zcpyOk; decide), ?_⟩
  refine ⟨(by unfold zcpyOk; decide), ?_⟩
  refine ⟨(by unfold zcpyOk; decide), ?_⟩
  refine ⟨(by unfold zcpyOk; decide), ?_⟩
  obtain ⟨b10, hf⟩ := zneedP hf
  refine ⟨b10, ?_⟩
  obtain ⟨q1, h9, hf⟩ := zbind hf
  refine AW.callVc hZ hR hN (c_Laws_copyFrom N v1 v3 q1 h9) zMX2_copyFrom_ok rfl rfl zK_BorrowedLives_Town_70 zV_X2_copyFrom rfl [8, 6, 8, 6] [1, 3] [8, 9, 10, 11, 12, 13, 22, 23, 24, 25, 26, 27] rfl rfl rfl (by decide) (by decide) (by omega) (by decide) (Nat.zero_le _) (Nat.zero_le _) rfl rfl rfl rfl rfl ?_
  rintro v cc ⟨rfl, rfl⟩
  refine ⟨_, rfl, rfl, ?_⟩
  show AW Z 0 0 148 [some (.ref 0), some (.ref 14)] [] ([kTown 0 8 (Town_s_people_names_kinds_skills_purses_debts_homes_barred_bars_sign_signTold v0 (Town_people v2) (va_cpy (Town_names v2) (Town_names v0) (Int32.toNatClampNeg 0) (Int32.toNatClampNeg 0) (Int32.toNatClampNeg 6)) (va_cpy (Town_kinds v2) (Town_kinds v0) (Int32.toNatClampNeg 0) (Int32.toNatClampNeg 0) (Int32.toNatClampNeg 6)) (va_cpy (Town_skills v2) (Town_skills v0) (Int32.toNatClampNeg 0) (Int32.toNatClampNeg 0) (Int32.toNatClampNeg 6)) (va_cpy (Town_purses v2) (Town_purses v0) (Int32.toNatClampNeg 0) (Int32.toNatClampNeg 0) (Int32.toNatClampNeg 6)) (va_cpy (Town_debts v2) (Town_debts v0) (Int32.toNatClampNeg 0) (Int32.toNatClampNeg 0) (Int32.toNatClampNeg 6)) (va_cpy (Town_homes v2) (Town_homes v0) (Int32.toNatClampNeg 0) (Int32.toNatClampNeg 0) (Int32.toNatClampNeg 6)) (va_cpy (Town_barred v2) (Town_barred v0) (Int32.toNatClampNeg 0) (Int32.toNatClampNeg 0) (Int32.toNatClampNeg 6)) (Town_bars v2) (Town_sign v2) (Town_signTold v2)), kLaws 8 (Laws_s_codes_size_from_to v1 q1.1 q1.2.1 q1.2.2.1 q1.2.2.2), kTown 14 22 v2, kLaws 22 v3] : List (List zE)).flatten
  replace hf := zlet_gen hf
  generalize ((va_cpy (Town_barred v2) (Town_barred v0) (Int32.toNatClampNeg 0) (Int32.toNatClampNeg 0) (Int32.toNatClampNeg 6)) : (Nat → Int32)) = z2 at hf ⊢
  replace hf := zlet_gen hf
  generalize ((va_cpy (Town_debts v2) (Town_debts v0) (Int32.toNatClampNeg 0) (Int32.toNatClampNeg 0) (Int32.toNatClampNeg 6)) : (Nat → Int32)) = z3 at hf ⊢
  replace hf := zlet_gen hf
  generalize ((va_cpy (Town_homes v2) (Town_homes v0) (Int32.toNatClampNeg 0) (Int32.toNatClampNeg 0) (Int32.toNatClampNeg 6)) : (Nat → Int32)) = z4 at hf ⊢
  replace hf := zlet_gen hf
  generalize ((va_cpy (Town_kinds v2) (Town_kinds v0) (Int32.toNatClampNeg 0) (Int32.toNatClampNeg 0) (Int32.toNatClampNeg 6)) : (Nat → Int32)) = z5 at hf ⊢
  replace hf := zlet_gen hf
  generalize ((va_cpy (Town_names v2) (Town_names v0) (Int32.toNatClampNeg 0) (Int32.toNatClampNeg 0) (Int32.toNatClampNeg 6)) : (Nat → Int64)) = z6 at hf ⊢
  replace hf := zlet_gen hf
  generalize ((va_cpy (Town_purses v2) (Town_purses v0) (Int32.toNatClampNeg 0) (Int32.toNatClampNeg 0) (Int32.toNatClampNeg 6)) : (Nat → Int32)) = z7 at hf ⊢
  replace hf := zlet_gen hf
  generalize ((va_cpy (Town_skills v2) (Town_skills v0) (Int32.toNatClampNeg 0) (Int32.toNatClampNeg 0) (Int32.toNatClampNeg 6)) : (Nat → Int32)) = z8 at hf ⊢
  cases hf
  exact AW.vret hZ hE rfl rfl rfl (Nat.le_refl 0) (Nat.le_refl 0) rfl ⟨rfl, rfl⟩
def f_Town_addPerson (N : Nat) (v0 : VTown) (v1 : VLaws) (a1 : Int64) (a3 : Int32) (a4 : Int32) : Option (Int32 × Int32 × (Nat → Int64) × (Nat → Int32) × (Nat → Int32)) := (if ((Town_people v0) < 0) then (some ((-1), (Town_people v0), (Town_names v0), (Town_kinds v0), (Town_skills v0))) else (if ((Town_people v0) < 6) then (if ((Town_people v0) < 0 ∨ 6 ≤ Int32.toNatClampNeg (Town_people v0)) then none else (if ((Town_people v0) < 0 ∨ 6 ≤ Int32.toNatClampNeg (Town_people v0)) then none else (if ((Town_people v0) < 0 ∨ 6 ≤ Int32.toNatClampNeg (Town_people v0)) then none else (some ((((Town_people v0) + 1) - 1), ((Town_people v0) + 1), (vp_updL (Town_names v0) (Int32.toNatClampNeg (Town_people v0)) a1), (upd (Town_kinds v0) (Int32.toNatClampNeg (Town_people v0)) a3), (upd (Town_skills v0) (Int32.toNatClampNeg (Town_people v0)) a4)))))) else (some ((-1), (Town_people v0), (Town_names v0), (Town_kinds v0), (Town_skills v0)))))
set_option maxRecDepth 20000 in
set_option maxHeartbeats 4000000 in
theorem c_Town_addPerson (N : Nat) (v0 : VTown) (v1 : VLaws) (a1 : Int64) (a3 : Int32) (a4 : Int32) (R : Int32 × Int32 × (Nat → Int64) × (Nat → Int32) × (Nat → Int32)) (hf : f_Town_addPerson N v0 v1 a1 a3 a4 = some R) : Ct zMX8_addPerson 1 0 0 0 [.ref 0, .long a1, .int a3, .int a4] ([kTown 0 8 v0, kLaws 8 v1] : List (List zE)).flatten (fun v cc => v = some (.int R.1) ∧ cc = ([kTown 0 8 (Town_s_people_names_kinds_skills v0 R.2.1 R.2.2.1 R.2.2.2.1 R.2.2.2.2), kLaws 8 v1] : List (List zE)).flatten) := by
  refine Ct.of zMX8_addPerson_ok (by decide) (Nat.le_of_ble_eq_true rfl) ?_
  intro Z hZ hR hN hE
  have hRm : zRoom Z 0 0 := zRoom0 Z
  unfold f_Town_addPerson at hf
  show AW Z 0 0 0 [some (.ref 0), some (.long a1), none, some (.int a3), some (.int a4)] [] ([kTown 0 8 v0, kLaws 8 v1] : List (List zE)).flatten
  refine AW.run hZ hRm [17, 65] 400 ?_
  show ((((Town_people v0) < 0) → AW Z 0 0 17 [some (.ref 0), some (.long a1), none, some (.int a3), some (.int a4)] [.int (-1)] ([kTown 0 8 v0, kLaws 8 v1] : List (List zE)).flatten) ∧ (¬ ((Town_people v0) < 0) → ((((Town_people v0) < 6) → (¬ ((Town_people v0) < 0 ∨ 6 ≤ Int32.toNatClampNeg (Town_people v0)) ∧ (¬ ((Town_people v0) < 0 ∨ 6 ≤ Int32.toNatClampNeg (Town_people v0)) ∧ (¬ ((Town_people v0) < 0 ∨ 6 ≤ Int32.toNatClampNeg (Town_people v0)) ∧ AW Z 0 0 65 [some (.ref 0), some (.long a1), none, some (.int a3), some (.int a4)] [.int (((Town_people v0) + 1) - 1)] ([kTown 0 8 (Town_s_people_names_kinds_skills v0 ((Town_people v0) + 1) (vp_updL (Town_names v0) (Int32.toNatClampNeg (Town_people v0)) a1) (upd (Town_kinds v0) (Int32.toNatClampNeg (Town_people v0)) a3) (upd (Town_skills v0) (Int32.toNatClampNeg (Town_people v0)) a4)), kLaws 8 v1] : List (List zE)).flatten)))) ∧ (¬ ((Town_people v0) < 6) → AW Z 0 0 17 [some (.ref 0), some (.long a1), none, some (.int a3), some (.int a4)] [.int (-1)] ([kTown 0 8 v0, kLaws 8 v1] : List (List zE)).flatten))))
  refine ⟨fun c1 => ?_, fun c1 => ?_⟩
  · rw [if_pos c1] at hf
    cases hf
    exact AW.iret hZ hE rfl rfl rfl rfl (Nat.le_refl 0) (Nat.le_refl 0) rfl ⟨rfl, rfl⟩
  · rw [if_neg c1] at hf
    refine ⟨fun c2 => ?_, fun c2 => ?_⟩
    · rw [if_pos c2] at hf
      obtain ⟨b5, hf⟩ := zneed hf
      refine ⟨b5, ?_⟩
      obtain ⟨b4, hf⟩ := zneed hf
      refine ⟨b4, ?_⟩
      obtain ⟨b3, hf⟩ := zneed hf
      refine ⟨b3, ?_⟩
      cases hf
      exact AW.iret hZ hE rfl rfl rfl rfl (Nat.le_refl 0) (Nat.le_refl 0) rfl ⟨rfl, rfl⟩
    · rw [if_neg c2] at hf
      cases hf
      exact AW.iret hZ hE rfl rfl rfl rfl (Nat.le_refl 0) (Nat.le_refl 0) rfl ⟨rfl, rfl⟩
def f_Town_addBar (N : Nat) (v0 : VTown) (v1 : VLaws) (a1 : Int32) (a2 : Int32) : Option ((Nat → Int32) × Int32) := ((f_Town_has N v0 v1 a1).bind (fun q1 => (if (q1 = 0) then (some ((Town_barred v0), (Town_bars v0))) else ((f_Town_has N v0 v1 a2).bind (fun q3 => (if (q3 = 0) then (some ((Town_barred v0), (Town_bars v0))) else (if (a1 < 0 ∨ 6 ≤ Int32.toNatClampNeg a1) then none else (if (a1 < 0 ∨ 6 ≤ Int32.toNatClampNeg a1) then none else (some ((upd (Town_barred v0) (Int32.toNatClampNeg a1) (((Town_barred v0) (Int32.toNatClampNeg a1)) ||| (1 <<< (a2 &&& 31)))), ((Town_bars v0) + 1)))))))))))
set_option maxRecDepth 20000 in
set_option maxHeartbeats 4000000 in
theorem c_Town_addBar (N : Nat) (v0 : VTown) (v1 : VLaws) (a1 : Int32) (a2 : Int32) (R : (Nat → Int32) × Int32) (hf : f_Town_addBar N v0 v1 a1 a2 = some R) : Ct zMX8_addBar 2 0 0 0 [.ref 0, .int a1, .int a2] ([kTown 0 8 v0, kLaws 8 v1] : List (List zE)).flatten (fun v cc => v = none ∧ cc = ([kTown 0 8 (Town_s_barred_bars v0 R.1 R.2), kLaws 8 v1] : List (List zE)).flatten) := by
  refine Ct.of zMX8_addBar_ok (by decide) (Nat.le_of_ble_eq_true rfl) ?_
  intro Z hZ hR hN hE
  have hRm : zRoom Z 0 0 := zRoom0 Z
  unfold f_Town_addBar at hf
  show AW Z 0 0 0 [some (.ref 0), some (.int a1), some (.int a2)] [] ([kTown 0 8 v0, kLaws 8 v1] : List (List zE)).flatten
  refine AW.run hZ hRm [2] 400 ?_
  show AW Z 0 0 2 [some (.ref 0), some (.int a1), some (.int a2)] [.int a1, .ref 0] ([kTown 0 8 v0, kLaws 8 v1] : List (List zE)).flatten
  obtain ⟨q1, h8, hf⟩ := zbind hf
  refine AW.callVc hZ hR hN (c_Town_has N v0 v1 a1 q1 h8) zMX8_has_ok rfl rfl zK_BorrowedLives_Town_74 zV_X8_has rfl [8, 6] [0, 1] [0, 1, 2, 3, 4, 5, 6, 7, 8, 9, 10, 11, 12, 13] rfl rfl rfl (by decide) (by decide) (by omega) (by decide) (Nat.zero_le _) (Nat.zero_le _) rfl rfl rfl rfl rfl ?_
  rintro v cc ⟨rfl, rfl⟩
  refine ⟨_, rfl, rfl, ?_⟩
  show AW Z 0 0 5 [some (.ref 0), some (.int a1), some (.int a2)] [.int q1] ([kTown 0 8 v0, kLaws 8 v1] : List (List zE)).flatten
  refine AW.run hZ hRm [10, 38] 400 ?_
  show (((q1 = 0) → AW Z 0 0 38 [some (.ref 0), some (.int a1), some (.int a2)] [] ([kTown 0 8 v0, kLaws 8 v1] : List (List zE)).flatten) ∧ (¬ (q1 = 0) → AW Z 0 0 10 [some (.ref 0), some (.int a1), some (.int a2)] [.int a2, .ref 0] ([kTown 0 8 v0, kLaws 8 v1] : List (List zE)).flatten))
  refine ⟨fun c2 => ?_, fun c2 => ?_⟩
  · rw [if_pos c2] at hf
    cases hf
    exact AW.vret hZ hE rfl rfl rfl (Nat.le_refl 0) (Nat.le_refl 0) rfl ⟨rfl, rfl⟩
  · rw [if_neg c2] at hf
    obtain ⟨q3, h7, hf⟩ := zbind hf
    refine AW.callVc hZ hR hN (c_Town_has N v0 v1 a2 q3 h7) zMX8_has_ok rfl rfl zK_BorrowedLives_Town_74 zV_X8_has rfl [8, 6] [0, 1] [0, 1, 2, 3, 4, 5, 6, 7, 8, 9, 10, 11, 12, 13] rfl rfl rfl (by decide) (by decide) (by omega) (by decide) (Nat.zero_le _) (Nat.zero_le _) rfl rfl rfl rfl rfl ?_
    rintro v cc ⟨rfl, rfl⟩
    refine ⟨_, rfl, rfl, ?_⟩
    show AW Z 0 0 13 [some (.ref 0), some (.int a1), some (.int a2)] [.int q3] ([kTown 0 8 v0, kLaws 8 v1] : List (List zE)).flatten
    refine AW.run hZ hRm [38] 400 ?_
    show (((q3 = 0) → AW Z 0 0 38 [some (.ref 0), some (.int a1), some (.int a2)] [] ([kTown 0 8 v0, kLaws 8 v1] : List (List zE)).flatten) ∧ (¬ (q3 = 0) → (¬ (a1 < 0 ∨ 6 ≤ Int32.toNatClampNeg a1) ∧ (¬ (a1 < 0 ∨ 6 ≤ Int32.toNatClampNeg a1) ∧ AW Z 0 0 38 [some (.ref 0), some (.int a1), some (.int a2)] [] ([kTown 0 8 (Town_s_barred_bars v0 (upd (Town_barred v0) (Int32.toNatClampNeg a1) (((Town_barred v0) (Int32.toNatClampNeg a1)) ||| (1 <<< (a2 &&& 31)))) ((Town_bars v0) + 1)), kLaws 8 v1] : List (List zE)).flatten))))
    refine ⟨fun c4 => ?_, fun c4 => ?_⟩
    · rw [if_pos c4] at hf
      cases hf
      exact AW.vret hZ hE rfl rfl rfl (Nat.le_refl 0) (Nat.le_refl 0) rfl ⟨rfl, rfl⟩
    · rw [if_neg c4] at hf
      obtain ⟨b6, hf⟩ := zneed hf
      refine ⟨b6, ?_⟩
      obtain ⟨b5, hf⟩ := zneed hf
      refine ⟨b5, ?_⟩
      cases hf
      exact AW.vret hZ hE rfl rfl rfl (Nat.le_refl 0) (Nat.le_refl 0) rfl ⟨rfl, rfl⟩
def f_Reader_readNewName (N : Nat) (v0 : VReader) (v1 : VTape) (v2 : VTown) (v3 : VLaws) : Option (Int64 × Int32 × Int32) := ((f_Tape_value N v1).bind (fun q1 => ((f_Tape_isName N v1).bind (fun q2 => (if (q2 = 0) then ((f_Tape_wrong N v1 1).bind (fun q13 => ((f_Tape_advance N (Tape_fault_s v1 q13)).bind (fun q14 => (some (q1, q14, q13)))))) else ((f_Town_named N v2 v3 q1).bind (fun q4 => (if (q4 = (-1)) then ((f_Tape_advance N v1).bind (fun q6 => (some (q1, q6, (Tape_fault v1))))) else ((f_Tape_wrong N v1 3).bind (fun q8 => ((f_Tape_advance N (Tape_fault_s v1 q8)).bind (fun q9 => (some (q1, q9, q8))))))))))))))
set_option maxRecDepth 20000 in
set_option maxHeartbeats 4000000 in
theorem c_Reader_readNewName (N : Nat) (v0 : VReader) (v1 : VTape) (v2 : VTown) (v3 : VLaws) (R : Int64 × Int32 × Int32) (hf : f_Reader_readNewName N v0 v1 v2 v3 = some R) : Ct zMX9_readNewName 3 0 0 0 [.ref 0] ([kReader 0 1 6 v0, kTape 1 v1, kTown 6 14 v2, kLaws 14 v3] : List (List zE)).flatten (fun v cc => v = some (.long R.1) ∧ cc = ([kReader 0 1 6 v0, kTape 1 (Tape_s_at_fault v1 R.2.1 R.2.2), kTown 6 14 v2, kLaws 14 v3] : List (List zE)).flatten) := by
  refine Ct.of zMX9_readNewName_ok (by decide) (Nat.le_of_ble_eq_true rfl) ?_
  intro Z hZ hR hN hE
  have hRm : zRoom Z 0 0 := zRoom0 Z
  unfold f_Reader_readNewName at hf
  show AW Z 0 0 0 [some (.ref 0), none, none] [] ([kReader 0 1 6 v0, kTape 1 v1, kTown 6 14 v2, kLaws 14 v3] : List (List zE)).flatten
  refine AW.run hZ hRm [4] 400 ?_
  show AW Z 0 0 4 [some (.ref 0), none, none] [.ref 1] ([kReader 0 1 6 v0, kTape 1 v1, kTown 6 14 v2, kLaws 14 v3] : List (List zE)).flatten
  obtain ⟨q1, h18, hf⟩ := zbind hf
  refine AW.callVc hZ hR hN (c_Tape_value N v1 q1 h18) zMX7_value_ok rfl rfl zK_BorrowedLives_TownReader_104 zV_X7_value rfl [1, 5, 8, 6] [1] [1, 2, 3, 4, 5] rfl rfl rfl (by decide) (by decide) (by omega) (by decide) (Nat.zero_le _) (Nat.zero_le _) rfl rfl rfl rfl rfl ?_
  rintro v cc ⟨rfl, rfl⟩
  refine ⟨_, rfl, rfl, ?_⟩
  show AW Z 0 0 7 [some (.ref 0), none, none] [.long q1] ([kReader 0 1 6 v0, kTape 1 v1, kTown 6 14 v2, kLaws 14 v3] : List (List zE)).flatten
  refine AW.run hZ hRm [12] 400 ?_
  show AW Z 0 0 12 [some (.ref 0), some (.long q1), none] [.ref 1] ([kReader 0 1 6 v0, kTape 1 v1, kTown 6 14 v2, kLaws 14 v3] : List (List zE)).flatten
  obtain ⟨q2, h17, hf⟩ := zbind hf
  refine AW.callVc hZ hR hN (c_Tape_isName N v1 q2 h17) zMX7_isName_ok rfl rfl zK_BorrowedLives_TownReader_107 zV_X7_isName rfl [1, 5, 8, 6] [1] [1, 2, 3, 4, 5] rfl rfl rfl (by decide) (by decide) (by omega) (by decide) (Nat.zero_le _) (Nat.zero_le _) rfl rfl rfl rfl rfl ?_
  rintro v cc ⟨rfl, rfl⟩
  refine ⟨_, rfl, rfl, ?_⟩
  show AW Z 0 0 15 [some (.ref 0), some (.long q1), none] [.int q2] ([kReader 0 1 6 v0, kTape 1 v1, kTown 6 14 v2, kLaws 14 v3] : List (List zE)).flatten
  refine AW.run hZ hRm [23, 34] 400 ?_
  show ((¬ (q2 = 0) → AW Z 0 0 34 [some (.ref 0), some (.long q1), none] [.long q1, .ref 6] ([kReader 0 1 6 v0, kTape 1 v1, kTown 6 14 v2, kLaws 14 v3] : List (List zE)).flatten) ∧ ((q2 = 0) → AW Z 0 0 23 [some (.ref 0), some (.long q1), none] [.int 1, .ref 1] ([kReader 0 1 6 v0, kTape 1 v1, kTown 6 14 v2, kLaws 14 v3] : List (List zE)).flatten))
  refine ⟨fun c3 => ?_, fun c3 => ?_⟩
  · rw [if_neg c3] at hf
    obtain ⟨q4, h12, hf⟩ := zbind hf
    refine AW.callVc hZ hR hN (c_Town_named N v2 v3 q1 q4 h12) zMX8_named_ok rfl rfl zK_BorrowedLives_TownReader_110 zV_X8_named rfl [1, 5, 8, 6] [2, 3] [6, 7, 8, 9, 10, 11, 12, 13, 14, 15, 16, 17, 18, 19] rfl rfl rfl (by decide) (by decide) (by omega) (by decide) (Nat.zero_le _) (Nat.zero_le _) rfl rfl rfl rfl rfl ?_
    rintro v cc ⟨rfl, rfl⟩
    refine ⟨_, rfl, rfl, ?_⟩
    show AW Z 0 0 37 [some (.ref 0), some (.long q1), none] [.int q4] ([kReader 0 1 6 v0, kTape 1 v1, kTown 6 14 v2, kLaws 14 v3] : List (List zE)).flatten
    refine AW.run hZ hRm [46, 53] 400 ?_
    show (((q4 = (-1)) → AW Z 0 0 53 [some (.ref 0), some (.long q1), none] [.ref 1] ([kReader 0 1 6 v0, kTape 1 v1, kTown 6 14 v2, kLaws 14 v3] : List (List zE)).flatten) ∧ (¬ (q4 = (-1)) → AW Z 0 0 46 [some (.ref 0), some (.long q1), none] [.int 3, .ref 1] ([kReader 0 1 6 v0, kTape 1 v1, kTown 6 14 v2, kLaws 14 v3] : List (List zE)).flatten))
    refine ⟨fun c5 => ?_, fun c5 => ?_⟩
    · rw [if_pos c5] at hf
      obtain ⟨q6, h7, hf⟩ := zbind hf
      refine AW.callVc hZ hR hN (c_Tape_advance N v1 q6 h7) zMX7_advance_ok rfl rfl zK_BorrowedLives_TownReader_72 zV_X7_advance rfl [1, 5, 8, 6] [1] [1, 2, 3, 4, 5] rfl rfl rfl (by decide) (by decide) (by omega) (by decide) (Nat.zero_le _) (Nat.zero_le _) rfl rfl rfl rfl rfl ?_
      rintro v cc ⟨rfl, rfl⟩
      refine ⟨_, rfl, rfl, ?_⟩
      show AW Z 0 0 56 [some (.ref 0), some (.long q1), none] [] ([kReader 0 1 6 v0, kTape 1 (Tape_at_s v1 q6), kTown 6 14 v2, kLaws 14 v3] : List (List zE)).flatten
      refine AW.run hZ hRm [57] 400 ?_
      show AW Z 0 0 57 [some (.ref 0), some (.long q1), none] [.long q1] ([kReader 0 1 6 v0, kTape 1 (Tape_at_s v1 q6), kTown 6 14 v2, kLaws 14 v3] : List (List zE)).flatten
      cases hf
      exact AW.lret hZ hE rfl rfl rfl (Nat.le_refl 0) (Nat.le_refl 0) rfl ⟨rfl, rfl⟩
    · rw [if_neg c5] at hf
      obtain ⟨q8, h11, hf⟩ := zbind hf
      refine AW.callVc hZ hR hN (c_Tape_wrong N v1 3 q8 h11) zMX7_wrong_ok rfl rfl zK_BorrowedLives_TownReader_63 zV_X7_wrong rfl [1, 5, 8, 6] [1] [1, 2, 3, 4, 5] rfl rfl rfl (by decide) (by decide) (by omega) (by decide) (Nat.zero_le _) (Nat.zero_le _) rfl rfl rfl rfl rfl ?_
      rintro v cc ⟨rfl, rfl⟩
      refine ⟨_, rfl, rfl, ?_⟩
      show AW Z 0 0 49 [some (.ref 0), some (.long q1), none] [] ([kReader 0 1 6 v0, kTape 1 (Tape_fault_s v1 q8), kTown 6 14 v2, kLaws 14 v3] : List (List zE)).flatten
      refine AW.run hZ hRm [53] 400 ?_
      show AW Z 0 0 53 [some (.ref 0), some (.long q1), none] [.ref 1] ([kReader 0 1 6 v0, kTape 1 (Tape_fault_s v1 q8), kTown 6 14 v2, kLaws 14 v3] : List (List zE)).flatten
      obtain ⟨q9, h10, hf⟩ := zbind hf
      refine AW.callVc hZ hR hN (c_Tape_advance N (Tape_fault_s v1 q8) q9 h10) zMX7_advance_ok rfl rfl zK_BorrowedLives_TownReader_72 zV_X7_advance rfl [1, 5, 8, 6] [1] [1, 2, 3, 4, 5] rfl rfl rfl (by decide) (by decide) (by omega) (by decide) (Nat.zero_le _) (Nat.zero_le _) rfl rfl rfl rfl rfl ?_
      rintro v cc ⟨rfl, rfl⟩
      refine ⟨_, rfl, rfl, ?_⟩
      show AW Z 0 0 56 [some (.ref 0), some (.long q1), none] [] ([kReader 0 1 6 v0, kTape 1 (Tape_s_at_fault v1 q9 q8), kTown 6 14 v2, kLaws 14 v3] : List (List zE)).flatten
      refine AW.run hZ hRm [57] 400 ?_
      show AW Z 0 0 57 [some (.ref 0), some (.long q1), none] [.long q1] ([kReader 0 1 6 v0, kTape 1 (Tape_s_at_fault v1 q9 q8), kTown 6 14 v2, kLaws 14 v3] : List (List zE)).flatten
      cases hf
      exact AW.lret hZ hE rfl rfl rfl (Nat.le_refl 0) (Nat.le_refl 0) rfl ⟨rfl, rfl⟩
  · rw [if_pos c3] at hf
    obtain ⟨q13, h16, hf⟩ := zbind hf
    refine AW.callVc hZ hR hN (c_Tape_wrong N v1 1 q13 h16) zMX7_wrong_ok rfl rfl zK_BorrowedLives_TownReader_63 zV_X7_wrong rfl [1, 5, 8, 6] [1] [1, 2, 3, 4, 5] rfl rfl rfl (by decide) (by decide) (by omega) (by decide) (Nat.zero_le _) (Nat.zero_le _) rfl rfl rfl rfl rfl ?_
    rintro v cc ⟨rfl, rfl⟩
    refine ⟨_, rfl, rfl, ?_⟩
    show AW Z 0 0 26 [some (.ref 0), some (.long q1), none] [] ([kReader 0 1 6 v0, kTape 1 (Tape_fault_s v1 q13), kTown 6 14 v2, kLaws 14 v3] : List (List zE)).flatten
    refine AW.run hZ hRm [53] 400 ?_
    show AW Z 0 0 53 [some (.ref 0), some (.long q1), none] [.ref 1] ([kReader 0 1 6 v0, kTape 1 (Tape_fault_s v1 q13), kTown 6 14 v2, kLaws 14 v3] : List (List zE)).flatten
    obtain ⟨q14, h15, hf⟩ := zbind hf
    refine AW.callVc hZ hR hN (c_Tape_advance N (Tape_fault_s v1 q13) q14 h15) zMX7_advance_ok rfl rfl zK_BorrowedLives_TownReader_72 zV_X7_advance rfl [1, 5, 8, 6] [1] [1, 2, 3, 4, 5] rfl rfl rfl (by decide) (by decide) (by omega) (by decide) (Nat.zero_le _) (Nat.zero_le _) rfl rfl rfl rfl rfl ?_
    rintro v cc ⟨rfl, rfl⟩
    refine ⟨_, rfl, rfl, ?_⟩
    show AW Z 0 0 56 [some (.ref 0), some (.long q1), none] [] ([kReader 0 1 6 v0, kTape 1 (Tape_s_at_fault v1 q14 q13), kTown 6 14 v2, kLaws 14 v3] : List (List zE)).flatten
    refine AW.run hZ hRm [57] 400 ?_
    show AW Z 0 0 57 [some (.ref 0), some (.long q1), none] [.long q1] ([kReader 0 1 6 v0, kTape 1 (Tape_s_at_fault v1 q14 q13), kTown 6 14 v2, kLaws 14 v3] : List (List zE)).flatten
    cases hf
    exact AW.lret hZ hE rfl rfl rfl (Nat.le_refl 0) (Nat.le_refl 0) rfl ⟨rfl, rfl⟩
