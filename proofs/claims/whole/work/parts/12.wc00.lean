def f_Deeds_rowsOf_L4 (N : Nat) : Nat → Int32 → Int32 → Int32 → Option (Int32)
  | 0, _, _, _ => none
  | fuel + 1, y0, x1, x2 => (if (y0 ≤ x2) then (some x1) else (if (7 ≤ x2) then (some x1) else (f_Deeds_rowsOf_L4 N fuel y0 (x1 * 3) (x2 + 1))))
def f_Deeds_rowsOf (N : Nat) (a0 : Int32) : Option (Int32) := ((f_Deeds_rowsOf_L4 N N a0 1 0).bind (fun q3 => (some q3)))
set_option maxRecDepth 20000 in
set_option maxHeartbeats 4000000 in
theorem c_Deeds_rowsOf_L4 {Z : zCtx} {D n0w nf mcw msw : Nat} (hZ : zOk Z zMX0_rowsOf) (hR : zCan Z D mcw msw) (hDd : 1 ≤ D) (hN : zNew Z n0w nf) (hRm : zRoom Z 0 0) (N : Nat) : ∀ (fuel : Nat) (y0 : Int32) (x1 : Int32) (x2 : Int32) (q : (Int32)), f_Deeds_rowsOf_L4 N fuel y0 x1 x2 = some q → (AW Z 0 0 25 [none, some (.int q), none] [] ([] : List (List zE)).flatten) → AW Z 0 0 4 [some (.int y0), some (.int x1), some (.int x2)] [] ([] : List (List zE)).flatten := by
  intro fuel
  induction fuel with
  | zero =>
    intro y0 x1 x2 q hf hk0
    simp [f_Deeds_rowsOf_L4] at hf
  | succ fuel ih =>
    intro y0 x1 x2 q hf hk0
    rw [f_Deeds_rowsOf_L4] at hf
    refine AW.run hZ hRm [4, 25] 400 ?_
    show (((y0 ≤ x2) → AW Z 0 0 25 [some (.int y0), some (.int x1), some (.int x2)] [] ([] : List (List zE)).flatten) ∧ (¬ (y0 ≤ x2) → (((7 ≤ x2) → AW Z 0 0 25 [some (.int y0), some (.int x1), some (.int x2)] [] ([] : List (List zE)).flatten) ∧ (¬ (7 ≤ x2) → AW Z 0 0 4 [some (.int y0), some (.int (x1 * 3)), some (.int (x2 + 1))] [] ([] : List (List zE)).flatten))))
    refine ⟨fun c1 => ?_, fun c1 => ?_⟩
    · rw [if_pos c1] at hf
      cases hf
      refine AW.forget [false, true, false] ?_
      show AW Z 0 0 25 [none, some (.int x1), none] [] ([] : List (List zE)).flatten
      exact hk0
    · rw [if_neg c1] at hf
      refine ⟨fun c2 => ?_, fun c2 => ?_⟩
      · rw [if_pos c2] at hf
        cases hf
        refine AW.forget [false, true, false] ?_
        show AW Z 0 0 25 [none, some (.int x1), none] [] ([] : List (List zE)).flatten
        exact hk0
      · rw [if_neg c2] at hf
        exact ih y0 (x1 * 3) (x2 + 1) q hf hk0
set_option maxRecDepth 20000 in
set_option maxHeartbeats 4000000 in
theorem c_Deeds_rowsOf (N : Nat) (a0 : Int32) (R : Int32) (hf : f_Deeds_rowsOf N a0 = some R) : Ct zMX0_rowsOf 1 0 0 0 [.int a0] ([] : List (List zE)).flatten (fun v cc => v = some (.int R) ∧ cc = ([] : List (List zE)).flatten) := by
  refine Ct.of zMX0_rowsOf_ok (by decide) (Nat.le_of_ble_eq_true rfl) ?_
  intro Z hZ hR hN hE
  have hRm : zRoom Z 0 0 := zRoom0 Z
  unfold f_Deeds_rowsOf at hf
  show AW Z 0 0 0 [some (.int a0), none, none] [] ([] : List (List zE)).flatten
  refine AW.run hZ hRm [4] 400 ?_
  show AW Z 0 0 4 [some (.int a0), some (.int 1), some (.int 0)] [] ([] : List (List zE)).flatten
  obtain ⟨q3, h4, hf⟩ := zbind hf
  refine c_Deeds_rowsOf_L4 hZ hR (by omega) hN hRm N N a0 1 0 q3 h4 ?_
  show AW Z 0 0 25 [none, some (.int q3), none] [] ([] : List (List zE)).flatten
  refine AW.run hZ hRm [26] 400 ?_
  show AW Z 0 0 26 [none, some (.int q3), none] [.int q3] ([] : List (List zE)).flatten
  cases hf
  exact AW.iret hZ hE rfl rfl rfl rfl (Nat.le_refl 0) (Nat.le_refl 0) rfl ⟨rfl, rfl⟩
def f_Town_has (N : Nat) (v0 : VTown) (v1 : VLaws) (a1 : Int32) : Option (Int32) := (if (a1 < 0) then (some 0) else (if ((Town_people v0) ≤ a1) then (some 0) else (if (6 ≤ a1) then (some 0) else (some 1))))
set_option maxRecDepth 20000 in
set_option maxHeartbeats 4000000 in
theorem c_Town_has (N : Nat) (v0 : VTown) (v1 : VLaws) (a1 : Int32) (R : Int32) (hf : f_Town_has N v0 v1 a1 = some R) : Ct zMX8_has 1 0 0 0 [.ref 0, .int a1] ([kTown 0 8 v0, kLaws 8 v1] : List (List zE)).flatten (fun v cc => v = some (.int R) ∧ cc = ([kTown 0 8 v0, kLaws 8 v1] : List (List zE)).flatten) := by
  refine Ct.of zMX8_has_ok (by decide) (Nat.le_of_ble_eq_true rfl) ?_
  intro Z hZ hR hN hE
  have hRm : zRoom Z 0 0 := zRoom0 Z
  unfold f_Town_has at hf
  show AW Z 0 0 0 [some (.ref 0), some (.int a1)] [] ([kTown 0 8 v0, kLaws 8 v1] : List (List zE)).flatten
  refine AW.run hZ hRm [23] 400 ?_
  show (((a1 < 0) → AW Z 0 0 23 [some (.ref 0), some (.int a1)] [.int 0] ([kTown 0 8 v0, kLaws 8 v1] : List (List zE)).flatten) ∧ (¬ (a1 < 0) → ((((Town_people v0) ≤ a1) → AW Z 0 0 23 [some (.ref 0), some (.int a1)] [.int 0] ([kTown 0 8 v0, kLaws 8 v1] : List (List zE)).flatten) ∧ (¬ ((Town_people v0) ≤ a1) → (((6 ≤ a1) → AW Z 0 0 23 [some (.ref 0), some (.int a1)] [.int 0] ([kTown 0 8 v0, kLaws 8 v1] : List (List zE)).flatten) ∧ (¬ (6 ≤ a1) → AW Z 0 0 23 [some (.ref 0), some (.int a1)] [.int 1] ([kTown 0 8 v0, kLaws 8 v1] : List (List zE)).flatten))))))
  refine ⟨fun c1 => ?_, fun c1 => ?_⟩
  · rw [if_pos c1] at hf
    cases hf
    exact AW.iret hZ hE rfl rfl rfl rfl (Nat.le_refl 0) (Nat.le_refl 0) rfl ⟨rfl, rfl⟩
  · rw [if_neg c1] at hf
    refine ⟨fun c2 => ?_, fun c2 => ?_⟩
    · rw [if_pos c2] at hf
      cases hf
      exact AW.iret hZ hE rfl rfl rfl rfl (Nat.le_refl 0) (Nat.le_refl 0) rfl ⟨rfl, rfl⟩
    · rw [if_neg c2] at hf
      refine ⟨fun c3 => ?_, fun c3 => ?_⟩
      · rw [if_pos c3] at hf
        cases hf
        exact AW.iret hZ hE rfl rfl rfl rfl (Nat.le_refl 0) (Nat.le_refl 0) rfl ⟨rfl, rfl⟩
      · rw [if_neg c3] at hf
        cases hf
        exact AW.iret hZ hE rfl rfl rfl rfl (Nat.le_refl 0) (Nat.le_refl 0) rfl ⟨rfl, rfl⟩
def f_Town_skillOf (N : Nat) (v0 : VTown) (v1 : VLaws) (a1 : Int32) : Option (Int32) := ((f_Town_has N v0 v1 a1).bind (fun q1 => (if (q1 = 0) then (some 0) else (if (a1 < 0 ∨ 6 ≤ Int32.toNatClampNeg a1) then none else (some ((Town_skills v0) (Int32.toNatClampNeg a1)))))))
set_option maxRecDepth 20000 in
set_option maxHeartbeats 4000000 in
theorem c_Town_skillOf (N : Nat) (v0 : VTown) (v1 : VLaws) (a1 : Int32) (R : Int32) (hf : f_Town_skillOf N v0 v1 a1 = some R) : Ct zMX8_skillOf 2 0 0 0 [.ref 0, .int a1] ([kTown 0 8 v0, kLaws 8 v1] : List (List zE)).flatten (fun v cc => v = some (.int R) ∧ cc = ([kTown 0 8 v0, kLaws 8 v1] : List (List zE)).flatten) := by
  refine Ct.of zMX8_skillOf_ok (by decide) (Nat.le_of_ble_eq_true rfl) ?_
  intro Z hZ hR hN hE
  have hRm : zRoom Z 0 0 := zRoom0 Z
  unfold f_Town_skillOf at hf
  show AW Z 0 0 0 [some (.ref 0), some (.int a1)] [] ([kTown 0 8 v0, kLaws 8 v1] : List (List zE)).flatten
  refine AW.run hZ hRm [2] 400 ?_
  show AW Z 0 0 2 [some (.ref 0), some (.int a1)] [.int a1, .ref 0] ([kTown 0 8 v0, kLaws 8 v1] : List (List zE)).flatten
  obtain ⟨q1, h4, hf⟩ := zbind hf
  refine AW.callVc hZ hR hN (c_Town_has N v0 v1 a1 q1 h4) zMX8_has_ok rfl rfl zK_BorrowedLives_Town_74 zV_X8_has rfl [8, 6] [0, 1] [0, 1, 2, 3, 4, 5, 6, 7, 8, 9, 10, 11, 12, 13] rfl rfl rfl (by decide) (by decide) (by omega) (by decide) (Nat.zero_le _) (Nat.zero_le _) rfl rfl rfl rfl rfl ?_
  rintro v cc ⟨rfl, rfl⟩
  refine ⟨_, rfl, rfl, ?_⟩
  show AW Z 0 0 5 [some (.ref 0), some (.int a1)] [.int q1] ([kTown 0 8 v0, kLaws 8 v1] : List (List zE)).flatten
  refine AW.run hZ hRm [18] 400 ?_
  show (((q1 = 0) → AW Z 0 0 18 [some (.ref 0), some (.int a1)] [.int 0] ([kTown 0 8 v0, kLaws 8 v1] : List (List zE)).flatten) ∧ (¬ (q1 = 0) → (¬ (a1 < 0 ∨ 6 ≤ Int32.toNatClampNeg a1) ∧ AW Z 0 0 18 [some (.ref 0), some (.int a1)] [.int ((Town_skills v0) (Int32.toNatClampNeg a1))] ([kTown 0 8 v0, kLaws 8 v1] : List (List zE)).flatten)))
  refine ⟨fun c2 => ?_, fun c2 => ?_⟩
  · rw [if_pos c2] at hf
    cases hf
    exact AW.iret hZ hE rfl rfl rfl rfl (Nat.le_refl 0) (Nat.le_refl 0) rfl ⟨rfl, rfl⟩
  · rw [if_neg c2] at hf
    obtain ⟨b3, hf⟩ := zneed hf
    refine ⟨b3, ?_⟩
    cases hf
    exact AW.iret hZ hE rfl rfl rfl rfl (Nat.le_refl 0) (Nat.le_refl 0) rfl ⟨rfl, rfl⟩
def f_Deeds_deedIn (N : Nat) (a0 : Int32) (a1 : Int32) (a2 : Int32) : Option (Int32) := ((f_Deeds_rowsOf N ((a1 - 1) - a2)).bind (fun q1 => (if (q1 ≤ 0) then (some 0) else (if (q1 = 0) then none else (some ((a0 / q1) - (a0 / q1) / 3 * 3))))))
set_option maxRecDepth 20000 in
set_option maxHeartbeats 4000000 in
theorem c_Deeds_deedIn (N : Nat) (a0 : Int32) (a1 : Int32) (a2 : Int32) (R : Int32) (hf : f_Deeds_deedIn N a0 a1 a2 = some R) : Ct zMX0_deedIn 2 0 0 0 [.int a0, .int a1, .int a2] ([] : List (List zE)).flatten (fun v cc => v = some (.int R) ∧ cc = ([] : List (List zE)).flatten) := by
  refine Ct.of zMX0_deedIn_ok (by decide) (Nat.le_of_ble_eq_true rfl) ?_
  intro Z hZ hR hN hE
  have hRm : zRoom Z 0 0 := zRoom0 Z
  unfold f_Deeds_deedIn at hf
  show AW Z 0 0 0 [some (.int a0), some (.int a1), some (.int a2), none] [] ([] : List (List zE)).flatten
  refine AW.run hZ hRm [5] 400 ?_
  show AW Z 0 0 5 [some (.int a0), some (.int a1), some (.int a2), none] [.int ((a1 - 1) - a2)] ([] : List (List zE)).flatten
  obtain ⟨q1, h4, hf⟩ := zbind hf
  refine AW.callSc hZ hR hN (c_Deeds_rowsOf N ((a1 - 1) - a2) q1 h4) zMX0_rowsOf_ok rfl rfl zK_BorrowedLives_Deeds_18 zV_X0_rowsOf rfl [] [] [] rfl rfl rfl (by decide) (by decide) (by omega) (by decide) (Nat.zero_le _) (Nat.zero_le _) rfl rfl ?_
  rintro v cc ⟨rfl, rfl⟩
  refine ⟨_, rfl, rfl, ?_⟩
  show AW Z 0 0 8 [some (.int a0), some (.int a1), some (.int a2), none] [.int q1] ([] : List (List zE)).flatten
  refine AW.run hZ hRm [22] 400 ?_
  show (((q1 ≤ 0) → AW Z 0 0 22 [some (.int a0), some (.int a1), some (.int a2), some (.int q1)] [.int 0] ([] : List (List zE)).flatten) ∧ (¬ (q1 ≤ 0) → (¬ (q1 = 0) ∧ (¬ ((3 : Int32) = 0) ∧ AW Z 0 0 22 [some (.int a0), some (.int a1), some (.int a2), some (.int q1)] [.int ((a0 / q1) - (a0 / q1) / 3 * 3)] ([] : List (List zE)).flatten))))
  refine ⟨fun c2 => ?_, fun c2 => ?_⟩
  · rw [if_pos c2] at hf
    cases hf
    exact AW.iret hZ hE rfl rfl rfl rfl (Nat.le_refl 0) (Nat.le_refl 0) rfl ⟨rfl, rfl⟩
  · rw [if_neg c2] at hf
    obtain ⟨b3, hf⟩ := zneed hf
    refine ⟨b3, ?_⟩
    refine ⟨(by decide), ?_⟩
    cases hf
    exact AW.iret hZ hE rfl rfl rfl rfl (Nat.le_refl 0) (Nat.le_refl 0) rfl ⟨rfl, rfl⟩
def f_Town_kindOf (N : Nat) (v0 : VTown) (v1 : VLaws) (a1 : Int32) : Option (Int32) := ((f_Town_has N v0 v1 a1).bind (fun q1 => (if (q1 = 0) then (some 0) else (if (a1 < 0 ∨ 6 ≤ Int32.toNatClampNeg a1) then none else (some ((Town_kinds v0) (Int32.toNatClampNeg a1)))))))
set_option maxRecDepth 20000 in
set_option maxHeartbeats 4000000 in
theorem c_Town_kindOf (N : Nat) (v0 : VTown) (v1 : VLaws) (a1 : Int32) (R : Int32) (hf : f_Town_kindOf N v0 v1 a1 = some R) : Ct zMX8_kindOf 2 0 0 0 [.ref 0, .int a1] ([kTown 0 8 v0, kLaws 8 v1] : List (List zE)).flatten (fun v cc => v = some (.int R) ∧ cc = ([kTown 0 8 v0, kLaws 8 v1] : List (List zE)).flatten) := by
  refine Ct.of zMX8_kindOf_ok (by decide) (Nat.le_of_ble_eq_true rfl) ?_
  intro Z hZ hR hN hE
  have hRm : zRoom Z 0 0 := zRoom0 Z
  unfold f_Town_kindOf at hf
  show AW Z 0 0 0 [some (.ref 0), some (.int a1)] [] ([kTown 0 8 v0, kLaws 8 v1] : List (List zE)).flatten
  refine AW.run hZ hRm [2] 400 ?_
  show AW Z 0 0 2 [some (.ref 0), some (.int a1)] [.int a1, .ref 0] ([kTown 0 8 v0, kLaws 8 v1] : List (List zE)).flatten
  obtain ⟨q1, h4, hf⟩ := zbind hf
  refine AW.callVc hZ hR hN (c_Town_has N v0 v1 a1 q1 h4) zMX8_has_ok rfl rfl zK_BorrowedLives_Town_74 zV_X8_has rfl [8, 6] [0, 1] [0, 1, 2, 3, 4, 5, 6, 7, 8, 9, 10, 11, 12, 13] rfl rfl rfl (by decide) (by decide) (by omega) (by decide) (Nat.zero_le _) (Nat.zero_le _) rfl rfl rfl rfl rfl ?_
  rintro v cc ⟨rfl, rfl⟩
  refine ⟨_, rfl, rfl, ?_⟩
  show AW Z 0 0 5 [some (.ref 0), some (.int a1)] [.int q1] ([kTown 0 8 v0, kLaws 8 v1] : List (List zE)).flatten
  refine AW.run hZ hRm [18] 400 ?_
  show (((q1 = 0) → AW Z 0 0 18 [some (.ref 0), some (.int a1)] [.int 0] ([kTown 0 8 v0, kLaws 8 v1] : List (List zE)).flatten) ∧ (¬ (q1 = 0) → (¬ (a1 < 0 ∨ 6 ≤ Int32.toNatClampNeg a1) ∧ AW Z 0 0 18 [some (.ref 0), some (.int a1)] [.int ((Town_kinds v0) (Int32.toNatClampNeg a1))] ([kTown 0 8 v0, kLaws 8 v1] : List (List zE)).flatten)))
  refine ⟨fun c2 => ?_, fun c2 => ?_⟩
  · rw [if_pos c2] at hf
    cases hf
    exact AW.iret hZ hE rfl rfl rfl rfl (Nat.le_refl 0) (Nat.le_refl 0) rfl ⟨rfl, rfl⟩
  · rw [if_neg c2] at hf
    obtain ⟨b3, hf⟩ := zneed hf
    refine ⟨b3, ?_⟩
    cases hf
    exact AW.iret hZ hE rfl rfl rfl rfl (Nat.le_refl 0) (Nat.le_refl 0) rfl ⟨rfl, rfl⟩
def f_Laws_setFacts (N : Nat) (v0 : VLaws) (a1 : Int32) (a2 : Int32) (a3 : Int32) (a4 : Int32) (a5 : Int32) : Option ((Nat → Int32)) := (some (upd (upd (upd (upd (upd (Laws_facts v0) (Int32.toNatClampNeg 0) a1) (Int32.toNatClampNeg 1) a2) (Int32.toNatClampNeg 2) a3) (Int32.toNatClampNeg 3) a4) (Int32.toNatClampNeg 4) a5))
set_option maxRecDepth 20000 in
set_option maxHeartbeats 4000000 in
theorem c_Laws_setFacts (N : Nat) (v0 : VLaws) (a1 : Int32) (a2 : Int32) (a3 : Int32) (a4 : Int32) (a5 : Int32) (R : (Nat → Int32)) (hf : f_Laws_setFacts N v0 a1 a2 a3 a4 a5 = some R) : Ct zMX2_setFacts 1 0 0 0 [.ref 0, .int a1, .int a2, .int a3, .int a4, .int a5] ([kLaws 0 v0] : List (List zE)).flatten (fun v cc => v = none ∧ cc = ([kLaws 0 (Laws_facts_s v0 R)] : List (List zE)).flatten) := by
  refine Ct.of zMX2_setFacts_ok (by decide) (Nat.le_of_ble_eq_true rfl) ?_
  intro Z hZ hR hN hE
  have hRm : zRoom Z 0 0 := zRoom0 Z
  unfold f_Laws_setFacts at hf
  show AW Z 0 0 0 [some (.ref 0), some (.int a1), some (.int a2), some (.int a3), some (.int a4), some (.int a5)] [] ([kLaws 0 v0] : List (List zE)).flatten
  refine AW.run hZ hRm [37] 400 ?_
  show (¬ ((0 : Int32) < 0 ∨ 5 ≤ Int32.toNatClampNeg 0) ∧ (¬ ((1 : Int32) < 0 ∨ 5 ≤ Int32.toNatClampNeg 1) ∧ (¬ ((2 : Int32) < 0 ∨ 5 ≤ Int32.toNatClampNeg 2) ∧ (¬ ((3 : Int32) < 0 ∨ 5 ≤ Int32.toNatClampNeg 3) ∧ (¬ ((4 : Int32) < 0 ∨ 5 ≤ Int32.toNatClampNeg 4) ∧ AW Z 0 0 37 [some (.ref 0), some (.int a1), some (.int a2), some (.int a3), some (.int a4), some (.int a5)] [] ([kLaws 0 (Laws_facts_s v0 (upd (upd (upd (upd (upd (Laws_facts v0) (Int32.toNatClampNeg 0) a1) (Int32.toNatClampNeg 1) a2) (Int32.toNatClampNeg 2) a3) (Int32.toNatClampNeg 3) a4) (Int32.toNatClampNeg 4) a5))] : List (List zE)).flatten)))))
  refine ⟨(by decide), ?_⟩
  refine ⟨(by decide), ?_⟩
  refine ⟨(by decide), ?_⟩
  refine ⟨(by decide), ?_⟩
  refine ⟨(by decide), ?_⟩
  cases hf
  exact AW.vret hZ hE rfl rfl rfl (Nat.le_refl 0) (Nat.le_refl 0) rfl ⟨rfl, rfl⟩
def f_Laws_isTold (N : Nat) (v0 : VLaws) (a1 : Int32) : Option (Int32) := (if (a1 < 0) then (some 0) else (if (4 ≤ a1) then (some 0) else (if (a1 < 0 ∨ 4 ≤ Int32.toNatClampNeg a1) then none else (if (a1 < 0 ∨ 4 ≤ Int32.toNatClampNeg a1) then none else (if (((Laws_to v0) (Int32.toNatClampNeg a1)) ≤ ((Laws_from v0) (Int32.toNatClampNeg a1))) then (some 0) else (some 1))))))
set_option maxRecDepth 20000 in
set_option maxHeartbeats 4000000 in
theorem c_Laws_isTold (N : Nat) (v0 : VLaws) (a1 : Int32) (R : Int32) (hf : f_Laws_isTold N v0 a1 = some R) : Ct zMX2_isTold 1 0 0 0 [.ref 0, .int a1] ([kLaws 0 v0] : List (List zE)).flatten (fun v cc => v = some (.int R) ∧ cc = ([kLaws 0 v0] : List (List zE)).flatten) := by
  refine Ct.of zMX2_isTold_ok (by decide) (Nat.le_of_ble_eq_true rfl) ?_
  intro Z hZ hR hN hE
  have hRm : zRoom Z 0 0 := zRoom0 Z
  unfold f_Laws_isTold at hf
  show AW Z 0 0 0 [some (.ref 0), some (.int a1)] [] ([kLaws 0 v0] : List (List zE)).flatten
  refine AW.run hZ hRm [29] 400 ?_
  show (((a1 < 0) → AW Z 0 0 29 [some (.ref 0), some (.int a1)] [.int 0] ([kLaws 0 v0] : List (List zE)).flatten) ∧ (¬ (a1 < 0) → (((4 ≤ a1) → AW Z 0 0 29 [some (.ref 0), some (.int a1)] [.int 0] ([kLaws 0 v0] : List (List zE)).flatten) ∧ (¬ (4 ≤ a1) → (¬ (a1 < 0 ∨ 4 ≤ Int32.toNatClampNeg a1) ∧ (¬ (a1 < 0 ∨ 4 ≤ Int32.toNatClampNeg a1) ∧ (((((Laws_to v0) (Int32.toNatClampNeg a1)) ≤ ((Laws_from v0) (Int32.toNatClampNeg a1))) → AW Z 0 0 29 [some (.ref 0), some (.int a1)] [.int 0] ([kLaws 0 v0] : List (List zE)).flatten) ∧ (¬ (((Laws_to v0) (Int32.toNatClampNeg a1)) ≤ ((Laws_from v0) (Int32.toNatClampNeg a1))) → AW Z 0 0 29 [some (.ref 0), some (.int a1)] [.int 1] ([kLaws 0 v0] : List (List zE)).flatten))))))))
  refine ⟨fun c1 => ?_, fun c1 => ?_⟩
  · rw [if_pos c1] at hf
    cases hf
    exact AW.iret hZ hE rfl rfl rfl rfl (Nat.le_refl 0) (Nat.le_refl 0) rfl ⟨rfl, rfl⟩
  · rw [if_neg c1] at hf
    refine ⟨fun c2 => ?_, fun c2 => ?_⟩
    · rw [if_pos c2] at hf
      cases hf
      exact AW.iret hZ hE rfl rfl rfl rfl (Nat.le_refl 0) (Nat.le_refl 0) rfl ⟨rfl, rfl⟩
    · rw [if_neg c2] at hf
      obtain ⟨b5, hf⟩ := zneed hf
      refine ⟨b5, ?_⟩
      obtain ⟨b4, hf⟩ := zneed hf
      refine ⟨b4, ?_⟩
      refine ⟨fun c3 => ?_, fun c3 => ?_⟩
      · rw [if_pos c3] at hf
        cases hf
        exact AW.iret hZ hE rfl rfl rfl rfl (Nat.le_refl 0) (Nat.le_refl 0) rfl ⟨rfl, rfl⟩
      · rw [if_neg c3] at hf
        cases hf
        exact AW.iret hZ hE rfl rfl rfl rfl (Nat.le_refl 0) (Nat.le_refl 0) rfl ⟨rfl, rfl⟩
def f_Laws_untold (N : Nat) (v0 : VLaws) (a1 : Int32) : Option (Int32) := (if (a1 = 0) then (some (((Laws_facts v0) (Int32.toNatClampNeg 3)) * 2)) else (if (a1 = 1) then (if (((Laws_facts v0) (Int32.toNatClampNeg 3)) ≤ 4) then (if (3 ≤ ((Laws_facts v0) (Int32.toNatClampNeg 3))) then (some 0) else (some (-1))) else (some 1)) else (if (a1 = 2) then (some ((((Laws_facts v0) (Int32.toNatClampNeg 0)) - (((Laws_facts v0) (Int32.toNatClampNeg 1)) * 2)) + (((Laws_facts v0) (Int32.toNatClampNeg 2)) * 10))) else (some ((((Laws_facts v0) (Int32.toNatClampNeg 0)) - ((Laws_facts v0) (Int32.toNatClampNeg 1))) + (((Laws_facts v0) (Int32.toNatClampNeg 2)) * 5))))))
set_option maxRecDepth 20000 in
set_option maxHeartbeats 4000000 in
theorem c_Laws_untold (N : Nat) (v0 : VLaws) (a1 : Int32) (R : Int32) (hf : f_Laws_untold N v0 a1 = some R) : Ct zMX2_untold 1 0 0 0 [.ref 0, .int a1] ([kLaws 0 v0] : List (List zE)).flatten (fun v cc => v = some (.int R) ∧ cc = ([kLaws 0 v0] : List (List zE)).flatten) := by
  refine Ct.of zMX2_untold_ok (by decide) (Nat.le_of_ble_eq_true rfl) ?_
  intro Z hZ hR hN hE
  have hRm : zRoom Z 0 0 := zRoom0 Z
  unfold f_Laws_untold at hf
  show AW Z 0 0 0 [some (.ref 0), some (.int a1)] [] ([kLaws 0 v0] : List (List zE)).flatten
  refine AW.run hZ hRm [36, 66, 92, 115] 400 ?_
  show ((a1 = 0 → (¬ ((3 : Int32) < 0 ∨ 5 ≤ Int32.toNatClampNeg 3) ∧ AW Z 0 0 36 [some (.ref 0), some (.int a1)] [.int (((Laws_facts v0) (Int32.toNatClampNeg 3)) * 2)] ([kLaws 0 v0] : List (List zE)).flatten)) ∧ (¬ a1 = 0 → ((a1 = 1 → (¬ ((3 : Int32) < 0 ∨ 5 ≤ Int32.toNatClampNeg 3) ∧ (((((Laws_facts v0) (Int32.toNatClampNeg 3)) ≤ 4) → (¬ ((3 : Int32) < 0 ∨ 5 ≤ Int32.toNatClampNeg 3) ∧ (((3 ≤ ((Laws_facts v0) (Int32.toNatClampNeg 3))) → AW Z 0 0 66 [some (.ref 0), some (.int a1)] [.int 0] ([kLaws 0 v0] : List (List zE)).flatten) ∧ (¬ (3 ≤ ((Laws_facts v0) (Int32.toNatClampNeg 3))) → AW Z 0 0 66 [some (.ref 0), some (.int a1)] [.int (-1)] ([kLaws 0 v0] : List (List zE)).flatten)))) ∧ (¬ (((Laws_facts v0) (Int32.toNatClampNeg 3)) ≤ 4) → AW Z 0 0 66 [some (.ref 0), some (.int a1)] [.int 1] ([kLaws 0 v0] : List (List zE)).flatten)))) ∧ (¬ a1 = 1 → ((a1 = 2 → (¬ ((0 : Int32) < 0 ∨ 5 ≤ Int32.toNatClampNeg 0) ∧ (¬ ((1 : Int32) < 0 ∨ 5 ≤ Int32.toNatClampNeg 1) ∧ (¬ ((2 : Int32) < 0 ∨ 5 ≤ Int32.toNatClampNeg 2) ∧ AW Z 0 0 92 [some (.ref 0), some (.int a1)] [.int ((((Laws_facts v0) (Int32.toNatClampNeg 0)) - (((Laws_facts v0) (Int32.toNatClampNeg 1)) * 2)) + (((Laws_facts v0) (Int32.toNatClampNeg 2)) * 10))] ([kLaws 0 v0] : List (List zE)).flatten)))) ∧ (¬ a1 = 2 → (¬ ((0 : Int32) < 0 ∨ 5 ≤ Int32.toNatClampNeg 0) ∧ (¬ ((1 : Int32) < 0 ∨ 5 ≤ Int32.toNatClampNeg 1) ∧ (¬ ((2 : Int32) < 0 ∨ 5 ≤ Int32.toNatClampNeg 2) ∧ AW Z 0 0 115 [some (.ref 0), some (.int a1)] [.int ((((Laws_facts v0) (Int32.toNatClampNeg 0)) - ((Laws_facts v0) (Int32.toNatClampNeg 1))) + (((Laws_facts v0) (Int32.toNatClampNeg 2)) * 5))] ([kLaws 0 v0] : List (List zE)).flatten)))))))))
  refine ⟨fun c5 => ?_, fun c5 => ?_⟩
  · rw [if_pos c5] at hf
    refine ⟨(by decide), ?_⟩
    cases hf
    exact AW.iret hZ hE rfl rfl rfl rfl (Nat.le_refl 0) (Nat.le_refl 0) rfl ⟨rfl, rfl⟩
  · rw [if_neg c5] at hf
    refine ⟨fun c2 => ?_, fun c2 => ?_⟩
    · rw [if_pos c2] at hf
      refine ⟨(by decide), ?_⟩
      refine ⟨fun c3 => ?_, fun c3 => ?_⟩
      · rw [if_pos c3] at hf
        refine ⟨(by decide), ?_⟩
        refine ⟨fun c4 => ?_, fun c4 => ?_⟩
        · rw [if_pos c4] at hf
          cases hf
          exact AW.iret hZ hE rfl rfl rfl rfl (Nat.le_refl 0) (Nat.le_refl 0) rfl ⟨rfl, rfl⟩
        · rw [if_neg c4] at hf
          cases hf
          exact AW.iret hZ hE rfl rfl rfl rfl (Nat.le_refl 0) (Nat.le_refl 0) rfl ⟨rfl, rfl⟩
      · rw [if_neg c3] at hf
        cases hf
        exact AW.iret hZ hE rfl rfl rfl rfl (Nat.le_refl 0) (Nat.le_refl 0) rfl ⟨rfl, rfl⟩
    · rw [if_neg c2] at hf
      refine ⟨fun c1 => ?_, fun c1 => ?_⟩
      · rw [if_pos c1] at hf
        refine ⟨(by decide), ?_⟩
        refine ⟨(by decide), ?_⟩
        refine ⟨(by decide), ?_⟩
        cases hf
        exact AW.iret hZ hE rfl rfl rfl rfl (Nat.le_refl 0) (Nat.le_refl 0) rfl ⟨rfl, rfl⟩
      · rw [if_neg c1] at hf
        refine ⟨(by decide), ?_⟩
        refine ⟨(by decide), ?_⟩
        refine ⟨(by decide), ?_⟩
        cases hf
        exact AW.iret hZ hE rfl rfl rfl rfl (Nat.le_refl 0) (Nat.le_refl 0) rfl ⟨rfl, rfl⟩
def f_Laws_join (N : Nat) (a0 : Int32) (a1 : Int32) (a2 : Int32) : Option (Int32) := (if (a0 = 43) then (some (a1 + a2)) else (if (a0 = 45) then (some (a1 - a2)) else (if (a0 = 60) then (if (a2 ≤ a1) then (some 0) else (some 1)) else (if (a0 = 61) then (if (a1 = a2) then (some 1) else (some 0)) else (if (a0 = 148) then (if (a1 = 0) then (some 0) else (if (a2 = 0) then (some 0) else (some 1))) else (if (a0 = 149) then (if (a1 = 0) then (if (a2 = 0) then (some 0) else (some 1)) else (some 1)) else (some (a1 * a2))))))))
set_option maxRecDepth 20000 in
set_option maxHeartbeats 4000000 in
theorem c_Laws_join (N : Nat) (a0 : Int32) (a1 : Int32) (a2 : Int32) (R : Int32) (hf : f_Laws_join N a0 a1 a2 = some R) : Ct zMX2_join 1 0 0 0 [.int a0, .int a1, .int a2] ([] : List (List zE)).flatten (fun v cc => v = some (.int R) ∧ cc = ([] : List (List zE)).flatten) := by
  refine Ct.of zMX2_join_ok (by decide) (Nat.le_of_ble_eq_true rfl) ?_
  intro Z hZ hR hN hE
  have hRm : zRoom Z 0 0 := zRoom0 Z
  unfold f_Laws_join at hf
  show AW Z 0 0 0 [some (.int a0), some (.int a1), some (.int a2)] [] ([] : List (List zE)).flatten
  refine AW.run hZ hRm [73, 87, 98, 109, 113, 117, 121] 400 ?_
  show ((a0 = 43 → AW Z 0 0 113 [some (.int a0), some (.int a1), some (.int a2)] [.int (a1 + a2)] ([] : List (List zE)).flatten) ∧ (¬ a0 = 43 → ((a0 = 45 → AW Z 0 0 117 [some (.int a0), some (.int a1), some (.int a2)] [.int (a1 - a2)] ([] : List (List zE)).flatten) ∧ (¬ a0 = 45 → ((a0 = 60 → (((a2 ≤ a1) → AW Z 0 0 98 [some (.int a0), some (.int a1), some (.int a2)] [.int 0] ([] : List (List zE)).flatten) ∧ (¬ (a2 ≤ a1) → AW Z 0 0 98 [some (.int a0), some (.int a1), some (.int a2)] [.int 1] ([] : List (List zE)).flatten))) ∧ (¬ a0 = 60 → ((a0 = 61 → ((¬ (a1 = a2) → AW Z 0 0 109 [some (.int a0), some (.int a1), some (.int a2)] [.int 0] ([] : List (List zE)).flatten) ∧ ((a1 = a2) → AW Z 0 0 109 [some (.int a0), some (.int a1), some (.int a2)] [.int 1] ([] : List (List zE)).flatten))) ∧ (¬ a0 = 61 → ((a0 = 148 → (((a1 = 0) → AW Z 0 0 73 [some (.int a0), some (.int a1), some (.int a2)] [.int 0] ([] : List (List zE)).flatten) ∧ (¬ (a1 = 0) → (((a2 = 0) → AW Z 0 0 73 [some (.int a0), some (.int a1), some (.int a2)] [.int 0] ([] : List (List zE)).flatten) ∧ (¬ (a2 = 0) → AW Z 0 0 73 [some (.int a0), some (.int a1), some (.int a2)] [.int 1] ([] : List (List zE)).flatten))))) ∧ (¬ a0 = 148 → ((a0 = 149 → ((¬ (a1 = 0) → AW Z 0 0 87 [some (.int a0), some (.int a1), some (.int a2)] [.int 1] ([] : List (List zE)).flatten) ∧ ((a1 = 0) → (((a2 = 0) → AW Z 0 0 87 [some (.int a0), some (.int a1), some (.int a2)] [.int 0] ([] : List (List zE)).flatten) ∧ (¬ (a2 = 0) → AW Z 0 0 87 [some (.int a0), some (.int a1), some (.int a2)] [.int 1] ([] : List (List zE)).flatten))))) ∧ (¬ a0 = 149 → AW Z 0 0 121 [some (.int a0), some (.int a1), some (.int a2)] [.int (a1 * a2)] ([] : List (List zE)).flatten))))))))))))
  refine ⟨fun c12 => ?_, fun c12 => ?_⟩
  · rw [if_pos c12] at hf
    cases hf
    exact AW.iret hZ hE rfl rfl rfl rfl (Nat.le_refl 0) (Nat.le_refl 0) rfl ⟨rfl, rfl⟩
  · rw [if_neg c12] at hf
    refine ⟨fun c11 => ?_, fun c11 => ?_⟩
    · rw [if_pos c11] at hf
      cases hf
      exact AW.iret hZ hE rfl rfl rfl rfl (Nat.le_refl 0) (Nat.le_refl 0) rfl ⟨rfl, rfl⟩
    · rw [if_neg c11] at hf
      refine ⟨fun c9 => ?_, fun c9 => ?_⟩
      · rw [if_pos c9] at hf
        refine ⟨fun c10 => ?_, fun c10 => ?_⟩
        · rw [if_pos c10] at hf
          cases hf
          exact AW.iret hZ hE rfl rfl rfl rfl (Nat.le_refl 0) (Nat.le_refl 0) rfl ⟨rfl, rfl⟩
        · rw [if_neg c10] at hf
          cases hf
          exact AW.iret hZ hE rfl rfl rfl rfl (Nat.le_refl 0) (Nat.le_refl 0) rfl ⟨rfl, rfl⟩
      · rw [if_neg c9] at hf
        refine ⟨fun c7 => ?_, fun c7 => ?_⟩
        · rw [if_pos c7] at hf
          refine ⟨fun c8 => ?_, fun c8 => ?_⟩
          · rw [if_neg c8] at hf
            cases hf
            exact AW.iret hZ hE rfl rfl rfl rfl (Nat.le_refl 0) (Nat.le_refl 0) rfl ⟨rfl, rfl⟩
          · rw [if_pos c8] at hf
            cases hf
            exact AW.iret hZ hE rfl rfl rfl rfl (Nat.le_refl 0) (Nat.le_refl 0) rfl ⟨rfl, rfl⟩
        · rw [if_neg c7] at hf
          refine ⟨fun c4 => ?_, fun c4 => ?_⟩
          · rw [if_pos c4] at hf
            refine ⟨fun c5 => ?_, fun c5 => ?_⟩
            · rw [if_pos c5] at hf
              cases hf
              exact AW.iret hZ hE rfl rfl rfl rfl (Nat.le_refl 0) (Nat.le_refl 0) rfl ⟨rfl, rfl⟩
            · rw [if_neg c5] at hf
              refine ⟨fun c6 => ?_, fun c6 => ?_⟩
              · rw [if_pos c6] at hf
                cases hf
                exact AW.iret hZ hE rfl rfl rfl rfl (Nat.le_refl 0) (Nat.le_refl 0) rfl ⟨rfl, rfl⟩
              · rw [if_neg c6] at hf
                cases hf
                exact AW.iret hZ hE rfl rfl rfl rfl (Nat.le_refl 0) (Nat.le_refl 0) rfl ⟨rfl, rfl⟩
          · rw [if_neg c4] at hf
            refine ⟨fun c1 => ?_, fun c1 => ?_⟩
            · rw [if_pos c1] at hf
              refine ⟨fun c2 => ?_, fun c2 => ?_⟩
              · rw [if_neg c2] at hf
                cases hf
                exact AW.iret hZ hE rfl rfl rfl rfl (Nat.le_refl 0) (Nat.le_refl 0) rfl ⟨rfl, rfl⟩
              · rw [if_pos c2] at hf
                refine ⟨fun c3 => ?_, fun c3 => ?_⟩
                · rw [if_pos c3] at hf
                  cases hf
                  exact AW.iret hZ hE rfl rfl rfl rfl (Nat.le_refl 0) (Nat.le_refl 0) rfl ⟨rfl, rfl⟩
                · rw [if_neg c3] at hf
                  cases hf
                  exact AW.iret hZ hE rfl rfl rfl rfl (Nat.le_refl 0) (Nat.le_refl 0) rfl ⟨rfl, rfl⟩
            · rw [if_neg c1] at hf
              cases hf
              exact AW.iret hZ hE rfl rfl rfl rfl (Nat.le_refl 0) (Nat.le_refl 0) rfl ⟨rfl, rfl⟩
