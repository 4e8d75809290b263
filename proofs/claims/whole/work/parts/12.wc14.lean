def f_Town_copyFrom (N : Nat) (v0 : VTown) (v1 : VLaws) (v2 : VTown) (v3 : VLaws) : Option (Int32 × (Nat → Int64) × (Nat → Int32) × (Nat → Int32) × (Nat → Int32) × (Nat → Int32) × (Nat → Int32) × (Nat → Int32) × Int32 × Int32 × Int32 × (Nat → Int32) × Int32 × (Nat → Int32) × (Nat → Int32)) := (if ((Town_signTold v2) = 0 ∨ (Town_signTold v2) = 1) then ((f_Laws_copyFrom N v1 v3).bind (fun q1 => (zlet ((va_cpy (Town_barred v2) (Town_barred v0) (Int32.toNatClampNeg 0) (Int32.toNatClampNeg 0) (Int32.toNatClampNeg 6)) : (Nat → Int32)) (fun z2 => (zlet ((va_cpy (Town_debts v2) (Town_debts v0) (Int32.toNatClampNeg 0) (Int32.toNatClampNeg 0) (Int32.toNatClampNeg 6)) : (Nat → Int32)) (fun z3 => (zlet ((va_cpy (Town_homes v2) (Town_homes v0) (Int32.toNatClampNeg 0) (Int32.toNatClampNeg 0) (Int32.toNatClampNeg 6)) : (Nat → Int32)) (fun z4 => (zlet ((va_cpy (Town_kinds v2) (Town_kinds v0) (Int32.toNatClampNeg 0) (Int32.toNatClampNeg 0) (Int32.toNatClampNeg 6)) : (Nat → Int32)) (fun z5 => (zlet ((va_cpy (Town_names v2) (Town_names v0) (Int32.toNatClampNeg 0) (Int32.toNatClampNeg 0) (Int32.toNatClampNeg 6)) : (Nat → Int64)) (fun z6 => (zlet ((va_cpy (Town_purses v2) (Town_purses v0) (Int32.toNatClampNeg 0) (Int32.toNatClampNeg 0) (Int32.toNatClampNeg 6)) : (Nat → Int32)) (fun z7 => (zlet ((va_cpy (Town_skills v2) (Town_skills v0) (Int32.toNatClampNeg 0) (Int32.toNatClampNeg 0) (Int32.toNatClampNeg 6)) : (Nat → Int32)) (fun z8 => (some ((Town_people v2), z6, z5, z8, z7, z3, z4, z2, (Town_bars v2), (Town_sign v2), (Town_signTold v2), q1.1, q1.2.1, q1.2.2.1, q1.2.2.2)))))))))))))))))) else none)
set_option maxRecDepth 20000 in
set_option maxHeartbeats 4000000 in
theorem c_Town_copyFrom (N : Nat) (v0 : VTown) (v1 : VLaws) (v2 : VTown) (v3 : VLaws) (R : Int32 × (Nat → Int64) × (Nat → Int32) × (Nat → Int32) × (Nat → Int32) × (Nat → Int32) × (Nat → Int32) × (Nat → Int32) × Int32 × Int32 × Int32 × (Nat → Int32) × Int32 × (Nat → Int32) × (Nat → Int32)) (hf : f_Town_copyFrom N v0 v1 v2 v3 = some R) : Ct zMX8_copyFrom 3 0 0 0 [.ref 0, .ref 14] ([kTown 0 8 v0, kLaws 8 v1, kTown 14 22 v2, kLaws 22 v3] : List (List zE)).flatten (fun v cc => v = none ∧ cc = ([kTown 0 8 (Town_s_people_names_kinds_skills_purses_debts_homes_barred_bars_sign_signTold v0 R.1 R.2.1 R.2.2.1 R.2.2.2.1 R.2.2.2.2.1 R.2.2.2.2.2.1 R.2.2.2.2.2.2.1 R.2.2.2.2.2.2.2.1 R.2.2.2.2.2.2.2.2.1 R.2.2.2.2.2.2.2.2.2.1 R.2.2.2.2.2.2.2.2.2.2.1), kLaws 8 (Laws_s_codes_size_from_to v1 R.2.2.2.2.2.2.2.2.2.2.2.1 R.2.2.2.2.2.2.2.2.2.2.2.2.1 R.2.2.2.2.2.2.2.2.2.2.2.2.2.1 R.2.2.2.2.2.2.2.2.2.2.2.2.2.2), kTown 14 22 v2, kLaws 22 v3] : List (List zE)).flatten) := by
  refine Ct.of zMX8_copyFrom_ok (by decide) (Nat.le_of_ble_eq_true rfl) ?_
  intro Z hZ hR hN hE
  have hRm : zRoom Z 0 0 := zRoom0 Z
  unfold f_Town_copyFrom at hf
  show AW Z 0 0 0 [some (.ref 0), some (.ref 14)] [] ([kTown 0 8 v0, kLaws 8 v1, kTown 14 22 v2, kLaws 22 v3] : List (List zE)).flatten
  refine AW.run hZ hRm [145] 400 ?_
  show ((zcpyOk 0 0 6 6 6) ∧ ((zcpyOk 0 0 6 6 6) ∧ ((zcpyOk 0 0 6 6 6) ∧ ((zcpyOk 0 0 6 6 6) ∧ ((zcpyOk 0 0 6 6 6) ∧ ((zcpyOk 0 0 6 6 6) ∧ ((zcpyOk 0 0 6 6 6) ∧ (((Town_signTold v2) = 0 ∨ (Town_signTold v2) = 1) ∧ AW Z 0 0 145 [some (.ref 0), some (.ref 14)] [.ref 22, .ref 8] ([kTown 0 8 (Town_s_people_names_kinds_skills_purses_debts_homes_barred_bars_sign_signTold v0 (Town_people v2) (va_cpy (Town_names v2) (Town_names v0) (Int32.toNatClampNeg 0) (Int32.toNatClampNeg 0) (Int32.toNatClampNeg 6)) (va_cpy (Town_kinds v2) (Town_kinds v0) (Int32.toNatClampNeg 0) (Int32.toNatClampNeg 0) (Int32.toNatClampNeg 6)) (va_cpy (Town_skills v2) (Town_skills v0) (Int32.toNatClampNeg 0) (Int32.toNatClampNeg 0) (Int32.toNatClampNeg 6)) (va_cpy (Town_purses v2) (Town_purses v0) (Int32.toNatClampNeg 0) (Int32.toNatClampNeg 0) (Int32.toNatClampNeg 6)) (va_cpy (Town_debts v2) (Town_debts v0) (Int32.toNatClampNeg 0) (Int32.toNatClampNeg 0) (Int32.toNatClampNeg 6)) (va_cpy (Town_homes v2) (Town_homes v0) (Int32.toNatClampNeg 0) (Int32.toNatClampNeg 0) (Int32.toNatClampNeg 6)) (va_cpy (Town_barred v2) (Town_barred v0) (Int32.toNatClampNeg 0) (Int32.toNatClampNeg 0) (Int32.toNatClampNeg 6)) (Town_bars v2) (Town_sign v2) (Town_signTold v2)), kLaws 8 v1, kTown 14 22 v2, kLaws 22 v3] : List (List zE)).flatten))))))))
  refine ⟨(by unfold zcpyOk; decide), ?_⟩
  refine ⟨(by unfold zcpyOk; decide), ?_⟩
  refine ⟨(by unfold zcpyOk; decide), ?_⟩
  refine ⟨(by unfold zcpyOk; decide), ?_⟩
  refine ⟨(by unfold zcpyOk; decide), ?_⟩
  refine ⟨(by unfold zcpyOk; decide), ?_⟩
  refine ⟨(by unfold zcpyOk; decide), ?_⟩
  obtain ⟨b10, hf⟩ := zneedP hf
  refine ⟨b10, ?_⟩
  obtain ⟨q1, h9, hf⟩ := zbind hf
  refine AW.callVc hZ hR hN (c_Laws_copyFrom N v1 v3 q1 h9) zMX2_copyFrom_ok rfl rfl zK_BorrowedLives_Town_70 zV_X2_copyFrom rfl [8, 6, 8, 6] [1, 3] [8, 9, 10, 11, 12, 13, 22, 23, 24, 25, 26, 27] rfl rfl rfl (by decide) (by decide) (by omega) (by decide) (Nat.zero_le _) (Nat.zero_le _) rfl rfl rfl rfl rfl ?_
  rintro v cc ⟨rfl, rfl⟩
  refine ⟨_, rfl, rfl, ?_⟩
  show AW Z 0 0 148 [some (.ref 0), some (.ref 14)] [] ([kTown 0 8 (Town_s_people_names_kinds_skills_purses_debts_homes_barred_bars_sign_signTold v0 (Town_people v2) (va_cpy (Town_names v2) (Town_names v0) (Int32.toNatClampNeg 0) (Int32.toNatClampNeg 0) (Int32.toNatClampNeg 6)) (va_cpy (Town_kinds v2) (Town_kinds v0) (Int32.toNatClampNeg 0) (Int32.toNatClampNeg 0) (Int32.toNatClampNeg 6)) (va_cpy (Town_skills v2) (Town_skills v0) (Int32.toNatClampNeg 0) (Int32.toNatClampNeg 0) (Int32.toNatClampNeg 6)) (va_cpy (Town_purses v2) (Town_purses v0) (Int32.toNatClampNeg 0) (Int32.toNatClampNeg 0) (Int32.toNatClampNeg 6)) (va_cpy (Town_debts v2) (Town_debts v0) (Int32.toNatClampNeg 0) (Int32.toNatClampNeg 0) (Int32.toNatClampNeg 6)) (va_cpy (Town_homes v2) (Town_homes v0) (Int32.toNatClampNeg 0) (Int32.toNatClampNeg 0) (Int32.toNatClampNeg 6)) (va_cpy (Town_barred v2) (Town_barred v0) (Int32.toNatClampNeg 0) (Int32.toNatClampNeg 0) (Int32.toNatClampNeg 6)) (Town_bars v2) (Town_sign v2) (Town_signTold v2)), kLaws 8 (Laws_s_codes_size_from_to v1 q1.1 q1.2.1 q1.2.2.1 q1.2.2.2), kTown 14 22 v2, kLaws 22 v3] : List (List zE)).flatten
  replace hf := zlet_gen hf
  generalize ((va_cpy (Town_barred v2) (Town_barred v0) (Int32.toNatClampNeg 0) (Int32.toNatClampNeg 0) (Int32.toNatClampNeg 6)) : (Nat → Int32)) = z2 at hf ⊢
  replace hf := zlet_gen hf
  generalize ((va_cpy (Town_debts v2) (Town_debts v0) (Int32.toNatClampNeg 0) (Int32.toNatClampNeg 0) (Int32.toNatClampNeg 6)) : (Nat → Int32)) = z3 at hf ⊢
  replace hf := zlet_gen hf
  generalize ((va_cpy (Town_homes v2) (Town_homes v0) (Int32.toNatClampNeg 0) (Int32.toNatClampNeg 0) (Int32.toNatClampNeg 6)) : (Nat → Int32)) = z4 at hf ⊢
  replace hf := zlet_gen hf
  generalize ((va_cpy (Town_kinds v2) (Town_kinds v0) (Int32.toNatClampNeg 0) (Int32.toNatClampNeg 0) (Int32.toNatClampNeg 6)) : (Nat → Int32)) = z5 at hf ⊢
  replace hf := zlet_gen hf
  generalize ((va_cpy (Town_names v2) (Town_names v0) (Int32.toNatClampNeg 0) (Int32.toNatClampNeg 0) (Int32.toNatClampNeg 6)) : (Nat → Int64)) = z6 at hf ⊢
  replace hf := zlet_gen hf
  generalize ((va_cpy (Town_purses v2) (Town_purses v0) (Int32.toNatClampNeg 0) (Int32.toNatClampNeg 0) (Int32.toNatClampNeg 6)) : (Nat → Int32)) = z7 at hf ⊢
  replace hf := zlet_gen hf
  generalize ((va_cpy (Town_skills v2) (Town_skills v0) (Int32.toNatClampNeg 0) (Int32.toNatClampNeg 0) (Int32.toNatClampNeg 6)) : (Nat → Int32)) = z8 at hf ⊢
  cases hf
  exact AW.vret hZ hE rfl rfl rfl (Nat.le_refl 0) (Nat.le_refl 0) rfl ⟨rfl, rfl⟩
def f_Town_addPerson (N : Nat) (v0 : VTown) (v1 : VLaws) (a1 : Int64) (a3 : Int32) (a4 : Int32) : Option (Int32 × Int32 × (Nat → Int64) × (Nat → Int32) × (Nat → Int32)) := (if ((Town_people v0) < 0) then (some ((-1), (Town_people v0), (Town_names v0), (Town_kinds v0), (Town_skills v0))) else (if ((Town_people v0) < 6) then (if ((Town_people v0) < 0 ∨ 6 ≤ Int32.toNatClampNeg (Town_people v0)) then none else (if ((Town_people v0) < 0 ∨ 6 ≤ Int32.toNatClampNeg (Town_people v0)) then none else (if ((Town_people v0) < 0 ∨ 6 ≤ Int32.toNatClampNeg (Town_people v0)) then none else (some ((((Town_people v0) + 1) - 1), ((Town_people v0) + 1), (vp_updL (Town_names v0) (Int32.toNatClampNeg (Town_people v0)) a1), (upd (Town_kinds v0) (Int32.toNatClampNeg (Town_people v0)) a3), (upd (Town_skills v0) (Int32.toNatClampNeg (Town_people v0)) a4)))))) else (some ((-1), (Town_people v0), (Town_names v0), (Town_kinds v0), (Town_skills v0)))))
set_option maxRecDepth 20000 in
set_option maxHeartbeats 4000000 in
theorem c_Town_addPerson (N : Nat) (v0 : VTown) (v1 : VLaws) (a1 : Int64) (a3 : Int32) (a4 : Int32) (R : Int32 × Int32 × (Nat → Int64) × (Nat → Int32) × (Nat → Int32)) (hf : f_Town_addPerson N v0 v1 a1 a3 a4 = some R) : Ct zMX8_addPerson 1 0 0 0 [.ref 0, .long a1, .int a3, .int a4] ([kTown 0 8 v0, kLaws 8 v1] : List (List zE)).flatten (fun v cc => v = some (.int R.1) ∧ cc = ([kTown 0 8 (Town_s_people_names_kinds_skills v0 R.2.1 R.2.2.1 R.2.2.2.1 R.2.2.2.2), kLaws 8 v1] : List (List zE)).flatten) := by
  refine Ct.of zMX8_addPerson_ok (by decide) (Nat.le_of_ble_eq_true rfl) ?_
  intro Z hZ hR hN hE
  have hRm : zRoom Z 0 0 := zRoom0 Z
  unfold f_Town_addPerson at hf
  show AW Z 0 0 0 [some (.ref 0), some (.long a1), none, some (.int a3), some (.int a4)] [] ([kTown 0 8 v0, kLaws 8 v1] : List (List zE)).flatten
  refine AW.run hZ hRm [17, 65] 400 ?_
  show ((((Town_people v0) < 0) → AW Z 0 0 17 [some (.ref 0), some (.long a1), none, some (.int a3), some (.int a4)] [.int (-1)] ([kTown 0 8 v0, kLaws 8 v1] : List (List zE)).flatten) ∧ (¬ ((Town_people v0) < 0) → ((((Town_people v0) < 6) → (¬ ((Town_people v0) < 0 ∨ 6 ≤ Int32.toNatClampNeg (Town_people v0)) ∧ (¬ ((Town_people v0) < 0 ∨ 6 ≤ Int32.toNatClampNeg (Town_people v0)) ∧ (¬ ((Town_people v0) < 0 ∨ 6 ≤ Int32.toNatClampNeg (Town_people v0)) ∧ AW Z 0 0 65 [some (.ref 0), some (.long a1), none, some (.int a3), some (.int a4)] [.int (((Town_people v0) + 1) - 1)] ([kTown 0 8 (Town_s_people_names_kinds_skills v0 ((Town_people v0) + 1) (vp_updL (Town_names v0) (Int32.toNatClampNeg (Town_people v0)) a1) (upd (Town_kinds v0) (Int32.toNatClampNeg (Town_people v0)) a3) (upd (Town_skills v0) (Int32.toNatClampNeg (Town_people v0)) a4)), kLaws 8 v1] : List (List zE)).flatten)))) ∧ (¬ ((Town_people v0) < 6) → AW Z 0 0 17 [some (.ref 0), some (.long a1), none, some (.int a3), some (.int a4)] [.int (-1)] ([kTown 0 8 v0, kLaws 8 v1] : List (List zE)).flatten))))
  refine ⟨fun c1 => ?_, fun c1 => ?_⟩
  · rw [if_pos c1] at hf
    cases hf
    exact AW.iret hZ hE rfl rfl rfl rfl (Nat.le_refl 0) (Nat.le_refl 0) rfl ⟨rfl, rfl⟩
  · rw [if_neg c1] at hf
    refine ⟨fun c2 => ?_, fun c2 => ?_⟩
    · rw [if_pos c2] at hf
      obtain ⟨b5, hf⟩ := zneed hf
      refine ⟨b5, ?_⟩
      obtain ⟨b4, hf⟩ := zneed hf
      refine ⟨b4, ?_⟩
      obtain ⟨b3, hf⟩ := zneed hf
      refine ⟨b3, ?_⟩
      cases hf
      exact AW.iret hZ hE rfl rfl rfl rfl (Nat.le_refl 0) (Nat.le_refl 0) rfl ⟨rfl, rfl⟩
    · rw [if_neg c2] at hf
      cases hf
      exact AW.iret hZ hE rfl rfl rfl rfl (Nat.le_refl 0) (Nat.le_refl 0) rfl ⟨rfl, rfl⟩
def f_Town_addBar (N : Nat) (v0 : VTown) (v1 : VLaws) (a1 : Int32) (a2 : Int32) : Option ((Nat → Int32) × Int32) := ((f_Town_has N v0 v1 a1).bind (fun q1 => (if (q1 = 0) then (some ((Town_barred v0), (Town_bars v0))) else ((f_Town_has N v0 v1 a2).bind (fun q3 => (if (q3 = 0) then (some ((Town_barred v0), (Town_bars v0))) else (if (a1 < 0 ∨ 6 ≤ Int32.toNatClampNeg a1) then none else (if (a1 < 0 ∨ 6 ≤ Int32.toNatClampNeg a1) then none else (some ((upd (Town_barred v0) (Int32.toNatClampNeg a1) (((Town_barred v0) (Int32.toNatClampNeg a1)) ||| (1 <<< (a2 &&& 31)))), ((Town_bars v0) + 1)))))))))))
set_option maxRecDepth 20000 in
set_option maxHeartbeats 4000000 in
theorem c_Town_addBar (N : Nat) (v0 : VTown) (v1 : VLaws) (a1 : Int32) (a2 : Int32) (R : (Nat → Int32) × Int32) (hf : f_Town_addBar N v0 v1 a1 a2 = some R) : Ct zMX8_addBar 2 0 0 0 [.ref 0, .int a1, .int a2] ([kTown 0 8 v0, kLaws 8 v1] : List (List zE)).flatten (fun v cc => v = none ∧ cc = ([kTown 0 8 (Town_s_barred_bars v0 R.1 R.2), kLaws 8 v1] : List (List zE)).flatten) := by
  refine Ct.of zMX8_addBar_ok (by decide) (Nat.le_of_ble_eq_true rfl) ?_
  intro Z hZ hR hN hE
  have hRm : zRoom Z 0 0 := zRoom0 Z
  unfold f_Town_addBar at hf
  show AW Z 0 0 0 [some (.ref 0), some (.int a1), some (.int a2)] [] ([kTown 0 8 v0, kLaws 8 v1] : List (List zE)).flatten
  refine AW.run hZ hRm [2] 400 ?_
  show AW Z 0 0 2 [some (.ref 0), some (.int a1), some (.int a2)] [.int a1, .ref 0] ([kTown 0 8 v0, kLaws 8 v1] : List (List zE)).flatten
  obtain ⟨q1, h8, hf⟩ := zbind hf
  refine AW.callVc hZ hR hN (c_Town_has N v0 v1 a1 q1 h8) zMX8_has_ok rfl rfl zK_BorrowedLives_Town_74 zV_X8_has rfl [8, 6] [0, 1] [0, 1, 2, 3, 4, 5, 6, 7, 8, 9, 10, 11, 12, 13] rfl rfl rfl (by decide) (by decide) (by omega) (by decide) (Nat.zero_le _) (Nat.zero_le _) rfl rfl rfl rfl rfl ?_
  rintro v cc ⟨rfl, rfl⟩
  refine ⟨_, rfl, rfl, ?_⟩
  show AW Z 0 0 5 [some (.ref 0), some (.int a1), some (.int a2)] [.int q1] ([kTown 0 8 v0, kLaws 8 v1] : List (List zE)).flatten
  refine AW.run hZ hRm [10, 38] 400 ?_
  show (((q1 = 0) → AW Z 0 0 38 [some (.ref 0), some (.int a1), some (.int a2)] [] ([kTown 0 8 v0, kLaws 8 v1] : List (List zE)).flatten) ∧ (¬ (q1 = 0) → AW Z 0 0 10 [some (.ref 0), some (.int a1), some (.int a2)] [.int a2, .ref 0] ([kTown 0 8 v0, kLaws 8 v1] : List (List zE)).flatten))
  refine ⟨fun c2 => ?_, fun c2 => ?_⟩
  · rw [if_pos c2] at hf
    cases hf
    exact AW.vret hZ hE rfl rfl rfl (Nat.le_refl 0) (Nat.le_refl 0) rfl ⟨rfl, rfl⟩
  · rw [if_neg c2] at hf
    obtain ⟨q3, h7, hf⟩ := zbind hf
    refine AW.callVc hZ hR hN (c_Town_has N v0 v1 a2 q3 h7) zMX8_has_ok rfl rfl zK_BorrowedLives_Town_74 zV_X8_has rfl [8, 6] [0, 1] [0, 1, 2, 3, 4, 5, 6, 7, 8, 9, 10, 11, 12, 13] rfl rfl rfl (by decide) (by decide) (by omega) (by decide) (Nat.zero_le _) (Nat.zero_le _) rfl rfl rfl rfl rfl ?_
    rintro v cc ⟨rfl, rfl⟩
    refine ⟨_, rfl, rfl, ?_⟩
    show AW Z 0 0 13 [some (.ref 0), some (.int a1), some (.int a2)] [.int q3] ([kTown 0 8 v0, kLaws 8 v1] : List (List zE)).flatten
    refine AW.run hZ hRm [38] 400 ?_
    show (((q3 = 0) → AW Z 0 0 38 [some (.ref 0), some (.int a1), some (.int a2)] [] ([kTown 0 8 v0, kLaws 8 v1] : List (List zE)).flatten) ∧ (¬ (q3 = 0) → (¬ (a1 < 0 ∨ 6 ≤ Int32.toNatClampNeg a1) ∧ (¬ (a1 < 0 ∨ 6 ≤ Int32.toNatClampNeg a1) ∧ AW Z 0 0 38 [some (.ref 0), some (.int a1), some (.int a2)] [] ([kTown 0 8 (Town_s_barred_bars v0 (upd (Town_barred v0) (Int32.toNatClampNeg a1) (((Town_barred v0) (Int32.toNatClampNeg a1)) ||| (1 <<< (a2 &&& 31)))) ((Town_bars v0) + 1)), kLaws 8 v1] : List (List zE)).flatten))))
    refine ⟨fun c4 => ?_, fun c4 => ?_⟩
    · rw [if_pos c4] at hf
      cases hf
      exact AW.vret hZ hE rfl rfl rfl (Nat.le_refl 0) (Nat.le_refl 0) rfl ⟨rfl, rfl⟩
    · rw [if_neg c4] at hf
      obtain ⟨b6, hf⟩ := zneed hf
      refine ⟨b6, ?_⟩
      obtain ⟨b5, hf⟩ := zneed hf
      refine ⟨b5, ?_⟩
      cases hf
      exact AW.vret hZ hE rfl rfl rfl (Nat.le_refl 0) (Nat.le_refl 0) rfl ⟨rfl, rfl⟩
def f_Reader_readNewName (N : Nat) (v0 : VReader) (v1 : VTape) (v2 : VTown) (v3 : VLaws) : Option (Int64 × Int32 × Int32) := ((f_Tape_value N v1).bind (fun q1 => ((f_Tape_isName N v1).bind (fun q2 => (if (q2 = 0) then ((f_Tape_wrong N v1 1).bind (fun q13 => ((f_Tape_advance N (Tape_fault_s v1 q13)).bind (fun q14 => (some (q1, q14, q13)))))) else ((f_Town_named N v2 v3 q1).bind (fun q4 => (if (q4 = (-1)) then ((f_Tape_advance N v1).bind (fun q6 => (some (q1, q6, (Tape_fault v1))))) else ((f_Tape_wrong N v1 3).bind (fun q8 => ((f_Tape_advance N (Tape_fault_s v1 q8)).bind (fun q9 => (some (q1, q9, q8))))))))))))))
set_option maxRecDepth 20000 in
set_option maxHeartbeats 4000000 in
theorem c_Reader_readNewName (N : Nat) (v0 : VReader) (v1 : VTape) (v2 : VTown) (v3 : VLaws) (R : Int64 × Int32 × Int32) (hf : f_Reader_readNewName N v0 v1 v2 v3 = some R) : Ct zMX9_readNewName 3 0 0 0 [.ref 0] ([kReader 0 1 6 v0, kTape 1 v1, kTown 6 14 v2, kLaws 14 v3] : List (List zE)).flatten (fun v cc => v = some (.long R.1) ∧ cc = ([kReader 0 1 6 v0, kTape 1 (Tape_s_at_fault v1 R.2.1 R.2.2), kTown 6 14 v2, kLaws 14 v3] : List (List zE)).flatten) := by
  refine Ct.of zMX9_readNewName_ok (by decide) (Nat.le_of_ble_eq_true rfl) ?_
  intro Z hZ hR hN hE
  have hRm : zRoom Z 0 0 := zRoom0 Z
  unfold f_Reader_readNewName at hf
  show AW Z 0 0 0 [some (.ref 0), none, none] [] ([kReader 0 1 6 v0, kTape 1 v1, kTown 6 14 v2, kLaws 14 v3] : List (List zE)).flatten
  refine AW.run hZ hRm [4] 400 ?_
  show AW Z 0 0 4 [some (.ref 0), none, none] [.ref 1] ([kReader 0 1 6 v0, kTape 1 v1, kTown 6 14 v2, kLaws 14 v3] : List (List zE)).flatten
  obtain ⟨q1, h18, hf⟩ := zbind hf
  refine AW.callVc hZ hR hN (c_Tape_value N v1 q1 h18) zMX7_value_ok rfl rfl zK_BorrowedLives_TownReader_104 zV_X7_value rfl [1, 5, 8, 6] [1] [1, 2, 3, 4, 5] rfl rfl rfl (by decide) (by decide) (by omega) (by decide) (Nat.zero_le _) (Nat.zero_le _) rfl rfl rfl rfl rfl ?_
  rintro v cc ⟨rfl, rfl⟩
  refine ⟨_, rfl, rfl, ?_⟩
  show AW Z 0 0 7 [some (.ref 0), none, none] [.long q1] ([kReader 0 1 6 v0, kTape 1 v1, kTown 6 14 v2, kLaws 14 v3] : List (List zE)).flatten
  refine AW.run hZ hRm [12] 400 ?_
  show AW Z 0 0 12 [some (.ref 0), some (.long q1), none] [.ref 1] ([kReader 0 1 6 v0, kTape 1 v1, kTown 6 14 v2, kLaws 14 v3] : List (List zE)).flatten
  obtain ⟨q2, h17, hf⟩ := zbind hf
  refine AW.callVc hZ hR hN (c_Tape_isName N v1 q2 h17) zMX7_isName_ok rfl rfl zK_BorrowedLives_TownReader_107 zV_X7_isName rfl [1, 5, 8, 6] [1] [1, 2, 3, 4, 5] rfl rfl rfl (by decide) (by decide) (by omega) (by decide) (Nat.zero_le _) (Nat.zero_le _) rfl rfl rfl rfl rfl ?_
  rintro v cc ⟨rfl, rfl⟩
  refine ⟨_, rfl, rfl, ?_⟩
  show AW Z 0 0 15 [some (.ref 0), some (.long q1), none] [.int q2] ([kReader 0 1 6 v0, kTape 1 v1, kTown 6 14 v2, kLaws 14 v3] : List (List zE)).flatten
  refine AW.run hZ hRm [23, 34] 400 ?_
  show ((¬ (q2 = 0) → AW Z 0 0 34 [some (.ref 0), some (.long q1), none] [.long q1, .ref 6] ([kReader 0 1 6 v0, kTape 1 v1, kTown 6 14 v2, kLaws 14 v3] : List (List zE)).flatten) ∧ ((q2 = 0) → AW Z 0 0 23 [some (.ref 0), some (.long q1), none] [.int 1, .ref 1] ([kReader 0 1 6 v0, kTape 1 v1, kTown 6 14 v2, kLaws 14 v3] : List (List zE)).flatten))
  refine ⟨fun c3 => ?_, fun c3 => ?_⟩
  · rw [if_neg c3] at hf
    obtain ⟨q4, h12, hf⟩ := zbind hf
    refine AW.callVc hZ hR hN (c_Town_named N v2 v3 q1 q4 h12) zMX8_named_ok rfl rfl zK_BorrowedLives_TownReader_110 zV_X8_named rfl [1, 5, 8, 6] [2, 3] [6, 7, 8, 9, 10, 11, 12, 13, 14, 15, 16, 17, 18, 19] rfl rfl rfl (by decide) (by decide) (by omega) (by decide) (Nat.zero_le _) (Nat.zero_le _) rfl rfl rfl rfl rfl ?_
    rintro v cc ⟨rfl, rfl⟩
    refine ⟨_, rfl, rfl, ?_⟩
    show AW Z 0 0 37 [some (.ref 0), some (.long q1), none] [.int q4] ([kReader 0 1 6 v0, kTape 1 v1, kTown 6 14 v2, kLaws 14 v3] : List (List zE)).flatten
    refine AW.run hZ hRm [46, 53] 400 ?_
    show (((q4 = (-1)) → AW Z 0 0 53 [some (.ref 0), some (.long q1), none] [.ref 1] ([kReader 0 1 6 v0, kTape 1 v1, kTown 6 14 v2, kLaws 14 v3] : List (List zE)).flatten) ∧ (¬ (q4 = (-1)) → AW Z 0 0 46 [some (.ref 0), some (.long q1), none] [.int 3, .ref 1] ([kReader 0 1 6 v0, kTape 1 v1, kTown 6 14 v2, kLaws 14 v3] : List (List zE)).flatten))
    refine ⟨fun c5 => ?_, fun c5 => ?_⟩
    · rw [if_pos c5] at hf
      obtain ⟨q6, h7, hf⟩ := zbind hf
      refine AW.callVc hZ hR hN (c_Tape_advance N v1 q6 h7) zMX7_advance_ok rfl rfl zK_BorrowedLives_TownReader_72 zV_X7_advance rfl [1, 5, 8, 6] [1] [1, 2, 3, 4, 5] rfl rfl rfl (by decide) (by decide) (by omega) (by decide) (Nat.zero_le _) (Nat.zero_le _) rfl rfl rfl rfl rfl ?_
      rintro v cc ⟨rfl, rfl⟩
      refine ⟨_, rfl, rfl, ?_⟩
      show AW Z 0 0 56 [some (.ref 0), some (.long q1), none] [] ([kReader 0 1 6 v0, kTape 1 (Tape_at_s v1 q6), kTown 6 14 v2, kLaws 14 v3] : List (List zE)).flatten
      refine AW.run hZ hRm [57] 400 ?_
      show AW Z 0 0 57 [some (.ref 0), some (.long q1), none] [.long q1] ([kReader 0 1 6 v0, kTape 1 (Tape_at_s v1 q6), kTown 6 14 v2, kLaws 14 v3] : List (List zE)).flatten
      cases hf
      exact AW.lret hZ hE rfl rfl rfl (Nat.le_refl 0) (Nat.le_refl 0) rfl ⟨rfl, rfl⟩
    · rw [if_neg c5] at hf
      obtain ⟨q8, h11, hf⟩ := zbind hf
      refine AW.callVc hZ hR hN (c_Tape_wrong N v1 3 q8 h11) zMX7_wrong_ok rfl rfl zK_BorrowedLives_TownReader_63 zV_X7_wrong rfl [1, 5, 8, 6] [1] [1, 2, 3, 4, 5] rfl rfl rfl (by decide) (by decide) (by omega) (by decide) (Nat.zero_le _) (Nat.zero_le _) rfl rfl rfl rfl rfl ?_
      rintro v cc ⟨rfl, rfl⟩
      refine ⟨_, rfl, rfl, ?_⟩
      show AW Z 0 0 49 [some (.ref 0), some (.long q1), none] [] ([kReader 0 1 6 v0, kTape 1 (Tape_fault_s v1 q8), kTown 6 14 v2, kLaws 14 v3] : List (List zE)).flatten
      refine AW.run hZ hRm [53] 400 ?_
      show AW Z 0 0 53 [some (.ref 0), some (.long q1), none] [.ref 1] ([kReader 0 1 6 v0, kTape 1 (Tape_fault_s v1 q8), kTown 6 14 v2, kLaws 14 v3] : List (List zE)).flatten
      obtain ⟨q9, h10, hf⟩ := zbind hf
      refine AW.callVc hZ hR hN (c_Tape_advance N (Tape_fault_s v1 q8) q9 h10) zMX7_advance_ok rfl rfl zK_BorrowedLives_TownReader_72 zV_X7_advance rfl [1, 5, 8, 6] [1] [1, 2, 3, 4, 5] rfl rfl rfl (by decide) (by decide) (by omega) (by decide) (Nat.zero_le _) (Nat.zero_le _) rfl rfl rfl rfl rfl ?_
      rintro v cc ⟨rfl, rfl⟩
      refine ⟨_, rfl, rfl, ?_⟩
      show AW Z 0 0 56 [some (.ref 0), some (.long q1), none] [] ([kReader 0 1 6 v0, kTape 1 (Tape_s_at_fault v1 q9 q8), kTown 6 14 v2, kLaws 14 v3] : List (List zE)).flatten
      refine AW.run hZ hRm [57] 400 ?_
      show AW Z 0 0 57 [some (.ref 0), some (.long q1), none] [.long q1] ([kReader 0 1 6 v0, kTape 1 (Tape_s_at_fault v1 q9 q8), kTown 6 14 v2, kLaws 14 v3] : List (List zE)).flatten
      cases hf
      exact AW.lret hZ hE rfl rfl rfl (Nat.le_refl 0) (Nat.le_refl 0) rfl ⟨rfl, rfl⟩
  · rw [if_pos c3] at hf
    obtain ⟨q13, h16, hf⟩ := zbind hf
    refine AW.callVc hZ hR hN (c_Tape_wrong N v1 1 q13 h16) zMX7_wrong_ok rfl rfl zK_BorrowedLives_TownReader_63 zV_X7_wrong rfl [1, 5, 8, 6] [1] [1, 2, 3, 4, 5] rfl rfl rfl (by decide) (by decide) (by omega) (by decide) (Nat.zero_le _) (Nat.zero_le _) rfl rfl rfl rfl rfl ?_
    rintro v cc ⟨rfl, rfl⟩
    refine ⟨_, rfl, rfl, ?_⟩
    show AW Z 0 0 26 [some (.ref 0), some (.long q1), none] [] ([kReader 0 1 6 v0, kTape 1 (Tape_fault_s v1 q13), kTown 6 14 v2, kLaws 14 v3] : List (List zE)).flatten
    refine AW.run hZ hRm [53] 400 ?_
    show AW Z 0 0 53 [some (.ref 0), some (.long q1), none] [.ref 1] ([kReader 0 1 6 v0, kTape 1 (Tape_fault_s v1 q13), kTown 6 14 v2, kLaws 14 v3] : List (List zE)).flatten
    obtain ⟨q14, h15, hf⟩ := zbind hf
    refine AW.callVc hZ hR hN (c_Tape_advance N (Tape_fault_s v1 q13) q14 h15) zMX7_advance_ok rfl rfl zK_BorrowedLives_TownReader_72 zV_X7_advance rfl [1, 5, 8, 6] [1] [1, 2, 3, 4, 5] rfl rfl rfl (by decide) (by decide) (by omega) (by decide) (Nat.zero_le _) (Nat.zero_le _) rfl rfl rfl rfl rfl ?_
    rintro v cc ⟨rfl, rfl⟩
    refine ⟨_, rfl, rfl, ?_⟩
    show AW Z 0 0 56 [some (.ref 0), some (.long q1), none] [] ([kReader 0 1 6 v0, kTape 1 (Tape_s_at_fault v1 q14 q13), kTown 6 14 v2, kLaws 14 v3] : List (List zE)).flatten
    refine AW.run hZ hRm [57] 400 ?_
    show AW Z 0 0 57 [some (.ref 0), some (.long q1), none] [.long q1] ([kReader 0 1 6 v0, kTape 1 (Tape_s_at_fault v1 q14 q13), kTown 6 14 v2, kLaws 14 v3] : List (List zE)).flatten
    cases hf
    exact AW.lret hZ hE rfl rfl rfl (Nat.le_refl 0) (Nat.le_refl 0) rfl ⟨rfl, rfl⟩
def f_Reader_readKind (N : Nat) (v0 : VReader) (v1 : VTape) (v2 : VTown) (v3 : VLaws) : Option (Int32 × Int32 × Int32) := ((f_Tape_token N v1).bind (fun q1 => (if ((q1 - 143) < 0) then ((f_Tape_wrong N v1 1).bind (fun q3 => ((f_Tape_advance N (Tape_fault_s v1 q3)).bind (fun q4 => (some ((q1 - 143), q4, q3)))))) else (if ((q1 - 143) ≤ 3) then ((f_Tape_advance N v1).bind (fun q8 => (some ((q1 - 143), q8, (Tape_fault v1))))) else ((f_Tape_wrong N v1 1).bind (fun q10 => ((f_Tape_advance N (Tape_fault_s v1 q10)).bind (fun q11 => (some ((q1 - 143), q11, q10))))))))))
set_option maxRecDepth 20000 in
set_option maxHeartbeats 4000000 in
theorem c_Reader_readKind (N : Nat) (v0 : VReader) (v1 : VTape) (v2 : VTown) (v3 : VLaws) (R : Int32 × Int32 × Int32) (hf : f_Reader_readKind N v0 v1 v2 v3 = some R) : Ct zMX9_readKind 2 0 0 0 [.ref 0] ([kReader 0 1 6 v0, kTape 1 v1, kTown 6 14 v2, kLaws 14 v3] : List (List zE)).flatten (fun v cc => v = some (.int R.1) ∧ cc = ([kReader 0 1 6 v0, kTape 1 (Tape_s_at_fault v1 R.2.1 R.2.2), kTown 6 14 v2, kLaws 14 v3] : List (List zE)).flatten) := by
  refine Ct.of zMX9_readKind_ok (by decide) (Nat.le_of_ble_eq_true rfl) ?_
  intro Z hZ hR hN hE
  have hRm : zRoom Z 0 0 := zRoom0 Z
  unfold f_Reader_readKind at hf
  show AW Z 0 0 0 [some (.ref 0), none] [] ([kReader 0 1 6 v0, kTape 1 v1, kTown 6 14 v2, kLaws 14 v3] : List (List zE)).flatten
  refine AW.run hZ hRm [4] 400 ?_
  show AW Z 0 0 4 [some (.ref 0), none] [.ref 1] ([kReader 0 1 6 v0, kTape 1 v1, kTown 6 14 v2, kLaws 14 v3] : List (List zE)).flatten
  obtain ⟨q1, h14, hf⟩ := zbind hf
  refine AW.callVc hZ hR hN (c_Tape_token N v1 q1 h14) zMX7_token_ok rfl rfl zK_BorrowedLives_TownReader_46 zV_X7_token rfl [1, 5, 8, 6] [1] [1, 2, 3, 4, 5] rfl rfl rfl (by decide) (by decide) (by omega) (by decide) (Nat.zero_le _) (Nat.zero_le _) rfl rfl rfl rfl rfl ?_
  rintro v cc ⟨rfl, rfl⟩
  refine ⟨_, rfl, rfl, ?_⟩
  show AW Z 0 0 7 [some (.ref 0), none] [.int q1] ([kReader 0 1 6 v0, kTape 1 v1, kTown 6 14 v2, kLaws 14 v3] : List (List zE)).flatten
  refine AW.run hZ hRm [26, 33] 400 ?_
  show ((((q1 - 143) < 0) → AW Z 0 0 26 [some (.ref 0), some (.int (q1 - 143))] [.int 1, .ref 1] ([kReader 0 1 6 v0, kTape 1 v1, kTown 6 14 v2, kLaws 14 v3] : List (List zE)).flatten) ∧ (¬ ((q1 - 143) < 0) → ((((q1 - 143) ≤ 3) → AW Z 0 0 33 [some (.ref 0), some (.int (q1 - 143))] [.ref 1] ([kReader 0 1 6 v0, kTape 1 v1, kTown 6 14 v2, kLaws 14 v3] : List (List zE)).flatten) ∧ (¬ ((q1 - 143) ≤ 3) → AW Z 0 0 26 [some (.ref 0), some (.int (q1 - 143))] [.int 1, .ref 1] ([kReader 0 1 6 v0, kTape 1 v1, kTown 6 14 v2, kLaws 14 v3] : List (List zE)).flatten))))
  refine ⟨fun c2 => ?_, fun c2 => ?_⟩
  · rw [if_pos c2] at hf
    obtain ⟨q3, h6, hf⟩ := zbind hf
    refine AW.callVc hZ hR hN (c_Tape_wrong N v1 1 q3 h6) zMX7_wrong_ok rfl rfl zK_BorrowedLives_TownReader_63 zV_X7_wrong rfl [1, 5, 8, 6] [1] [1, 2, 3, 4, 5] rfl rfl rfl (by decide) (by decide) (by omega) (by decide) (Nat.zero_le _) (Nat.zero_le _) rfl rfl rfl rfl rfl ?_
    rintro v cc ⟨rfl, rfl⟩
    refine ⟨_, rfl, rfl, ?_⟩
    show AW Z 0 0 29 [some (.ref 0), some (.int (q1 - 143))] [] ([kReader 0 1 6 v0, kTape 1 (Tape_fault_s v1 q3), kTown 6 14 v2, kLaws 14 v3] : List (List zE)).flatten
    refine AW.run hZ hRm [33] 400 ?_
    show AW Z 0 0 33 [some (.ref 0), some (.int (q1 - 143))] [.ref 1] ([kReader 0 1 6 v0, kTape 1 (Tape_fault_s v1 q3), kTown 6 14 v2, kLaws 14 v3] : List (List zE)).flatten
    obtain ⟨q4, h5, hf⟩ := zbind hf
    refine AW.callVc hZ hR hN (c_Tape_advance N (Tape_fault_s v1 q3) q4 h5) zMX7_advance_ok rfl rfl zK_BorrowedLives_TownReader_72 zV_X7_advance rfl [1, 5, 8, 6] [1] [1, 2, 3, 4, 5] rfl rfl rfl (by decide) (by decide) (by omega) (by decide) (Nat.zero_le _) (Nat.zero_le _) rfl rfl rfl rfl rfl ?_
    rintro v cc ⟨rfl, rfl⟩
    refine ⟨_, rfl, rfl, ?_⟩
    show AW Z 0 0 36 [some (.ref 0), some (.int (q1 - 143))] [] ([kReader 0 1 6 v0, kTape 1 (Tape_s_at_fault v1 q4 q3), kTown 6 14 v2, kLaws 14 v3] : List (List zE)).flatten
    refine AW.run hZ hRm [37] 400 ?_
    show AW Z 0 0 37 [some (.ref 0), some (.int (q1 - 143))] [.int (q1 - 143)] ([kReader 0 1 6 v0, kTape 1 (Tape_s_at_fault v1 q4 q3), kTown 6 14 v2, kLaws 14 v3] : List (List zE)).flatten
    cases hf
    exact AW.iret hZ hE rfl rfl rfl rfl (Nat.le_refl 0) (Nat.le_refl 0) rfl ⟨rfl, rfl⟩
  · rw [if_neg c2] at hf
    refine ⟨fun c7 => ?_, fun c7 => ?_⟩
    · rw [if_pos c7] at hf
      obtain ⟨q8, h9, hf⟩ := zbind hf
      refine AW.callVc hZ hR hN (c_Tape_advance N v1 q8 h9) zMX7_advance_ok rfl rfl zK_BorrowedLives_TownReader_72 zV_X7_advance rfl [1, 5, 8, 6] [1] [1, 2, 3, 4, 5] rfl rfl rfl (by decide) (by decide) (by omega) (by decide) (Nat.zero_le _) (Nat.zero_le _) rfl rfl rfl rfl rfl ?_
      rintro v cc ⟨rfl, rfl⟩
      refine ⟨_, rfl, rfl, ?_⟩
      show AW Z 0 0 36 [some (.ref 0), some (.int (q1 - 143))] [] ([kReader 0 1 6 v0, kTape 1 (Tape_at_s v1 q8), kTown 6 14 v2, kLaws 14 v3] : List (List zE)).flatten
      refine AW.run hZ hRm [37] 400 ?_
      show AW Z 0 0 37 [some (.ref 0), some (.int (q1 - 143))] [.int (q1 - 143)] ([kReader 0 1 6 v0, kTape 1 (Tape_at_s v1 q8), kTown 6 14 v2, kLaws 14 v3] : List (List zE)).flatten
      cases hf
      exact AW.iret hZ hE rfl rfl rfl rfl (Nat.le_refl 0) (Nat.le_refl 0) rfl ⟨rfl, rfl⟩
    · rw [if_neg c7] at hf
      obtain ⟨q10, h13, hf⟩ := zbind hf
      refine AW.callVc hZ hR hN (c_Tape_wrong N v1 1 q10 h13) zMX7_wrong_ok rfl rfl zK_BorrowedLives_TownReader_63 zV_X7_wrong rfl [1, 5, 8, 6] [1] [1, 2, 3, 4, 5] rfl rfl rfl (by decide) (by decide) (by omega) (by decide) (Nat.zero_le _) (Nat.zero_le _) rfl rfl rfl rfl rfl ?_
      rintro v cc ⟨rfl, rfl⟩
      refine ⟨_, rfl, rfl, ?_⟩
      show AW Z 0 0 29 [some (.ref 0), some (.int (q1 - 143))] [] ([kReader 0 1 6 v0, kTape 1 (Tape_fault_s v1 q10), kTown 6 14 v2, kLaws 14 v3] : List (List zE)).flatten
      refine AW.run hZ hRm [33] 400 ?_
      show AW Z 0 0 33 [some (.ref 0), some (.int (q1 - 143))] [.ref 1] ([kReader 0 1 6 v0, kTape 1 (Tape_fault_s v1 q10), kTown 6 14 v2, kLaws 14 v3] : List (List zE)).flatten
      obtain ⟨q11, h12, hf⟩ := zbind hf
      refine AW.callVc hZ hR hN (c_Tape_advance N (Tape_fault_s v1 q10) q11 h12) zMX7_advance_ok rfl rfl zK_BorrowedLives_TownReader_72 zV_X7_advance rfl [1, 5, 8, 6] [1] [1, 2, 3, 4, 5] rfl rfl rfl (by decide) (by decide) (by omega) (by decide) (Nat.zero_le _) (Nat.zero_le _) rfl rfl rfl rfl rfl ?_
      rintro v cc ⟨rfl, rfl⟩
      refine ⟨_, rfl, rfl, ?_⟩
      show AW Z 0 0 36 [some (.ref 0), some (.int (q1 - 143))] [] ([kReader 0 1 6 v0, kTape 1 (Tape_s_at_fault v1 q11 q10), kTown 6 14 v2, kLaws 14 v3] : List (List zE)).flatten
      refine AW.run hZ hRm [37] 400 ?_
      show AW Z 0 0 37 [some (.ref 0), some (.int (q1 - 143))] [.int (q1 - 143)] ([kReader 0 1 6 v0, kTape 1 (Tape_s_at_fault v1 q11 q10), kTown 6 14 v2, kLaws 14 v3] : List (List zE)).flatten
      cases hf
      exact AW.iret hZ hE rfl rfl rfl rfl (Nat.le_refl 0) (Nat.le_refl 0) rfl ⟨rfl, rfl⟩
def f_Reader_readTold (N : Nat) (v0 : VReader) (v1 : VTape) (v2 : VTown) (v3 : VLaws) (a1 : Int32) (a2 : Int32) : Option (Int32 × Int32 × Int32) := ((f_Tape_expect N v1 a1).bind (fun q1 => ((f_Tape_readNumber N (Tape_s_at_fault v1 q1.1 q1.2) a2).bind (fun q2 => (some (q2.1, q2.2.1, q2.2.2))))))
set_option maxRecDepth 20000 in
set_option maxHeartbeats 4000000 in
theorem c_Reader_readTold (N : Nat) (v0 : VReader) (v1 : VTape) (v2 : VTown) (v3 : VLaws) (a1 : Int32) (a2 : Int32) (R : Int32 × Int32 × Int32) (hf : f_Reader_readTold N v0 v1 v2 v3 a1 a2 = some R) : Ct zMX9_readTold 3 0 0 0 [.ref 0, .int a1, .int a2] ([kReader 0 1 6 v0, kTape 1 v1, kTown 6 14 v2, kLaws 14 v3] : List (List zE)).flatten (fun v cc => v = some (.int R.1) ∧ cc = ([kReader 0 1 6 v0, kTape 1 (Tape_s_at_fault v1 R.2.1 R.2.2), kTown 6 14 v2, kLaws 14 v3] : List (List zE)).flatten) := by
  refine Ct.of zMX9_readTold_ok (by decide) (Nat.le_of_ble_eq_true rfl) ?_
  intro Z hZ hR hN hE
  have hRm : zRoom Z 0 0 := zRoom0 Z
  unfold f_Reader_readTold at hf
  show AW Z 0 0 0 [some (.ref 0), some (.int a1), some (.int a2)] [] ([kReader 0 1 6 v0, kTape 1 v1, kTown 6 14 v2, kLaws 14 v3] : List (List zE)).flatten
  refine AW.run hZ hRm [5] 400 ?_
  show AW Z 0 0 5 [some (.ref 0), some (.int a1), some (.int a2)] [.int a1, .ref 1] ([kReader 0 1 6 v0, kTape 1 v1, kTown 6 14 v2, kLaws 14 v3] : List (List zE)).flatten
  obtain ⟨q1, h4, hf⟩ := zbind hf
  refine AW.callVc hZ hR hN (c_Tape_expect N v1 a1 q1 h4) zMX7_expect_ok rfl rfl zK_BorrowedLives_TownReader_66 zV_X7_expect rfl [1, 5, 8, 6] [1] [1, 2, 3, 4, 5] rfl rfl rfl (by decide) (by decide) (by omega) (by decide) (Nat.zero_le _) (Nat.zero_le _) rfl rfl rfl rfl rfl ?_
  rintro v cc ⟨rfl, rfl⟩
  refine ⟨_, rfl, rfl, ?_⟩
  show AW Z 0 0 8 [some (.ref 0), some (.int a1), some (.int a2)] [] ([kReader 0 1 6 v0, kTape 1 (Tape_s_at_fault v1 q1.1 q1.2), kTown 6 14 v2, kLaws 14 v3] : List (List zE)).flatten
  refine AW.run hZ hRm [13] 400 ?_
  show AW Z 0 0 13 [some (.ref 0), some (.int a1), some (.int a2)] [.int a2, .ref 1] ([kReader 0 1 6 v0, kTape 1 (Tape_s_at_fault v1 q1.1 q1.2), kTown 6 14 v2, kLaws 14 v3] : List (List zE)).flatten
  obtain ⟨q2, h3, hf⟩ := zbind hf
  refine AW.callVc hZ hR hN (c_Tape_readNumber N (Tape_s_at_fault v1 q1.1 q1.2) a2 q2 h3) zMX7_readNumber_ok rfl rfl zK_BorrowedLives_TownReader_114 zV_X7_readNumber rfl [1, 5, 8, 6] [1] [1, 2, 3, 4, 5] rfl rfl rfl (by decide) (by decide) (by omega) (by decide) (Nat.zero_le _) (Nat.zero_le _) rfl rfl rfl rfl rfl ?_
  rintro v cc ⟨rfl, rfl⟩
  refine ⟨_, rfl, rfl, ?_⟩
  show AW Z 0 0 16 [some (.ref 0), some (.int a1), some (.int a2)] [.int q2.1] ([kReader 0 1 6 v0, kTape 1 (Tape_s_at_fault v1 q2.2.1 q2.2.2), kTown 6 14 v2, kLaws 14 v3] : List (List zE)).flatten
  cases hf
  exact AW.iret hZ hE rfl rfl rfl rfl (Nat.le_refl 0) (Nat.le_refl 0) rfl ⟨rfl, rfl⟩
def f_Reader_readPersonLine (N : Nat) (v0 : VReader) (v1 : VTape) (v2 : VTown) (v3 : VLaws) : Option (Int32 × Int32 × Int32 × (Nat → Int64) × (Nat → Int32) × (Nat → Int32) × (Nat → Int32) × (Nat → Int32) × (Nat → Int32)) := (if ((Town_people v2) < 6) then ((f_Tape_advance N v1).bind (fun q2 => ((f_Reader_readNewName N v0 (Tape_at_s v1 q2) v2 v3).bind (fun q3 => ((f_Reader_readKind N v0 (Tape_s_at_fault v1 q3.2.1 q3.2.2) v2 v3).bind (fun q4 => ((f_Reader_readTold N v0 (Tape_s_at_fault v1 q4.2.1 q4.2.2) v2 v3 129 9).bind (fun q5 => ((f_Reader_readTold N v0 (Tape_s_at_fault v1 q5.2.1 q5.2.2) v2 v3 130 999).bind (fun q6 => ((f_Reader_readTold N v0 (Tape_s_at_fault v1 q6.2.1 q6.2.2) v2 v3 131 999).bind (fun q7 => ((f_Reader_readTold N v0 (Tape_s_at_fault v1 q7.2.1 q7.2.2) v2 v3 132 9).bind (fun q8 => (if (q8.2.2 = 0) then ((f_Town_addPerson N v2 v3 q3.1 q4.1 q5.1).bind (fun q13 => ((f_Town_has N (Town_s_people_names_kinds_skills v2 q13.2.1 q13.2.2.1 q13.2.2.2.1 q13.2.2.2.2) v3 q13.1).bind (fun q14 => (if (q14 = 0) then (some (q8.2.1, q8.2.2, q13.2.1, q13.2.2.1, q13.2.2.2.1, q13.2.2.2.2, (Town_purses v2), (Town_debts v2), (Town_homes v2))) else (if (q13.1 < 0 ∨ 6 ≤ Int32.toNatClampNeg q13.1) then none else (if (q13.1 < 0 ∨ 6 ≤ Int32.toNatClampNeg q13.1) then none else (if (q13.1 < 0 ∨ 6 ≤ Int32.toNatClampNeg q13.1) then none else (some (q8.2.1, q8.2.2, q13.2.1, q13.2.2.1, q13.2.2.2.1, q13.2.2.2.2, (upd (Town_purses v2) (Int32.toNatClampNeg q13.1) q6.1), (upd (Town_debts v2) (Int32.toNatClampNeg q13.1) q7.1), (upd (Town_homes v2) (Int32.toNatClampNeg q13.1) q8.1))))))))))) else ((f_Town_has N v2 v3 (-1)).bind (fun q10 => (if (q10 = 0) then (some (q8.2.1, q8.2.2, (Town_people v2), (Town_names v2), (Town_kinds v2), (Town_skills v2), (Town_purses v2), (Town_debts v2), (Town_homes v2))) else none)))))))))))))))))) else ((f_Tape_wrong N v1 5).bind (fun q28 => (some ((Tape_at v1), q28, (Town_people v2), (Town_names v2), (Town_kinds v2), (Town_skills v2), (Town_purses v2), (Town_debts v2), (Town_homes v2))))))
set_option maxRecDepth 20000 in
set_option maxHeartbeats 4000000 in
theorem c_Reader_readPersonLine (N : Nat) (v0 : VReader) (v1 : VTape) (v2 : VTown) (v3 : VLaws) (R : Int32 × Int32 × Int32 × (Nat → Int64) × (Nat → Int32) × (Nat → Int32) × (Nat → Int32) × (Nat → Int32) × (Nat → Int32)) (hf : f_Reader_readPersonLine N v0 v1 v2 v3 = some R) : Ct zMX9_readPersonLine 4 0 0 0 [.ref 0] ([kReader 0 1 6 v0, kTape 1 v1, kTown 6 14 v2, kLaws 14 v3] : List (List zE)).flatten (fun v cc => v = none ∧ cc = ([kReader 0 1 6 v0, kTape 1 (Tape_s_at_fault v1 R.1 R.2.1), kTown 6 14 (Town_s_people_names_kinds_skills_purses_debts_homes v2 R.2.2.1 R.2.2.2.1 R.2.2.2.2.1 R.2.2.2.2.2.1 R.2.2.2.2.2.2.1 R.2.2.2.2.2.2.2.1 R.2.2.2.2.2.2.2.2), kLaws 14 v3] : List (List zE)).flatten) := by
  refine Ct.of zMX9_readPersonLine_ok (by decide) (Nat.le_of_ble_eq_true rfl) ?_
  intro Z hZ hR hN hE
  have hRm : zRoom Z 0 0 := zRoom0 Z
  unfold f_Reader_readPersonLine at hf
  show AW Z 0 0 0 [some (.ref 0), none, none, none, none, none, none, none, none] [] ([kReader 0 1 6 v0, kTape 1 v1, kTown 6 14 v2, kLaws 14 v3] : List (List zE)).flatten
  refine AW.run hZ hRm [17, 25] 400 ?_
  show ((((Town_people v2) < 6) → AW Z 0 0 25 [some (.ref 0), none, none, none, none, none, none, none, none] [.ref 1] ([kReader 0 1 6 v0, kTape 1 v1, kTown 6 14 v2, kLaws 14 v3] : List (List zE)).flatten) ∧ (¬ ((Town_people v2) < 6) → AW Z 0 0 17 [some (.ref 0), none, none, none, none, none, none, none, none] [.int 5, .ref 1] ([kReader 0 1 6 v0, kTape 1 v1, kTown 6 14 v2, kLaws 14 v3] : List (List zE)).flatten))
  refine ⟨fun c1 => ?_, fun c1 => ?_⟩
  · rw [if_pos c1] at hf
    obtain ⟨q2, h27, hf⟩ := zbind hf
    refine AW.callVc hZ hR hN (c_Tape_advance N v1 q2 h27) zMX7_advance_ok rfl rfl zK_BorrowedLives_TownReader_72 zV_X7_advance rfl [1, 5, 8, 6] [1] [1, 2, 3, 4, 5] rfl rfl rfl (by decide) (by decide) (by omega) (by decide) (Nat.zero_le _) (Nat.zero_le _) rfl rfl rfl rfl rfl ?_
    rintro v cc ⟨rfl, rfl⟩
    refine ⟨_, rfl, rfl, ?_⟩
    show AW Z 0 0 28 [some (.ref 0), none, none, none, none, none, none, none, none] [] ([kReader 0 1 6 v0, kTape 1 (Tape_at_s v1 q2), kTown 6 14 v2, kLaws 14 v3] : List (List zE)).flatten
    refine AW.run hZ hRm [29] 400 ?_
    show AW Z 0 0 29 [some (.ref 0), none, none, none, none, none, none, none, none] [.ref 0] ([kReader 0 1 6 v0, kTape 1 (Tape_at_s v1 q2), kTown 6 14 v2, kLaws 14 v3] : List (List zE)).flatten
    obtain ⟨q3, h26, hf⟩ := zbind hf
    refine AW.callVc hZ hR hN (c_Reader_readNewName N v0 (Tape_at_s v1 q2) v2 v3 q3 h26) zMX9_readNewName_ok rfl rfl zK_BorrowedLives_TownReader_75 zV_X9_readNewName rfl [1, 5, 8, 6] [0, 1, 2, 3] [0, 1, 2, 3, 4, 5, 6, 7, 8, 9, 10, 11, 12, 13, 14, 15, 16, 17, 18, 19] rfl rfl rfl (by decide) (by decide) (by omega) (by decide) (Nat.zero_le _) (Nat.zero_le _) rfl rfl rfl rfl rfl ?_
    rintro v cc ⟨rfl, rfl⟩
    refine ⟨_, rfl, rfl, ?_⟩
    show AW Z 0 0 32 [some (.ref 0), none, none, none, none, none, none, none, none] [.long q3.1] ([kReader 0 1 6 v0, kTape 1 (Tape_s_at_fault v1 q3.2.1 q3.2.2), kTown 6 14 v2, kLaws 14 v3] : List (List zE)).flatten
    refine AW.run hZ hRm [34] 400 ?_
    show AW Z 0 0 34 [some (.ref 0), some (.long q3.1), none, none, none, none, none, none, none] [.ref 0] ([kReader 0 1 6 v0, kTape 1 (Tape_s_at_fault v1 q3.2.1 q3.2.2), kTown 6 14 v2, kLaws 14 v3] : List (List zE)).flatten
    obtain ⟨q4, h25, hf⟩ := zbind hf
    refine AW.callVc hZ hR hN (c_Reader_readKind N v0 (Tape_s_at_fault v1 q3.2.1 q3.2.2) v2 v3 q4 h25) zMX9_readKind_ok rfl rfl zK_BorrowedLives_TownReader_79 zV_X9_readKind rfl [1, 5, 8, 6] [0, 1, 2, 3] [0, 1, 2, 3, 4, 5, 6, 7, 8, 9, 10, 11, 12, 13, 14, 15, 16, 17, 18, 19] rfl rfl rfl (by decide) (by decide) (by omega) (by decide) (Nat.zero_le _) (Nat.zero_le _) rfl rfl rfl rfl rfl ?_
    rintro v cc ⟨rfl, rfl⟩
    refine ⟨_, rfl, rfl, ?_⟩
    show AW Z 0 0 37 [some (.ref 0), some (.long q3.1), none, none, none, none, none, none, none] [.int q4.1] ([kReader 0 1 6 v0, kTape 1 (Tape_s_at_fault v1 q4.2.1 q4.2.2), kTown 6 14 v2, kLaws 14 v3] : List (List zE)).flatten
    refine AW.run hZ hRm [44] 400 ?_
    show AW Z 0 0 44 [some (.ref 0), some (.long q3.1), none, some (.int q4.1), none, none, none, none, none] [.int 9, .int 129, .ref 0] ([kReader 0 1 6 v0, kTape 1 (Tape_s_at_fault v1 q4.2.1 q4.2.2), kTown 6 14 v2, kLaws 14 v3] : List (List zE)).flatten
    obtain ⟨q5, h24, hf⟩ := zbind hf
    refine AW.callVc hZ hR hN (c_Reader_readTold N v0 (Tape_s_at_fault v1 q4.2.1 q4.2.2) v2 v3 129 9 q5 h24) zMX9_readTold_ok rfl rfl zK_BorrowedLives_TownReader_82 zV_X9_readTold rfl [1, 5, 8, 6] [0, 1, 2, 3] [0, 1, 2, 3, 4, 5, 6, 7, 8, 9, 10, 11, 12, 13, 14, 15, 16, 17, 18, 19] rfl rfl rfl (by decide) (by decide) (by omega) (by decide) (Nat.zero_le _) (Nat.zero_le _) rfl rfl rfl rfl rfl ?_
    rintro v cc ⟨rfl, rfl⟩
    refine ⟨_, rfl, rfl, ?_⟩
    show AW Z 0 0 47 [some (.ref 0), some (.long q3.1), none, some (.int q4.1), none, none, none, none, none] [.int q5.1] ([kReader 0 1 6 v0, kTape 1 (Tape_s_at_fault v1 q5.2.1 q5.2.2), kTown 6 14 v2, kLaws 14 v3] : List (List zE)).flatten
    refine AW.run hZ hRm [56] 400 ?_
    show AW Z 0 0 56 [some (.ref 0), some (.long q3.1), none, some (.int q4.1), some (.int q5.1), none, none, none, none] [.int 999, .int 130, .ref 0] ([kReader 0 1 6 v0, kTape 1 (Tape_s_at_fault v1 q5.2.1 q5.2.2), kTown 6 14 v2, kLaws 14 v3] : List (List zE)).flatten
    obtain ⟨q6, h23, hf⟩ := zbind hf
    refine AW.callVc hZ hR hN (c_Reader_readTold N v0 (Tape_s_at_fault v1 q5.2.1 q5.2.2) v2 v3 130 999 q6 h23) zMX9_readTold_ok rfl rfl zK_BorrowedLives_TownReader_82 zV_X9_readTold rfl [1, 5, 8, 6] [0, 1, 2, 3] [0, 1, 2, 3, 4, 5, 6, 7, 8, 9, 10, 11, 12, 13, 14, 15, 16, 17, 18, 19] rfl rfl rfl (by decide) (by decide) (by omega) (by decide) (Nat.zero_le _) (Nat.zero_le _) rfl rfl rfl rfl rfl ?_
    rintro v cc ⟨rfl, rfl⟩
    refine ⟨_, rfl, rfl, ?_⟩
    show AW Z 0 0 59 [some (.ref 0), some (.long q3.1), none, some (.int q4.1), some (.int q5.1), none, none, none, none] [.int q6.1] ([kReader 0 1 6 v0, kTape 1 (Tape_s_at_fault v1 q6.2.1 q6.2.2), kTown 6 14 v2, kLaws 14 v3] : List (List zE)).flatten
    refine AW.run hZ hRm [68] 400 ?_
    show AW Z 0 0 68 [some (.ref 0), some (.long q3.1), none, some (.int q4.1), some (.int q5.1), some (.int q6.1), none, none, none] [.int 999, .int 131, .ref 0] ([kReader 0 1 6 v0, kTape 1 (Tape_s_at_fault v1 q6.2.1 q6.2.2), kTown 6 14 v2, kLaws 14 v3] : List (List zE)).flatten
    obtain ⟨q7, h22, hf⟩ := zbind hf
    refine AW.callVc hZ hR hN (c_Reader_readTold N v0 (Tape_s_at_fault v1 q6.2.1 q6.2.2) v2 v3 131 999 q7 h22) zMX9_readTold_ok rfl rfl zK_BorrowedLives_TownReader_82 zV_X9_readTold rfl [1, 5, 8, 6] [0, 1, 2, 3] [0, 1, 2, 3, 4, 5, 6, 7, 8, 9, 10, 11, 12, 13, 14, 15, 16, 17, 18, 19] rfl rfl rfl (by decide) (by decide) (by omega) (by decide) (Nat.zero_le _) (Nat.zero_le _) rfl rfl rfl rfl rfl ?_
    rintro v cc ⟨rfl, rfl⟩
    refine ⟨_, rfl, rfl, ?_⟩
    show AW Z 0 0 71 [some (.ref 0), some (.long q3.1), none, some (.int q4.1), some (.int q5.1), some (.int q6.1), none, none, none] [.int q7.1] ([kReader 0 1 6 v0, kTape 1 (Tape_s_at_fault v1 q7.2.1 q7.2.2), kTown 6 14 v2, kLaws 14 v3] : List (List zE)).flatten
    refine AW.run hZ hRm [79] 400 ?_
    show AW Z 0 0 79 [some (.ref 0), some (.long q3.1), none, some (.int q4.1), some (.int q5.1), some (.int q6.1), some (.int q7.1), none, none] [.int 9, .int 132, .ref 0] ([kReader 0 1 6 v0, kTape 1 (Tape_s_at_fault v1 q7.2.1 q7.2.2), kTown 6 14 v2, kLaws 14 v3] : List (List zE)).flatten
    obtain ⟨q8, h21, hf⟩ := zbind hf
    refine AW.callVc hZ hR hN (c_Reader_readTold N v0 (Tape_s_at_fault v1 q7.2.1 q7.2.2) v2 v3 132 9 q8 h21) zMX9_readTold_ok rfl rfl zK_BorrowedLives_TownReader_82 zV_X9_readTold rfl [1, 5, 8, 6] [0, 1, 2, 3] [0, 1, 2, 3, 4, 5, 6, 7, 8, 9, 10, 11, 12, 13, 14, 15, 16, 17, 18, 19] rfl rfl rfl (by decide) (by decide) (by omega) (by decide) (Nat.zero_le _) (Nat.zero_le _) rfl rfl rfl rfl rfl ?_
    rintro v cc ⟨rfl, rfl⟩
    refine ⟨_, rfl, rfl, ?_⟩
    show AW Z 0 0 82 [some (.ref 0), some (.long q3.1), none, some (.int q4.1), some (.int q5.1), some (.int q6.1), some (.int q7.1), none, none] [.int q8.1] ([kReader 0 1 6 v0, kTape 1 (Tape_s_at_fault v1 q8.2.1 q8.2.2), kTown 6 14 v2, kLaws 14 v3] : List (List zE)).flatten
    refine AW.run hZ hRm [102, 117] 400 ?_
    show ((¬ (q8.2.2 = 0) → AW Z 0 0 117 [some (.ref 0), some (.long q3.1), none, some (.int q4.1), some (.int q5.1), some (.int q6.1), some (.int q7.1), some (.int q8.1), some (.int (-1))] [.int (-1), .ref 6] ([kReader 0 1 6 v0, kTape 1 (Tape_s_at_fault v1 q8.2.1 q8.2.2), kTown 6 14 v2, kLaws 14 v3] : List (List zE)).flatten) ∧ ((q8.2.2 = 0) → AW Z 0 0 102 [some (.ref 0), some (.long q3.1), none, some (.int q4.1), some (.int q5.1), some (.int q6.1), some (.int q7.1), some (.int q8.1), none] [.int q5.1, .int q4.1, .long q3.1, .ref 6] ([kReader 0 1 6 v0, kTape 1 (Tape_s_at_fault v1 q8.2.1 q8.2.2), kTown 6 14 v2, kLaws 14 v3] : List (List zE)).flatten))
    refine ⟨fun c9 => ?_, fun c9 => ?_⟩
    · rw [if_neg c9] at hf
      obtain ⟨q10, h12, hf⟩ := zbind hf
      refine AW.callVc hZ hR hN (c_Town_has N v2 v3 (-1) q10 h12) zMX8_has_ok rfl rfl zK_BorrowedLives_TownReader_90 zV_X8_has rfl [1, 5, 8, 6] [2, 3] [6, 7, 8, 9, 10, 11, 12, 13, 14, 15, 16, 17, 18, 19] rfl rfl rfl (by decide) (by decide) (by omega) (by decide) (Nat.zero_le _) (Nat.zero_le _) rfl rfl rfl rfl rfl ?_
      rintro v cc ⟨rfl, rfl⟩
      refine ⟨_, rfl, rfl, ?_⟩
      show AW Z 0 0 120 [some (.ref 0), some (.long q3.1), none, some (.int q4.1), some (.int q5.1), some (.int q6.1), some (.int q7.1), some (.int q8.1), some (.int (-1))] [.int q10] ([kReader 0 1 6 v0, kTape 1 (Tape_s_at_fault v1 q8.2.1 q8.2.2), kTown 6 14 v2, kLaws 14 v3] : List (List zE)).flatten
      refine AW.run hZ hRm [159] 400 ?_
      show (((q10 = 0) → AW Z 0 0 159 [some (.ref 0), some (.long q3.1), none, some (.int q4.1), some (.int q5.1), some (.int q6.1), some (.int q7.1), some (.int q8.1), some (.int (-1))] [] ([kReader 0 1 6 v0, kTape 1 (Tape_s_at_fault v1 q8.2.1 q8.2.2), kTown 6 14 v2, kLaws 14 v3] : List (List zE)).flatten) ∧ (¬ (q10 = 0) → (¬ (((-1) : Int32) < 0 ∨ 6 ≤ Int32.toNatClampNeg (-1)) ∧ (¬ (((-1) : Int32) < 0 ∨ 6 ≤ Int32.toNatClampNeg (-1)) ∧ (¬ (((-1) : Int32) < 0 ∨ 6 ≤ Int32.toNatClampNeg (-1)) ∧ AW Z 0 0 159 [some (.ref 0), some (.long q3.1), none, some (.int q4.1), some (.int q5.1), some (.int q6.1), some (.int q7.1), some (.int q8.1), some (.int (-1))] [] ([kReader 0 1 6 v0, kTape 1 (Tape_s_at_fault v1 q8.2.1 q8.2.2), kTown 6 14 (Town_s_purses_debts_homes v2 (upd (Town_purses v2) (Int32.toNatClampNeg (-1)) q6.1) (upd (Town_debts v2) (Int32.toNatClampNeg (-1)) q7.1) (upd (Town_homes v2) (Int32.toNatClampNeg (-1)) q8.1)), kLaws 14 v3] : List (List zE)).flatten)))))
      refine ⟨fun c11 => ?_, fun c11 => ?_⟩
      · rw [if_pos c11] at hf
        cases hf
        exact AW.vret hZ hE rfl rfl rfl (Nat.le_refl 0) (Nat.le_refl 0) rfl ⟨rfl, rfl⟩
      · rw [if_neg c11] at hf
        cases hf
    · rw [if_pos c9] at hf
      obtain ⟨q13, h20, hf⟩ := zbind hf
      refine AW.callVc hZ hR hN (c_Town_addPerson N v2 v3 q3.1 q4.1 q5.1 q13 h20) zMX8_addPerson_ok rfl rfl zK_BorrowedLives_TownReader_86 zV_X8_addPerson rfl [1, 5, 8, 6] [2, 3] [6, 7, 8, 9, 10, 11, 12, 13, 14, 15, 16, 17, 18, 19] rfl rfl rfl (by decide) (by decide) (by omega) (by decide) (Nat.zero_le _) (Nat.zero_le _) rfl rfl rfl rfl rfl ?_
      rintro v cc ⟨rfl, rfl⟩
      refine ⟨_, rfl, rfl, ?_⟩
      show AW Z 0 0 105 [some (.ref 0), some (.long q3.1), none, some (.int q4.1), some (.int q5.1), some (.int q6.1), some (.int q7.1), some (.int q8.1), none] [.int q13.1] ([kReader 0 1 6 v0, kTape 1 (Tape_s_at_fault v1 q8.2.1 q8.2.2), kTown 6 14 (Town_s_people_names_kinds_skills v2 q13.2.1 q13.2.2.1 q13.2.2.2.1 q13.2.2.2.2), kLaws 14 v3] : List (List zE)).flatten
      refine AW.run hZ hRm [117] 400 ?_
      show AW Z 0 0 117 [some (.ref 0), some (.long q3.1), none, some (.int q4.1), some (.int q5.1), some (.int q6.1), some (.int q7.1), some (.int q8.1), some (.int q13.1)] [.int q13.1, .ref 6] ([kReader 0 1 6 v0, kTape 1 (Tape_s_at_fault v1 q8.2.1 q8.2.2), kTown 6 14 (Town_s_people_names_kinds_skills v2 q13.2.1 q13.2.2.1 q13.2.2.2.1 q13.2.2.2.2), kLaws 14 v3] : List (List zE)).flatten
      obtain ⟨q14, h19, hf⟩ := zbind hf
      refine AW.callVc hZ hR hN (c_Town_has N (Town_s_people_names_kinds_skills v2 q13.2.1 q13.2.2.1 q13.2.2.2.1 q13.2.2.2.2) v3 q13.1 q14 h19) zMX8_has_ok rfl rfl zK_BorrowedLives_TownReader_90 zV_X8_has rfl [1, 5, 8, 6] [2, 3] [6, 7, 8, 9, 10, 11, 12, 13, 14, 15, 16, 17, 18, 19] rfl rfl rfl (by decide) (by decide) (by omega) (by decide) (Nat.zero_le _) (Nat.zero_le _) rfl rfl rfl rfl rfl ?_
      rintro v cc ⟨rfl, rfl⟩
      refine ⟨_, rfl, rfl, ?_⟩
      show AW Z 0 0 120 [some (.ref 0), some (.long q3.1), none, some (.int q4.1), some (.int q5.1), some (.int q6.1), some (.int q7.1), some (.int q8.1), some (.int q13.1)] [.int q14] ([kReader 0 1 6 v0, kTape 1 (Tape_s_at_fault v1 q8.2.1 q8.2.2), kTown 6 14 (Town_s_people_names_kinds_skills v2 q13.2.1 q13.2.2.1 q13.2.2.2.1 q13.2.2.2.2), kLaws 14 v3] : List (List zE)).flatten
      refine AW.run hZ hRm [159] 400 ?_
      show (((q14 = 0) → AW Z 0 0 159 [some (.ref 0), some (.long q3.1), none, some (.int q4.1), some (.int q5.1), some (.int q6.1), some (.int q7.1), some (.int q8.1), some (.int q13.1)] [] ([kReader 0 1 6 v0, kTape 1 (Tape_s_at_fault v1 q8.2.1 q8.2.2), kTown 6 14 (Town_s_people_names_kinds_skills v2 q13.2.1 q13.2.2.1 q13.2.2.2.1 q13.2.2.2.2), kLaws 14 v3] : List (List zE)).flatten) ∧ (¬ (q14 = 0) → (¬ (q13.1 < 0 ∨ 6 ≤ Int32.toNatClampNeg q13.1) ∧ (¬ (q13.1 < 0 ∨ 6 ≤ Int32.toNatClampNeg q13.1) ∧ (¬ (q13.1 < 0 ∨ 6 ≤ Int32.toNatClampNeg q13.1) ∧ AW Z 0 0 159 [some (.ref 0), some (.long q3.1), none, some (.int q4.1), some (.int q5.1), some (.int q6.1), some (.int q7.1), some (.int q8.1), some (.int q13.1)] [] ([kReader 0 1 6 v0, kTape 1 (Tape_s_at_fault v1 q8.2.1 q8.2.2), kTown 6 14 (Town_s_people_names_kinds_skills_purses_debts_homes v2 q13.2.1 q13.2.2.1 q13.2.2.2.1 q13.2.2.2.2 (upd (Town_purses v2) (Int32.toNatClampNeg q13.1) q6.1) (upd (Town_debts v2) (Int32.toNatClampNeg q13.1) q7.1) (upd (Town_homes v2) (Int32.toNatClampNeg q13.1) q8.1)), kLaws 14 v3] : List (List zE)).flatten)))))
      refine ⟨fun c15 => ?_, fun c15 => ?_⟩
      · rw [if_pos c15] at hf
        cases hf
        exact AW.vret hZ hE rfl rfl rfl (Nat.le_refl 0) (Nat.le_refl 0) rfl ⟨rfl, rfl⟩
      · rw [if_neg c15] at hf
        obtain ⟨b18, hf⟩ := zneed hf
        refine ⟨b18, ?_⟩
        obtain ⟨b17, hf⟩ := zneed hf
        refine ⟨b17, ?_⟩
        obtain ⟨b16, hf⟩ := zneed hf
        refine ⟨b16, ?_⟩
        cases hf
        exact AW.vret hZ hE rfl rfl rfl (Nat.le_refl 0) (Nat.le_refl 0) rfl ⟨rfl, rfl⟩
  · rw [if_neg c1] at hf
    obtain ⟨q28, h29, hf⟩ := zbind hf
    refine AW.callVc hZ hR hN (c_Tape_wrong N v1 5 q28 h29) zMX7_wrong_ok rfl rfl zK_BorrowedLives_TownReader_63 zV_X7_wrong rfl [1, 5, 8, 6] [1] [1, 2, 3, 4, 5] rfl rfl rfl (by decide) (by decide) (by omega) (by decide) (Nat.zero_le _) (Nat.zero_le _) rfl rfl rfl rfl rfl ?_
    rintro v cc ⟨rfl, rfl⟩
    refine ⟨_, rfl, rfl, ?_⟩
    show AW Z 0 0 20 [some (.ref 0), none, none, none, none, none, none, none, none] [] ([kReader 0 1 6 v0, kTape 1 (Tape_fault_s v1 q28), kTown 6 14 v2, kLaws 14 v3] : List (List zE)).flatten
    cases hf
    exact AW.vret hZ hE rfl rfl rfl (Nat.le_refl 0) (Nat.le_refl 0) rfl ⟨rfl, rfl⟩
