def f_Lives_begin (N : Nat) (v0 : VLives) (v1 : VTown) (v2 : VLaws) : Option ((Nat → Int32) × (Nat → Int32) × (Nat → Int32) × (Nat → Int32) × (Nat → Int32) × Int32 × Int32 × Int32 × Int32) := ((f_Lives_comeBack N (Lives_s_purse_debt_home_homes_harm v0 (va_cpy (Town_purses v1) (Lives_purse v0) (Int32.toNatClampNeg 0) (Int32.toNatClampNeg 0) (Int32.toNatClampNeg 6)) (va_cpy (Town_debts v1) (Lives_debt v0) (Int32.toNatClampNeg 0) (Int32.toNatClampNeg 0) (Int32.toNatClampNeg 6)) (va_cpy (Town_homes v1) (Lives_home v0) (Int32.toNatClampNeg 0) (Int32.toNatClampNeg 0) (Int32.toNatClampNeg 6)) 0 0) v1 v2).bind (fun q1 => (zlet ((va_cpy (Town_debts v1) (Lives_debt v0) (Int32.toNatClampNeg 0) (Int32.toNatClampNeg 0) (Int32.toNatClampNeg 6)) : (Nat → Int32)) (fun z2 => (zlet ((va_cpy (Town_homes v1) (Lives_home v0) (Int32.toNatClampNeg 0) (Int32.toNatClampNeg 0) (Int32.toNatClampNeg 6)) : (Nat → Int32)) (fun z3 => (zlet ((va_cpy (Town_purses v1) (Lives_purse v0) (Int32.toNatClampNeg 0) (Int32.toNatClampNeg 0) (Int32.toNatClampNeg 6)) : (Nat → Int32)) (fun z4 => (some (z4, z2, z3, q1.1, q1.2.1, q1.2.2.1, q1.2.2.2, 0, 0))))))))))
set_option maxRecDepth 20000 in
set_option maxHeartbeats 4000000 in
theorem c_Lives_begin (N : Nat) (v0 : VLives) (v1 : VTown) (v2 : VLaws) (R : (Nat → Int32) × (Nat → Int32) × (Nat → Int32) × (Nat → Int32) × (Nat → Int32) × Int32 × Int32 × Int32 × Int32) (hf : f_Lives_begin N v0 v1 v2 = some R) : Ct zMX3_begin 2 0 0 0 [.ref 0] ([kLives 0 8 v0, kTown 8 16 v1, kLaws 16 v2] : List (List zE)).flatten (fun v cc => v = none ∧ cc = ([kLives 0 8 (Lives_s_purse_debt_home_hidden_self_away_days_homes_harm v0 R.1 R.2.1 R.2.2.1 R.2.2.2.1 R.2.2.2.2.1 R.2.2.2.2.2.1 R.2.2.2.2.2.2.1 R.2.2.2.2.2.2.2.1 R.2.2.2.2.2.2.2.2), kTown 8 16 v1, kLaws 16 v2] : List (List zE)).flatten) := by
  refine Ct.of zMX3_begin_ok (by decide) (Nat.le_of_ble_eq_true rfl) ?_
  intro Z hZ hR hN hE
  have hRm : zRoom Z 0 0 := zRoom0 Z
  unfold f_Lives_begin at hf
  show AW Z 0 0 0 [some (.ref 0)] [] ([kLives 0 8 v0, kTown 8 16 v1, kLaws 16 v2] : List (List zE)).flatten
  refine AW.run hZ hRm [65] 400 ?_
  show ((zcpyOk 0 0 6 6 6) ∧ ((zcpyOk 0 0 6 6 6) ∧ ((zcpyOk 0 0 6 6 6) ∧ AW Z 0 0 65 [some (.ref 0)] [.ref 0] ([kLives 0 8 (Lives_s_purse_debt_home_homes_harm v0 (va_cpy (Town_purses v1) (Lives_purse v0) (Int32.toNatClampNeg 0) (Int32.toNatClampNeg 0) (Int32.toNatClampNeg 6)) (va_cpy (Town_debts v1) (Lives_debt v0) (Int32.toNatClampNeg 0) (Int32.toNatClampNeg 0) (Int32.toNatClampNeg 6)) (va_cpy (Town_homes v1) (Lives_home v0) (Int32.toNatClampNeg 0) (Int32.toNatClampNeg 0) (Int32.toNatClampNeg 6)) 0 0), kTown 8 16 v1, kLaws 16 v2] : List (List zE)).flatten)))
  refine ⟨(by unfold zcpyOk; decide), ?_⟩
  refine ⟨(by unfold zcpyOk; decide), ?_⟩
  refine ⟨(by unfold zcpyOk; decide), ?_⟩
  obtain ⟨q1, h5, hf⟩ := zbind hf
  refine AW.callVc hZ hR hN (c_Lives_comeBack N (Lives_s_purse_debt_home_homes_harm v0 (va_cpy (Town_purses v1) (Lives_purse v0) (Int32.toNatClampNeg 0) (Int32.toNatClampNeg 0) (Int32.toNatClampNeg 6)) (va_cpy (Town_debts v1) (Lives_debt v0) (Int32.toNatClampNeg 0) (Int32.toNatClampNeg 0) (Int32.toNatClampNeg 6)) (va_cpy (Town_homes v1) (Lives_home v0) (Int32.toNatClampNeg 0) (Int32.toNatClampNeg 0) (Int32.toNatClampNeg 6)) 0 0) v1 v2 q1 h5) zMX3_comeBack_ok rfl rfl zK_BorrowedLives_Lives_67 zV_X3_comeBack rfl [8, 8, 6] [0, 1, 2] [0, 1, 2, 3, 4, 5, 6, 7, 8, 9, 10, 11, 12, 13, 14, 15, 16, 17, 18, 19, 20, 21] rfl rfl rfl (by decide) (by decide) (by omega) (by decide) (Nat.zero_le _) (Nat.zero_le _) rfl rfl rfl rfl rfl ?_
  rintro v cc ⟨rfl, rfl⟩
  refine ⟨_, rfl, rfl, ?_⟩
  show AW Z 0 0 68 [some (.ref 0)] [] ([kLives 0 8 (Lives_s_purse_debt_home_hidden_self_away_days_homes_harm v0 (va_cpy (Town_purses v1) (Lives_purse v0) (Int32.toNatClampNeg 0) (Int32.toNatClampNeg 0) (Int32.toNatClampNeg 6)) (va_cpy (Town_debts v1) (Lives_debt v0) (Int32.toNatClampNeg 0) (Int32.toNatClampNeg 0) (Int32.toNatClampNeg 6)) (va_cpy (Town_homes v1) (Lives_home v0) (Int32.toNatClampNeg 0) (Int32.toNatClampNeg 0) (Int32.toNatClampNeg 6)) q1.1 q1.2.1 q1.2.2.1 q1.2.2.2 0 0), kTown 8 16 v1, kLaws 16 v2] : List (List zE)).flatten
  replace hf := zlet_gen hf
  generalize ((va_cpy (Town_debts v1) (Lives_debt v0) (Int32.toNatClampNeg 0) (Int32.toNatClampNeg 0) (Int32.toNatClampNeg 6)) : (Nat → Int32)) = z2 at hf ⊢
  replace hf := zlet_gen hf
  generalize ((va_cpy (Town_homes v1) (Lives_home v0) (Int32.toNatClampNeg 0) (Int32.toNatClampNeg 0) (Int32.toNatClampNeg 6)) : (Nat → Int32)) = z3 at hf ⊢
  replace hf := zlet_gen hf
  generalize ((va_cpy (Town_purses v1) (Lives_purse v0) (Int32.toNatClampNeg 0) (Int32.toNatClampNeg 0) (Int32.toNatClampNeg 6)) : (Nat → Int32)) = z4 at hf ⊢
  cases hf
  exact AW.vret hZ hE rfl rfl rfl (Nat.le_refl 0) (Nat.le_refl 0) rfl ⟨rfl, rfl⟩
def f_Lives_hideCoins (N : Nat) (v0 : VLives) (v1 : VTown) (v2 : VLaws) (a1 : Int32) (a2 : Int32) : Option (Int32 × (Nat → Int32)) := (if ((Lives_away v0) = 0) then ((f_Town_has N v1 v2 a1).bind (fun q2 => (if (q2 = 0) then (some (0, (Lives_hidden v0))) else (if (a2 < 0) then (some (0, (Lives_hidden v0))) else (if (999 < a2) then (some (0, (Lives_hidden v0))) else (if (a1 < 0 ∨ 6 ≤ Int32.toNatClampNeg a1) then none else (if (a2 ≤ ((Lives_purse v0) (Int32.toNatClampNeg a1))) then (if (a1 < 0 ∨ 6 ≤ Int32.toNatClampNeg a1) then none else (some (1, (upd (Lives_hidden v0) (Int32.toNatClampNeg a1) a2)))) else (some (0, (Lives_hidden v0)))))))))) else (some (0, (Lives_hidden v0))))
set_option maxRecDepth 20000 in
set_option maxHeartbeats 4000000 in
theorem c_Lives_hideCoins (N : Nat) (v0 : VLives) (v1 : VTown) (v2 : VLaws) (a1 : Int32) (a2 : Int32) (R : Int32 × (Nat → Int32)) (hf : f_Lives_hideCoins N v0 v1 v2 a1 a2 = some R) : Ct zMX3_hideCoins 2 0 0 0 [.ref 0, .int a1, .int a2] ([kLives 0 8 v0, kTown 8 16 v1, kLaws 16 v2] : List (List zE)).flatten (fun v cc => v = some (.int R.1) ∧ cc = ([kLives 0 8 (Lives_hidden_s v0 R.2), kTown 8 16 v1, kLaws 16 v2] : List (List zE)).flatten) := by
  refine Ct.of zMX3_hideCoins_ok (by decide) (Nat.le_of_ble_eq_true rfl) ?_
  intro Z hZ hR hN hE
  have hRm : zRoom Z 0 0 := zRoom0 Z
  unfold f_Lives_hideCoins at hf
  show AW Z 0 0 0 [some (.ref 0), some (.int a1), some (.int a2)] [] ([kLives 0 8 v0, kTown 8 16 v1, kLaws 16 v2] : List (List zE)).flatten
  refine AW.run hZ hRm [12, 40] 400 ?_
  show ((¬ ((Lives_away v0) = 0) → AW Z 0 0 40 [some (.ref 0), some (.int a1), some (.int a2)] [.int 0] ([kLives 0 8 v0, kTown 8 16 v1, kLaws 16 v2] : List (List zE)).flatten) ∧ (((Lives_away v0) = 0) → AW Z 0 0 12 [some (.ref 0), some (.int a1), some (.int a2)] [.int a1, .ref 8] ([kLives 0 8 v0, kTown 8 16 v1, kLaws 16 v2] : List (List zE)).flatten))
  refine ⟨fun c1 => ?_, fun c1 => ?_⟩
  · rw [if_neg c1] at hf
    cases hf
    exact AW.iret hZ hE rfl rfl rfl rfl (Nat.le_refl 0) (Nat.le_refl 0) rfl ⟨rfl, rfl⟩
  · rw [if_pos c1] at hf
    obtain ⟨q2, h9, hf⟩ := zbind hf
    refine AW.callVc hZ hR hN (c_Town_has N v1 v2 a1 q2 h9) zMX8_has_ok rfl rfl zK_BorrowedLives_Lives_70 zV_X8_has rfl [8, 8, 6] [1, 2] [8, 9, 10, 11, 12, 13, 14, 15, 16, 17, 18, 19, 20, 21] rfl rfl rfl (by decide) (by decide) (by omega) (by decide) (Nat.zero_le _) (Nat.zero_le _) rfl rfl rfl rfl rfl ?_
    rintro v cc ⟨rfl, rfl⟩
    refine ⟨_, rfl, rfl, ?_⟩
    show AW Z 0 0 15 [some (.ref 0), some (.int a1), some (.int a2)] [.int q2] ([kLives 0 8 v0, kTown 8 16 v1, kLaws 16 v2] : List (List zE)).flatten
    refine AW.run hZ hRm [40, 49] 400 ?_
    show (((q2 = 0) → AW Z 0 0 40 [some (.ref 0), some (.int a1), some (.int a2)] [.int 0] ([kLives 0 8 v0, kTown 8 16 v1, kLaws 16 v2] : List (List zE)).flatten) ∧ (¬ (q2 = 0) → (((a2 < 0) → AW Z 0 0 40 [some (.ref 0), some (.int a1), some (.int a2)] [.int 0] ([kLives 0 8 v0, kTown 8 16 v1, kLaws 16 v2] : List (List zE)).flatten) ∧ (¬ (a2 < 0) → (((999 < a2) → AW Z 0 0 40 [some (.ref 0), some (.int a1), some (.int a2)] [.int 0] ([kLives 0 8 v0, kTown 8 16 v1, kLaws 16 v2] : List (List zE)).flatten) ∧ (¬ (999 < a2) → (¬ (a1 < 0 ∨ 6 ≤ Int32.toNatClampNeg a1) ∧ (((a2 ≤ ((Lives_purse v0) (Int32.toNatClampNeg a1))) → (¬ (a1 < 0 ∨ 6 ≤ Int32.toNatClampNeg a1) ∧ AW Z 0 0 49 [some (.ref 0), some (.int a1), some (.int a2)] [.int 1] ([kLives 0 8 (Lives_hidden_s v0 (upd (Lives_hidden v0) (Int32.toNatClampNeg a1) a2)), kTown 8 16 v1, kLaws 16 v2] : List (List zE)).flatten)) ∧ (¬ (a2 ≤ ((Lives_purse v0) (Int32.toNatClampNeg a1))) → AW Z 0 0 40 [some (.ref 0), some (.int a1), some (.int a2)] [.int 0] ([kLives 0 8 v0, kTown 8 16 v1, kLaws 16 v2] : List (List zE)).flatten)))))))))
    refine ⟨fun c3 => ?_, fun c3 => ?_⟩
    · rw [if_pos c3] at hf
      cases hf
      exact AW.iret hZ hE rfl rfl rfl rfl (Nat.le_refl 0) (Nat.le_refl 0) rfl ⟨rfl, rfl⟩
    · rw [if_neg c3] at hf
      refine ⟨fun c4 => ?_, fun c4 => ?_⟩
      · rw [if_pos c4] at hf
        cases hf
        exact AW.iret hZ hE rfl rfl rfl rfl (Nat.le_refl 0) (Nat.le_refl 0) rfl ⟨rfl, rfl⟩
      · rw [if_neg c4] at hf
        refine ⟨fun c5 => ?_, fun c5 => ?_⟩
        · rw [if_pos c5] at hf
          cases hf
          exact AW.iret hZ hE rfl rfl rfl rfl (Nat.le_refl 0) (Nat.le_refl 0) rfl ⟨rfl, rfl⟩
        · rw [if_neg c5] at hf
          obtain ⟨b8, hf⟩ := zneed hf
          refine ⟨b8, ?_⟩
          refine ⟨fun c6 => ?_, fun c6 => ?_⟩
          · rw [if_pos c6] at hf
            obtain ⟨b7, hf⟩ := zneed hf
            refine ⟨b7, ?_⟩
            cases hf
            exact AW.iret hZ hE rfl rfl rfl rfl (Nat.le_refl 0) (Nat.le_refl 0) rfl ⟨rfl, rfl⟩
          · rw [if_neg c6] at hf
            cases hf
            exact AW.iret hZ hE rfl rfl rfl rfl (Nat.le_refl 0) (Nat.le_refl 0) rfl ⟨rfl, rfl⟩
def f_Lives_drawLot (N : Nat) (v0 : VLives) (v1 : VTown) (v2 : VLaws) (v3 : VLots) (a2 : Int32) : Option (Int32 × (Nat → Int32) × (Nat → Int32) × (Nat → Int32) × Int32 × Int32) := (if ((Lives_away v0) = 0) then (if (0 < (Lots_count v3)) then ((f_Lots_nextDraw N (Int32.toInt64 a2)).bind (fun q3 => ((f_Lots_drawBelow N q3 (Lots_count v3)).bind (fun q4 => ((f_Lives_goAway N v0 v1 v2 v3 q4).bind (fun q5 => (some (q4, q5.1, q5.2.1, q5.2.2.1, q5.2.2.2.1, q5.2.2.2.2)))))))) else (some ((-1), (Lives_self v0), (Lives_worthThen v0), (Lives_homeThen v0), (Lives_away v0), (Lives_days v0)))) else (some ((-1), (Lives_self v0), (Lives_worthThen v0), (Lives_homeThen v0), (Lives_away v0), (Lives_days v0))))
set_option maxRecDepth 20000 in
set_option maxHeartbeats 4000000 in
theorem c_Lives_drawLot (N : Nat) (v0 : VLives) (v1 : VTown) (v2 : VLaws) (v3 : VLots) (a2 : Int32) (R : Int32 × (Nat → Int32) × (Nat → Int32) × (Nat → Int32) × Int32 × Int32) (hf : f_Lives_drawLot N v0 v1 v2 v3 a2 = some R) : Ct zMX3_drawLot 3 0 0 0 [.ref 0, .ref 22, .int a2] ([kLives 0 8 v0, kTown 8 16 v1, kLaws 16 v2, kLots 22 v3] : List (List zE)).flatten (fun v cc => v = some (.int R.1) ∧ cc = ([kLives 0 8 (Lives_s_self_worthThen_homeThen_away_days v0 R.2.1 R.2.2.1 R.2.2.2.1 R.2.2.2.2.1 R.2.2.2.2.2), kTown 8 16 v1, kLaws 16 v2, kLots 22 v3] : List (List zE)).flatten) := by
  refine Ct.of zMX3_drawLot_ok (by decide) (Nat.le_of_ble_eq_true rfl) ?_
  intro Z hZ hR hN hE
  have hRm : zRoom Z 0 0 := zRoom0 Z
  unfold f_Lives_drawLot at hf
  show AW Z 0 0 0 [some (.ref 0), some (.ref 22), some (.int a2), none] [] ([kLives 0 8 v0, kTown 8 16 v1, kLaws 16 v2, kLots 22 v3] : List (List zE)).flatten
  refine AW.run hZ hRm [15, 18] 400 ?_
  show ((¬ ((Lives_away v0) = 0) → AW Z 0 0 15 [some (.ref 0), some (.ref 22), some (.int a2), none] [.int (-1)] ([kLives 0 8 v0, kTown 8 16 v1, kLaws 16 v2, kLots 22 v3] : List (List zE)).flatten) ∧ (((Lives_away v0) = 0) → (((0 < (Lots_count v3)) → AW Z 0 0 18 [some (.ref 0), some (.ref 22), some (.int a2), none] [.long (Int32.toInt64 a2)] ([kLives 0 8 v0, kTown 8 16 v1, kLaws 16 v2, kLots 22 v3] : List (List zE)).flatten) ∧ (¬ (0 < (Lots_count v3)) → AW Z 0 0 15 [some (.ref 0), some (.ref 22), some (.int a2), none] [.int (-1)] ([kLives 0 8 v0, kTown 8 16 v1, kLaws 16 v2, kLots 22 v3] : List (List zE)).flatten))))
  refine ⟨fun c1 => ?_, fun c1 => ?_⟩
  · rw [if_neg c1] at hf
    cases hf
    exact AW.iret hZ hE rfl rfl rfl rfl (Nat.le_refl 0) (Nat.le_refl 0) rfl ⟨rfl, rfl⟩
  · rw [if_pos c1] at hf
    refine ⟨fun c2 => ?_, fun c2 => ?_⟩
    · rw [if_pos c2] at hf
      obtain ⟨q3, h8, hf⟩ := zbind hf
      refine AW.callSc hZ hR hN (c_Lots_nextDraw N (Int32.toInt64 a2) q3 h8) zMX4_nextDraw_ok rfl rfl zK_BorrowedLives_Lives_79 zV_X4_nextDraw rfl [8, 8, 6, 3] [] [] rfl rfl rfl (by decide) (by decide) (by omega) (by decide) (Nat.zero_le _) (Nat.zero_le _) rfl rfl ?_
      rintro v cc ⟨rfl, rfl⟩
      refine ⟨_, rfl, rfl, ?_⟩
      show AW Z 0 0 21 [some (.ref 0), some (.ref 22), some (.int a2), none] [.long q3] ([kLives 0 8 v0, kTown 8 16 v1, kLaws 16 v2, kLots 22 v3] : List (List zE)).flatten
      refine AW.run hZ hRm [25] 400 ?_
      show AW Z 0 0 25 [some (.ref 0), some (.ref 22), some (.int a2), none] [.int (Lots_count v3), .long q3] ([kLives 0 8 v0, kTown 8 16 v1, kLaws 16 v2, kLots 22 v3] : List (List zE)).flatten
      obtain ⟨q4, h7, hf⟩ := zbind hf
      refine AW.callSc hZ hR hN (c_Lots_drawBelow N q3 (Lots_count v3) q4 h7) zMX4_drawBelow_ok rfl rfl zK_BorrowedLives_Lives_83 zV_X4_drawBelow rfl [8, 8, 6, 3] [] [] rfl rfl rfl (by decide) (by decide) (by omega) (by decide) (Nat.zero_le _) (Nat.zero_le _) rfl rfl ?_
      rintro v cc ⟨rfl, rfl⟩
      refine ⟨_, rfl, rfl, ?_⟩
      show AW Z 0 0 28 [some (.ref 0), some (.ref 22), some (.int a2), none] [.int q4] ([kLives 0 8 v0, kTown 8 16 v1, kLaws 16 v2, kLots 22 v3] : List (List zE)).flatten
      refine AW.run hZ hRm [32] 400 ?_
      show AW Z 0 0 32 [some (.ref 0), some (.ref 22), some (.int a2), some (.int q4)] [.int q4, .ref 22, .ref 0] ([kLives 0 8 v0, kTown 8 16 v1, kLaws 16 v2, kLots 22 v3] : List (List zE)).flatten
      obtain ⟨q5, h6, hf⟩ := zbind hf
      refine AW.callVc hZ hR hN (c_Lives_goAway N v0 v1 v2 v3 q4 q5 h6) zMX3_goAway_ok rfl rfl zK_BorrowedLives_Lives_87 zV_X3_goAway rfl [8, 8, 6, 3] [0, 1, 2, 3] [0, 1, 2, 3, 4, 5, 6, 7, 8, 9, 10, 11, 12, 13, 14, 15, 16, 17, 18, 19, 20, 21, 22, 23, 24] rfl rfl rfl (by decide) (by decide) (by omega) (by decide) (Nat.zero_le _) (Nat.zero_le _) rfl rfl rfl rfl rfl ?_
      rintro v cc ⟨rfl, rfl⟩
      refine ⟨_, rfl, rfl, ?_⟩
      show AW Z 0 0 35 [some (.ref 0), some (.ref 22), some (.int a2), some (.int q4)] [] ([kLives 0 8 (Lives_s_self_worthThen_homeThen_away_days v0 q5.1 q5.2.1 q5.2.2.1 q5.2.2.2.1 q5.2.2.2.2), kTown 8 16 v1, kLaws 16 v2, kLots 22 v3] : List (List zE)).flatten
      refine AW.run hZ hRm [36] 400 ?_
      show AW Z 0 0 36 [some (.ref 0), some (.ref 22), some (.int a2), some (.int q4)] [.int q4] ([kLives 0 8 (Lives_s_self_worthThen_homeThen_away_days v0 q5.1 q5.2.1 q5.2.2.1 q5.2.2.2.1 q5.2.2.2.2), kTown 8 16 v1, kLaws 16 v2, kLots 22 v3] : List (List zE)).flatten
      cases hf
      exact AW.iret hZ hE rfl rfl rfl rfl (Nat.le_refl 0) (Nat.le_refl 0) rfl ⟨rfl, rfl⟩
    · rw [if_neg c2] at hf
      cases hf
      exact AW.iret hZ hE rfl rfl rfl rfl (Nat.le_refl 0) (Nat.le_refl 0) rfl ⟨rfl, rfl⟩
def f_Lives_ledBy_L2 (N : Nat) : Nat → VLives → VTown → VLaws → Int32 → Int32 → Option ((Int32) ⊕ (Unit))
  | 0, _, _, _, _, _ => none
  | fuel + 1, v0, v1, v2, y1, x2 => (if ((Town_people v1) ≤ x2) then (some (Sum.inr ())) else (if (6 ≤ x2) then (some (Sum.inr ())) else (if (x2 < 0 ∨ 6 ≤ Int32.toNatClampNeg x2) then none else (if (((Lives_self v0) (Int32.toNatClampNeg x2)) = y1) then (some (Sum.inl x2)) else (f_Lives_ledBy_L2 N fuel v0 v1 v2 y1 (x2 + 1))))))
def f_Lives_ledBy (N : Nat) (v0 : VLives) (v1 : VTown) (v2 : VLaws) (a1 : Int32) : Option (Int32) := ((f_Lives_ledBy_L2 N N v0 v1 v2 a1 0).bind (Sum.elim (fun w7 => (some w7)) (fun w8 => (some (-1)))))
set_option maxRecDepth 20000 in
set_option maxHeartbeats 4000000 in
theorem c_Lives_ledBy_L2 {Z : zCtx} {D n0w nf mcw msw : Nat} (hZ : zOk Z zMX3_ledBy) (hR : zCan Z D mcw msw) (hDd : 1 ≤ D) (hN : zNew Z n0w nf) (hRm : zRoom Z 0 0) (N : Nat) : ∀ (fuel : Nat) (v0 : VLives) (v1 : VTown) (v2 : VLaws) (y1 : Int32) (x2 : Int32) (q : ((Int32) ⊕ (Unit))), f_Lives_ledBy_L2 N fuel v0 v1 v2 y1 x2 = some q → (∀ w : Int32, q = (Sum.inl w) → AW Z 0 0 29 [none, none, some (.int w)] [] ([kLives 0 8 v0, kTown 8 16 v1, kLaws 16 v2] : List (List zE)).flatten) → (∀ w : Unit, q = (Sum.inr w) → AW Z 0 0 37 [none, none, none] [] ([kLives 0 8 v0, kTown 8 16 v1, kLaws 16 v2] : List (List zE)).flatten) → AW Z 0 0 2 [some (.ref 0), some (.int y1), some (.int x2)] [] ([kLives 0 8 v0, kTown 8 16 v1, kLaws 16 v2] : List (List zE)).flatten := by
  intro fuel
  induction fuel with
  | zero =>
    intro v0 v1 v2 y1 x2 q hf hk0 hk1
    simp [f_Lives_ledBy_L2] at hf
  | succ fuel ih =>
    intro v0 v1 v2 y1 x2 q hf hk0 hk1
    rw [f_Lives_ledBy_L2] at hf
    refine AW.run hZ hRm [2, 29, 37] 400 ?_
    show ((((Town_people v1) ≤ x2) → AW Z 0 0 37 [some (.ref 0), some (.int y1), some (.int x2)] [] ([kLives 0 8 v0, kTown 8 16 v1, kLaws 16 v2] : List (List zE)).flatten) ∧ (¬ ((Town_people v1) ≤ x2) → (((6 ≤ x2) → AW Z 0 0 37 [some (.ref 0), some (.int y1), some (.int x2)] [] ([kLives 0 8 v0, kTown 8 16 v1, kLaws 16 v2] : List (List zE)).flatten) ∧ (¬ (6 ≤ x2) → (¬ (x2 < 0 ∨ 6 ≤ Int32.toNatClampNeg x2) ∧ ((¬ (((Lives_self v0) (Int32.toNatClampNeg x2)) = y1) → AW Z 0 0 2 [some (.ref 0), some (.int y1), some (.int (x2 + 1))] [] ([kLives 0 8 v0, kTown 8 16 v1, kLaws 16 v2] : List (List zE)).flatten) ∧ ((((Lives_self v0) (Int32.toNatClampNeg x2)) = y1) → AW Z 0 0 29 [some (.ref 0), some (.int y1), some (.int x2)] [] ([kLives 0 8 v0, kTown 8 16 v1, kLaws 16 v2] : List (List zE)).flatten)))))))
    refine ⟨fun c1 => ?_, fun c1 => ?_⟩
    · rw [if_pos c1] at hf
      cases hf
      refine AW.forget [false, false, false] ?_
      show AW Z 0 0 37 [none, none, none] [] ([kLives 0 8 v0, kTown 8 16 v1, kLaws 16 v2] : List (List zE)).flatten
      exact hk1 _ rfl
    · rw [if_neg c1] at hf
      refine ⟨fun c2 => ?_, fun c2 => ?_⟩
      · rw [if_pos c2] at hf
        cases hf
        refine AW.forget [false, false, false] ?_
        show AW Z 0 0 37 [none, none, none] [] ([kLives 0 8 v0, kTown 8 16 v1, kLaws 16 v2] : List (List zE)).flatten
        exact hk1 _ rfl
      · rw [if_neg c2] at hf
        obtain ⟨b4, hf⟩ := zneed hf
        refine ⟨b4, ?_⟩
        refine ⟨fun c3 => ?_, fun c3 => ?_⟩
        · rw [if_neg c3] at hf
          exact ih v0 v1 v2 y1 (x2 + 1) q hf hk0 hk1
        · rw [if_pos c3] at hf
          cases hf
          refine AW.forget [false, false, true] ?_
          show AW Z 0 0 29 [none, none, some (.int x2)] [] ([kLives 0 8 v0, kTown 8 16 v1, kLaws 16 v2] : List (List zE)).flatten
          exact hk0 _ rfl
set_option maxRecDepth 20000 in
set_option maxHeartbeats 4000000 in
theorem c_Lives_ledBy (N : Nat) (v0 : VLives) (v1 : VTown) (v2 : VLaws) (a1 : Int32) (R : Int32) (hf : f_Lives_ledBy N v0 v1 v2 a1 = some R) : Ct zMX3_ledBy 1 0 0 0 [.ref 0, .int a1] ([kLives 0 8 v0, kTown 8 16 v1, kLaws 16 v2] : List (List zE)).flatten (fun v cc => v = some (.int R) ∧ cc = ([kLives 0 8 v0, kTown 8 16 v1, kLaws 16 v2] : List (List zE)).flatten) := by
  refine Ct.of zMX3_ledBy_ok (by decide) (Nat.le_of_ble_eq_true rfl) ?_
  intro Z hZ hR hN hE
  have hRm : zRoom Z 0 0 := zRoom0 Z
  unfold f_Lives_ledBy at hf
  show AW Z 0 0 0 [some (.ref 0), some (.int a1), none] [] ([kLives 0 8 v0, kTown 8 16 v1, kLaws 16 v2] : List (List zE)).flatten
  refine AW.run hZ hRm [2] 400 ?_
  show AW Z 0 0 2 [some (.ref 0), some (.int a1), some (.int 0)] [] ([kLives 0 8 v0, kTown 8 16 v1, kLaws 16 v2] : List (List zE)).flatten
  obtain ⟨q5, h6, hf⟩ := zbind hf
  refine c_Lives_ledBy_L2 hZ hR (by omega) hN hRm N N v0 v1 v2 a1 0 q5 h6 ?_ ?_
  · intro w7 hq
    subst hq
    show AW Z 0 0 29 [none, none, some (.int w7)] [] ([kLives 0 8 v0, kTown 8 16 v1, kLaws 16 v2] : List (List zE)).flatten
    replace hf : (some w7) = some R := hf
    refine AW.run hZ hRm [30] 400 ?_
    show AW Z 0 0 30 [none, none, some (.int w7)] [.int w7] ([kLives 0 8 v0, kTown 8 16 v1, kLaws 16 v2] : List (List zE)).flatten
    cases hf
    exact AW.iret hZ hE rfl rfl rfl rfl (Nat.le_refl 0) (Nat.le_refl 0) rfl ⟨rfl, rfl⟩
  · intro w8 hq
    subst hq
    show AW Z 0 0 37 [none, none, none] [] ([kLives 0 8 v0, kTown 8 16 v1, kLaws 16 v2] : List (List zE)).flatten
    replace hf : (some (-1)) = some R := hf
    refine AW.run hZ hRm [38] 400 ?_
    show AW Z 0 0 38 [none, none, none] [.int (-1)] ([kLives 0 8 v0, kTown 8 16 v1, kLaws 16 v2] : List (List zE)).flatten
    cases hf
    exact AW.iret hZ hE rfl rfl rfl rfl (Nat.le_refl 0) (Nat.le_refl 0) rfl ⟨rfl, rfl⟩
def f_Town_isBarred (N : Nat) (v0 : VTown) (v1 : VLaws) (a1 : Int32) (a2 : Int32) : Option (Int32) := ((f_Town_has N v0 v1 a1).bind (fun q1 => (if (q1 = 0) then (some 0) else ((f_Town_has N v0 v1 a2).bind (fun q3 => (if (q3 = 0) then (some 0) else (if (a1 < 0 ∨ 6 ≤ Int32.toNatClampNeg a1) then none else (if (((((Town_barred v0) (Int32.toNatClampNeg a1)) >>> (a2 &&& 31)) &&& 1) = 0) then (some 0) else (some 1)))))))))
set_option maxRecDepth 20000 in
set_option maxHeartbeats 4000000 in
theorem c_Town_isBarred (N : Nat) (v0 : VTown) (v1 : VLaws) (a1 : Int32) (a2 : Int32) (R : Int32) (hf : f_Town_isBarred N v0 v1 a1 a2 = some R) : Ct zMX8_isBarred 2 0 0 0 [.ref 0, .int a1, .int a2] ([kTown 0 8 v0, kLaws 8 v1] : List (List zE)).flatten (fun v cc => v = some (.int R) ∧ cc = ([kTown 0 8 v0, kLaws 8 v1] : List (List zE)).flatten) := by
  refine Ct.of zMX8_isBarred_ok (by decide) (Nat.le_of_ble_eq_true rfl) ?_
  intro Z hZ hR hN hE
  have hRm : zRoom Z 0 0 := zRoom0 Z
  unfold f_Town_isBarred at hf
  show AW Z 0 0 0 [some (.ref 0), some (.int a1), some (.int a2)] [] ([kTown 0 8 v0, kLaws 8 v1] : List (List zE)).flatten
  refine AW.run hZ hRm [2] 400 ?_
  show AW Z 0 0 2 [some (.ref 0), some (.int a1), some (.int a2)] [.int a1, .ref 0] ([kTown 0 8 v0, kLaws 8 v1] : List (List zE)).flatten
  obtain ⟨q1, h8, hf⟩ := zbind hf
  refine AW.callVc hZ hR hN (c_Town_has N v0 v1 a1 q1 h8) zMX8_has_ok rfl rfl zK_BorrowedLives_Town_74 zV_X8_has rfl [8, 6] [0, 1] [0, 1, 2, 3, 4, 5, 6, 7, 8, 9, 10, 11, 12, 13] rfl rfl rfl (by decide) (by decide) (by omega) (by decide) (Nat.zero_le _) (Nat.zero_le _) rfl rfl rfl rfl rfl ?_
  rintro v cc ⟨rfl, rfl⟩
  refine ⟨_, rfl, rfl, ?_⟩
  show AW Z 0 0 5 [some (.ref 0), some (.int a1), some (.int a2)] [.int q1] ([kTown 0 8 v0, kLaws 8 v1] : List (List zE)).flatten
  refine AW.run hZ hRm [10, 34] 400 ?_
  show (((q1 = 0) → AW Z 0 0 34 [some (.ref 0), some (.int a1), some (.int a2)] [.int 0] ([kTown 0 8 v0, kLaws 8 v1] : List (List zE)).flatten) ∧ (¬ (q1 = 0) → AW Z 0 0 10 [some (.ref 0), some (.int a1), some (.int a2)] [.int a2, .ref 0] ([kTown 0 8 v0, kLaws 8 v1] : List (List zE)).flatten))
  refine ⟨fun c2 => ?_, fun c2 => ?_⟩
  · rw [if_pos c2] at hf
    cases hf
    exact AW.iret hZ hE rfl rfl rfl rfl (Nat.le_refl 0) (Nat.le_refl 0) rfl ⟨rfl, rfl⟩
  · rw [if_neg c2] at hf
    obtain ⟨q3, h7, hf⟩ := zbind hf
    refine AW.callVc hZ hR hN (c_Town_has N v0 v1 a2 q3 h7) zMX8_has_ok rfl rfl zK_BorrowedLives_Town_74 zV_X8_has rfl [8, 6] [0, 1] [0, 1, 2, 3, 4, 5, 6, 7, 8, 9, 10, 11, 12, 13] rfl rfl rfl (by decide) (by decide) (by omega) (by decide) (Nat.zero_le _) (Nat.zero_le _) rfl rfl rfl rfl rfl ?_
    rintro v cc ⟨rfl, rfl⟩
    refine ⟨_, rfl, rfl, ?_⟩
    show AW Z 0 0 13 [some (.ref 0), some (.int a1), some (.int a2)] [.int q3] ([kTown 0 8 v0, kLaws 8 v1] : List (List zE)).flatten
    refine AW.run hZ hRm [34] 400 ?_
    show (((q3 = 0) → AW Z 0 0 34 [some (.ref 0), some (.int a1), some (.int a2)] [.int 0] ([kTown 0 8 v0, kLaws 8 v1] : List (List zE)).flatten) ∧ (¬ (q3 = 0) → (¬ (a1 < 0 ∨ 6 ≤ Int32.toNatClampNeg a1) ∧ (((((((Town_barred v0) (Int32.toNatClampNeg a1)) >>> (a2 &&& 31)) &&& 1) = 0) → AW Z 0 0 34 [some (.ref 0), some (.int a1), some (.int a2)] [.int 0] ([kTown 0 8 v0, kLaws 8 v1] : List (List zE)).flatten) ∧ (¬ (((((Town_barred v0) (Int32.toNatClampNeg a1)) >>> (a2 &&& 31)) &&& 1) = 0) → AW Z 0 0 34 [some (.ref 0), some (.int a1), some (.int a2)] [.int 1] ([kTown 0 8 v0, kLaws 8 v1] : List (List zE)).flatten)))))
    refine ⟨fun c4 => ?_, fun c4 => ?_⟩
    · rw [if_pos c4] at hf
      cases hf
      exact AW.iret hZ hE rfl rfl rfl rfl (Nat.le_refl 0) (Nat.le_refl 0) rfl ⟨rfl, rfl⟩
    · rw [if_neg c4] at hf
      obtain ⟨b6, hf⟩ := zneed hf
      refine ⟨b6, ?_⟩
      refine ⟨fun c5 => ?_, fun c5 => ?_⟩
      · rw [if_pos c5] at hf
        cases hf
        exact AW.iret hZ hE rfl rfl rfl rfl (Nat.le_refl 0) (Nat.le_refl 0) rfl ⟨rfl, rfl⟩
      · rw [if_neg c5] at hf
        cases hf
        exact AW.iret hZ hE rfl rfl rfl rfl (Nat.le_refl 0) (Nat.le_refl 0) rfl ⟨rfl, rfl⟩
def f_Town_allows (N : Nat) (v0 : VTown) (v1 : VLaws) (a1 : Int32) (a2 : Int32) : Option (Int32) := ((f_Town_has N v0 v1 a1).bind (fun q1 => (if (q1 = 0) then (some 0) else ((f_Town_has N v0 v1 a2).bind (fun q3 => (if (q3 = 0) then (some 0) else (if (a1 = a2) then (some 0) else ((f_Town_isBarred N v0 v1 a1 a2).bind (fun q6 => (if (q6 = 0) then (some 1) else (some 0)))))))))))
set_option maxRecDepth 20000 in
set_option maxHeartbeats 4000000 in
theorem c_Town_allows (N : Nat) (v0 : VTown) (v1 : VLaws) (a1 : Int32) (a2 : Int32) (R : Int32) (hf : f_Town_allows N v0 v1 a1 a2 = some R) : Ct zMX8_allows 3 0 0 0 [.ref 0, .int a1, .int a2] ([kTown 0 8 v0, kLaws 8 v1] : List (List zE)).flatten (fun v cc => v = some (.int R) ∧ cc = ([kTown 0 8 v0, kLaws 8 v1] : List (List zE)).flatten) := by
  refine Ct.of zMX8_allows_ok (by decide) (Nat.le_of_ble_eq_true rfl) ?_
  intro Z hZ hR hN hE
  have hRm : zRoom Z 0 0 := zRoom0 Z
  unfold f_Town_allows at hf
  show AW Z 0 0 0 [some (.ref 0), some (.int a1), some (.int a2)] [] ([kTown 0 8 v0, kLaws 8 v1] : List (List zE)).flatten
  refine AW.run hZ hRm [2] 400 ?_
  show AW Z 0 0 2 [some (.ref 0), some (.int a1), some (.int a2)] [.int a1, .ref 0] ([kTown 0 8 v0, kLaws 8 v1] : List (List zE)).flatten
  obtain ⟨q1, h10, hf⟩ := zbind hf
  refine AW.callVc hZ hR hN (c_Town_has N v0 v1 a1 q1 h10) zMX8_has_ok rfl rfl zK_BorrowedLives_Town_74 zV_X8_has rfl [8, 6] [0, 1] [0, 1, 2, 3, 4, 5, 6, 7, 8, 9, 10, 11, 12, 13] rfl rfl rfl (by decide) (by decide) (by omega) (by decide) (Nat.zero_le _) (Nat.zero_le _) rfl rfl rfl rfl rfl ?_
  rintro v cc ⟨rfl, rfl⟩
  refine ⟨_, rfl, rfl, ?_⟩
  show AW Z 0 0 5 [some (.ref 0), some (.int a1), some (.int a2)] [.int q1] ([kTown 0 8 v0, kLaws 8 v1] : List (List zE)).flatten
  refine AW.run hZ hRm [10, 35] 400 ?_
  show (((q1 = 0) → AW Z 0 0 35 [some (.ref 0), some (.int a1), some (.int a2)] [.int 0] ([kTown 0 8 v0, kLaws 8 v1] : List (List zE)).flatten) ∧ (¬ (q1 = 0) → AW Z 0 0 10 [some (.ref 0), some (.int a1), some (.int a2)] [.int a2, .ref 0] ([kTown 0 8 v0, kLaws 8 v1] : List (List zE)).flatten))
  refine ⟨fun c2 => ?_, fun c2 => ?_⟩
  · rw [if_pos c2] at hf
    cases hf
    exact AW.iret hZ hE rfl rfl rfl rfl (Nat.le_refl 0) (Nat.le_refl 0) rfl ⟨rfl, rfl⟩
  · rw [if_neg c2] at hf
    obtain ⟨q3, h9, hf⟩ := zbind hf
    refine AW.callVc hZ hR hN (c_Town_has N v0 v1 a2 q3 h9) zMX8_has_ok rfl rfl zK_BorrowedLives_Town_74 zV_X8_has rfl [8, 6] [0, 1] [0, 1, 2, 3, 4, 5, 6, 7, 8, 9, 10, 11, 12, 13] rfl rfl rfl (by decide) (by decide) (by omega) (by decide) (Nat.zero_le _) (Nat.zero_le _) rfl rfl rfl rfl rfl ?_
    rintro v cc ⟨rfl, rfl⟩
    refine ⟨_, rfl, rfl, ?_⟩
    show AW Z 0 0 13 [some (.ref 0), some (.int a1), some (.int a2)] [.int q3] ([kTown 0 8 v0, kLaws 8 v1] : List (List zE)).flatten
    refine AW.run hZ hRm [24, 35] 400 ?_
    show (((q3 = 0) → AW Z 0 0 35 [some (.ref 0), some (.int a1), some (.int a2)] [.int 0] ([kTown 0 8 v0, kLaws 8 v1] : List (List zE)).flatten) ∧ (¬ (q3 = 0) → (((a1 = a2) → AW Z 0 0 35 [some (.ref 0), some (.int a1), some (.int a2)] [.int 0] ([kTown 0 8 v0, kLaws 8 v1] : List (List zE)).flatten) ∧ (¬ (a1 = a2) → AW Z 0 0 24 [some (.ref 0), some (.int a1), some (.int a2)] [.int a2, .int a1, .ref 0] ([kTown 0 8 v0, kLaws 8 v1] : List (List zE)).flatten))))
    refine ⟨fun c4 => ?_, fun c4 => ?_⟩
    · rw [if_pos c4] at hf
      cases hf
      exact AW.iret hZ hE rfl rfl rfl rfl (Nat.le_refl 0) (Nat.le_refl 0) rfl ⟨rfl, rfl⟩
    · rw [if_neg c4] at hf
      refine ⟨fun c5 => ?_, fun c5 => ?_⟩
      · rw [if_pos c5] at hf
        cases hf
        exact AW.iret hZ hE rfl rfl rfl rfl (Nat.le_refl 0) (Nat.le_refl 0) rfl ⟨rfl, rfl⟩
      · rw [if_neg c5] at hf
        obtain ⟨q6, h8, hf⟩ := zbind hf
        refine AW.callVc hZ hR hN (c_Town_isBarred N v0 v1 a1 a2 q6 h8) zMX8_isBarred_ok rfl rfl zK_BorrowedLives_Town_78 zV_X8_isBarred rfl [8, 6] [0, 1] [0, 1, 2, 3, 4, 5, 6, 7, 8, 9, 10, 11, 12, 13] rfl rfl rfl (by decide) (by decide) (by omega) (by decide) (Nat.zero_le _) (Nat.zero_le _) rfl rfl rfl rfl rfl ?_
        rintro v cc ⟨rfl, rfl⟩
        refine ⟨_, rfl, rfl, ?_⟩
        show AW Z 0 0 27 [some (.ref 0), some (.int a1), some (.int a2)] [.int q6] ([kTown 0 8 v0, kLaws 8 v1] : List (List zE)).flatten
        refine AW.run hZ hRm [35] 400 ?_
        show ((¬ (q6 = 0) → AW Z 0 0 35 [some (.ref 0), some (.int a1), some (.int a2)] [.int 0] ([kTown 0 8 v0, kLaws 8 v1] : List (List zE)).flatten) ∧ ((q6 = 0) → AW Z 0 0 35 [some (.ref 0), some (.int a1), some (.int a2)] [.int 1] ([kTown 0 8 v0, kLaws 8 v1] : List (List zE)).flatten))
        refine ⟨fun c7 => ?_, fun c7 => ?_⟩
        · rw [if_neg c7] at hf
          cases hf
          exact AW.iret hZ hE rfl rfl rfl rfl (Nat.le_refl 0) (Nat.le_refl 0) rfl ⟨rfl, rfl⟩
        · rw [if_pos c7] at hf
          cases hf
          exact AW.iret hZ hE rfl rfl rfl rfl (Nat.le_refl 0) (Nat.le_refl 0) rfl ⟨rfl, rfl⟩
def f_Lives_changeLives (N : Nat) (v0 : VLives) (v1 : VTown) (v2 : VLaws) (a1 : Int32) (a2 : Int32) : Option (Int32 × (Nat → Int32)) := ((f_Lives_ledBy N v0 v1 v2 a1).bind (fun q1 => ((f_Lives_ledBy N v0 v1 v2 a2).bind (fun q2 => (if ((Lives_away v0) = 0) then (some (0, (Lives_self v0))) else (if (a1 = a2) then (some (0, (Lives_self v0))) else ((f_Town_allows N v1 v2 a1 q2).bind (fun q5 => (if (q5 = 0) then (some (0, (Lives_self v0))) else ((f_Town_allows N v1 v2 a2 q1).bind (fun q7 => (if (((if (q7 = 0) then 0 else 1) : Int32) = 0) then (if (((if (q7 = 0) then 0 else 1) : Int32) = 0 ∨ ((if (q7 = 0) then 0 else 1) : Int32) = 1) then (some ((if (q7 = 0) then 0 else 1), (Lives_self v0))) else none) else (if (q2 < 0 ∨ 6 ≤ Int32.toNatClampNeg q2) then none else (if (q1 < 0 ∨ 6 ≤ Int32.toNatClampNeg q1) then none else (if (((if (q7 = 0) then 0 else 1) : Int32) = 0 ∨ ((if (q7 = 0) then 0 else 1) : Int32) = 1) then (some ((if (q7 = 0) then 0 else 1), (upd (upd (Lives_self v0) (Int32.toNatClampNeg q2) a1) (Int32.toNatClampNeg q1) a2))) else none)))))))))))))))
set_option maxRecDepth 20000 in
set_option maxHeartbeats 4000000 in
theorem c_Lives_changeLives (N : Nat) (v0 : VLives) (v1 : VTown) (v2 : VLaws) (a1 : Int32) (a2 : Int32) (R : Int32 × (Nat → Int32)) (hf : f_Lives_changeLives N v0 v1 v2 a1 a2 = some R) : Ct zMX3_changeLives 4 0 0 0 [.ref 0, .int a1, .int a2] ([kLives 0 8 v0, kTown 8 16 v1, kLaws 16 v2] : List (List zE)).flatten (fun v cc => v = some (.int R.1) ∧ cc = ([kLives 0 8 (Lives_self_s v0 R.2), kTown 8 16 v1, kLaws 16 v2] : List (List zE)).flatten) := by
  refine Ct.of zMX3_changeLives_ok (by decide) (Nat.le_of_ble_eq_true rfl) ?_
  intro Z hZ hR hN hE
  have hRm : zRoom Z 0 0 := zRoom0 Z
  unfold f_Lives_changeLives at hf
  show AW Z 0 0 0 [some (.ref 0), some (.int a1), some (.int a2), none, none, none] [] ([kLives 0 8 v0, kTown 8 16 v1, kLaws 16 v2] : List (List zE)).flatten
  refine AW.run hZ hRm [2] 400 ?_
  show AW Z 0 0 2 [some (.ref 0), some (.int a1), some (.int a2), none, none, none] [.int a1, .ref 0] ([kLives 0 8 v0, kTown 8 16 v1, kLaws 16 v2] : List (List zE)).flatten
  obtain ⟨q1, h18, hf⟩ := zbind hf
  refine AW.callVc hZ hR hN (c_Lives_ledBy N v0 v1 v2 a1 q1 h18) zMX3_ledBy_ok rfl rfl zK_BorrowedLives_Lives_95 zV_X3_ledBy rfl [8, 8, 6] [0, 1, 2] [0, 1, 2, 3, 4, 5, 6, 7, 8, 9, 10, 11, 12, 13, 14, 15, 16, 17, 18, 19, 20, 21] rfl rfl rfl (by decide) (by decide) (by omega) (by decide) (Nat.zero_le _) (Nat.zero_le _) rfl rfl rfl rfl rfl ?_
  rintro v cc ⟨rfl, rfl⟩
  refine ⟨_, rfl, rfl, ?_⟩
  show AW Z 0 0 5 [some (.ref 0), some (.int a1), some (.int a2), none, none, none] [.int q1] ([kLives 0 8 v0, kTown 8 16 v1, kLaws 16 v2] : List (List zE)).flatten
  refine AW.run hZ hRm [8] 400 ?_
  show AW Z 0 0 8 [some (.ref 0), some (.int a1), some (.int a2), some (.int q1), none, none] [.int a2, .ref 0] ([kLives 0 8 v0, kTown 8 16 v1, kLaws 16 v2] : List (List zE)).flatten
  obtain ⟨q2, h17, hf⟩ := zbind hf
  refine AW.callVc hZ hR hN (c_Lives_ledBy N v0 v1 v2 a2 q2 h17) zMX3_ledBy_ok rfl rfl zK_BorrowedLives_Lives_95 zV_X3_ledBy rfl [8, 8, 6] [0, 1, 2] [0, 1, 2, 3, 4, 5, 6, 7, 8, 9, 10, 11, 12, 13, 14, 15, 16, 17, 18, 19, 20, 21] rfl rfl rfl (by decide) (by decide) (by omega) (by decide) (Nat.zero_le _) (Nat.zero_le _) rfl rfl rfl rfl rfl ?_
  rintro v cc ⟨rfl, rfl⟩
  refine ⟨_, rfl, rfl, ?_⟩
  show AW Z 0 0 11 [some (.ref 0), some (.int a1), some (.int a2), some (.int q1), none, none] [.int q2] ([kLives 0 8 v0, kTown 8 16 v1, kLaws 16 v2] : List (List zE)).flatten
  refine AW.run hZ hRm [32, 79] 400 ?_
  show ((((Lives_away v0) = 0) → ((((0 : Int32) = 0) → AW Z 0 0 79 [some (.ref 0), some (.int a1), some (.int a2), some (.int q1), some (.int q2), some (.int 0)] [.int 0] ([kLives 0 8 v0, kTown 8 16 v1, kLaws 16 v2] : List (List zE)).flatten) ∧ (¬ ((0 : Int32) = 0) → (¬ (q2 < 0 ∨ 6 ≤ Int32.toNatClampNeg q2) ∧ (¬ (q1 < 0 ∨ 6 ≤ Int32.toNatClampNeg q1) ∧ AW Z 0 0 79 [some (.ref 0), some (.int a1), some (.int a2), some (.int q1), some (.int q2), some (.int 0)] [.int 0] ([kLives 0 8 (Lives_self_s v0 (upd (upd (Lives_self v0) (Int32.toNatClampNeg q2) a1) (Int32.toNatClampNeg q1) a2)), kTown 8 16 v1, kLaws 16 v2] : List (List zE)).flatten))))) ∧ (¬ ((Lives_away v0) = 0) → (((a1 = a2) → ((((0 : Int32) = 0) → AW Z 0 0 79 [some (.ref 0), some (.int a1), some (.int a2), some (.int q1), some (.int q2), some (.int 0)] [.int 0] ([kLives 0 8 v0, kTown 8 16 v1, kLaws 16 v2] : List (List zE)).flatten) ∧ (¬ ((0 : Int32) = 0) → (¬ (q2 < 0 ∨ 6 ≤ Int32.toNatClampNeg q2) ∧ (¬ (q1 < 0 ∨ 6 ≤ Int32.toNatClampNeg q1) ∧ AW Z 0 0 79 [some (.ref 0), some (.int a1), some (.int a2), some (.int q1), some (.int q2), some (.int 0)] [.int 0] ([kLives 0 8 (Lives_self_s v0 (upd (upd (Lives_self v0) (Int32.toNatClampNeg q2) a1) (Int32.toNatClampNeg q1) a2)), kTown 8 16 v1, kLaws 16 v2] : List (List zE)).flatten))))) ∧ (¬ (a1 = a2) → AW Z 0 0 32 [some (.ref 0), some (.int a1), some (.int a2), some (.int q1), some (.int q2), none] [.int q2, .int a1, .ref 8] ([kLives 0 8 v0, kTown 8 16 v1, kLaws 16 v2] : List (List zE)).flatten))))
  refine ⟨fun c3 => ?_, fun c3 => ?_⟩
  · rw [if_pos c3] at hf
    refine ⟨fun _ => ?_, fun h => absurd h (by decide)⟩
    cases hf
    exact AW.iret hZ hE rfl rfl rfl rfl (Nat.le_refl 0) (Nat.le_refl 0) rfl ⟨rfl, rfl⟩
  · rw [if_neg c3] at hf
    refine ⟨fun c4 => ?_, fun c4 => ?_⟩
    · rw [if_pos c4] at hf
      refine ⟨fun _ => ?_, fun h => absurd h (by decide)⟩
      cases hf
      exact AW.iret hZ hE rfl rfl rfl rfl (Nat.le_refl 0) (Nat.le_refl 0) rfl ⟨rfl, rfl⟩
    · rw [if_neg c4] at hf
      obtain ⟨q5, h16, hf⟩ := zbind hf
      refine AW.callVc hZ hR hN (c_Town_allows N v1 v2 a1 q2 q5 h16) zMX8_allows_ok rfl rfl zK_BorrowedLives_Lives_99 zV_X8_allows rfl [8, 8, 6] [1, 2] [8, 9, 10, 11, 12, 13, 14, 15, 16, 17, 18, 19, 20, 21] rfl rfl rfl (by decide) (by decide) (by omega) (by decide) (Nat.zero_le _) (Nat.zero_le _) rfl rfl rfl rfl rfl ?_
      rintro v cc ⟨rfl, rfl⟩
      refine ⟨_, rfl, rfl, ?_⟩
      show AW Z 0 0 35 [some (.ref 0), some (.int a1), some (.int a2), some (.int q1), some (.int q2), none] [.int q5] ([kLives 0 8 v0, kTown 8 16 v1, kLaws 16 v2] : List (List zE)).flatten
      refine AW.run hZ hRm [44, 79] 400 ?_
      show (((q5 = 0) → ((((0 : Int32) = 0) → AW Z 0 0 79 [some (.ref 0), some (.int a1), some (.int a2), some (.int q1), some (.int q2), some (.int 0)] [.int 0] ([kLives 0 8 v0, kTown 8 16 v1, kLaws 16 v2] : List (List zE)).flatten) ∧ (¬ ((0 : Int32) = 0) → (¬ (q2 < 0 ∨ 6 ≤ Int32.toNatClampNeg q2) ∧ (¬ (q1 < 0 ∨ 6 ≤ Int32.toNatClampNeg q1) ∧ AW Z 0 0 79 [some (.ref 0), some (.int a1), some (.int a2), some (.int q1), some (.int q2), some (.int 0)] [.int 0] ([kLives 0 8 (Lives_self_s v0 (upd (upd (Lives_self v0) (Int32.toNatClampNeg q2) a1) (Int32.toNatClampNeg q1) a2)), kTown 8 16 v1, kLaws 16 v2] : List (List zE)).flatten))))) ∧ (¬ (q5 = 0) → AW Z 0 0 44 [some (.ref 0), some (.int a1), some (.int a2), some (.int q1), some (.int q2), none] [.int q1, .int a2, .ref 8] ([kLives 0 8 v0, kTown 8 16 v1, kLaws 16 v2] : List (List zE)).flatten))
      refine ⟨fun c6 => ?_, fun c6 => ?_⟩
      · rw [if_pos c6] at hf
        refine ⟨fun _ => ?_, fun h => absurd h (by decide)⟩
        cases hf
        exact AW.iret hZ hE rfl rfl rfl rfl (Nat.le_refl 0) (Nat.le_refl 0) rfl ⟨rfl, rfl⟩
      · rw [if_neg c6] at hf
        obtain ⟨q7, h15, hf⟩ := zbind hf
        refine AW.callVc hZ hR hN (c_Town_allows N v1 v2 a2 q1 q7 h15) zMX8_allows_ok rfl rfl zK_BorrowedLives_Lives_99 zV_X8_allows rfl [8, 8, 6] [1, 2] [8, 9, 10, 11, 12, 13, 14, 15, 16, 17, 18, 19, 20, 21] rfl rfl rfl (by decide) (by decide) (by omega) (by decide) (Nat.zero_le _) (Nat.zero_le _) rfl rfl rfl rfl rfl ?_
        rintro v cc ⟨rfl, rfl⟩
        refine ⟨_, rfl, rfl, ?_⟩
        show AW Z 0 0 47 [some (.ref 0), some (.int a1), some (.int a2), some (.int q1), some (.int q2), none] [.int q7] ([kLives 0 8 v0, kTown 8 16 v1, kLaws 16 v2] : List (List zE)).flatten
        suffices H8 : AW Z 0 0 55 [some (.ref 0), some (.int a1), some (.int a2), some (.int q1), some (.int q2), none] [.int (if (q7 = 0) then 0 else 1)] ([kLives 0 8 v0, kTown 8 16 v1, kLaws 16 v2] : List (List zE)).flatten from by
          refine AW.run hZ hRm [55] 400 ?_
          show (((q7 = 0) → AW Z 0 0 55 [some (.ref 0), some (.int a1), some (.int a2), some (.int q1), some (.int q2), none] [.int 0] ([kLives 0 8 v0, kTown 8 16 v1, kLaws 16 v2] : List (List zE)).flatten) ∧ (¬ (q7 = 0) → AW Z 0 0 55 [some (.ref 0), some (.int a1), some (.int a2), some (.int q1), some (.int q2), none] [.int 1] ([kLives 0 8 v0, kTown 8 16 v1, kLaws 16 v2] : List (List zE)).flatten))
          refine ⟨fun c9 => ?_, fun c9 => ?_⟩
          · simpa only [if_pos c9] using H8
          · simpa only [if_neg c9] using H8
        refine AW.run hZ hRm [79] 400 ?_
        show (((((if (q7 = 0) then 0 else 1) : Int32) = 0) → AW Z 0 0 79 [some (.ref 0), some (.int a1), some (.int a2), some (.int q1), some (.int q2), some (.int (if (q7 = 0) then 0 else 1))] [.int (if (q7 = 0) then 0 else 1)] ([kLives 0 8 v0, kTown 8 16 v1, kLaws 16 v2] : List (List zE)).flatten) ∧ (¬ (((if (q7 = 0) then 0 else 1) : Int32) = 0) → (¬ (q2 < 0 ∨ 6 ≤ Int32.toNatClampNeg q2) ∧ (¬ (q1 < 0 ∨ 6 ≤ Int32.toNatClampNeg q1) ∧ AW Z 0 0 79 [some (.ref 0), some (.int a1), some (.int a2), some (.int q1), some (.int q2), some (.int (if (q7 = 0) then 0 else 1))] [.int (if (q7 = 0) then 0 else 1)] ([kLives 0 8 (Lives_self_s v0 (upd (upd (Lives_self v0) (Int32.toNatClampNeg q2) a1) (Int32.toNatClampNeg q1) a2)), kTown 8 16 v1, kLaws 16 v2] : List (List zE)).flatten))))
        refine ⟨fun c10 => ?_, fun c10 => ?_⟩
        · rw [if_pos c10] at hf
          obtain ⟨b11, hf⟩ := zneedP hf
          cases hf
          exact AW.iret hZ hE rfl rfl rfl (znarZ b11) (Nat.le_refl 0) (Nat.le_refl 0) rfl ⟨rfl, rfl⟩
        · rw [if_neg c10] at hf
          obtain ⟨b14, hf⟩ := zneed hf
          refine ⟨b14, ?_⟩
          obtain ⟨b13, hf⟩ := zneed hf
          refine ⟨b13, ?_⟩
          obtain ⟨b12, hf⟩ := zneedP hf
          cases hf
          exact AW.iret hZ hE rfl rfl rfl (znarZ b12) (Nat.le_refl 0) (Nat.le_refl 0) rfl ⟨rfl, rfl⟩
def f_Lives_nextDay (N : Nat) (v0 : VLives) (v1 : VTown) (v2 : VLaws) : Option (Int32 × (Nat → Int32) × (Nat → Int32) × (Nat → Int32) × Int32 × (Nat → Int32) × (Nat → Int32)) := (if ((Lives_away v0) = 0) then (some (0, (Lives_purse v0), (Lives_debt v0), (Lives_home v0), (Lives_days v0), (Laws_facts v2), (Laws_stack v2))) else (if ((Lives_days v0) < 7) then ((f_Lives_passDays N v0 v1 v2 1 (Town_sign v1)).bind (fun q3 => (some (1, q3.1, q3.2.1, q3.2.2.1, q3.2.2.2.1, q3.2.2.2.2.1, q3.2.2.2.2.2)))) else (some (0, (Lives_purse v0), (Lives_debt v0), (Lives_home v0), (Lives_days v0), (Laws_facts v2), (Laws_stack v2)))))
set_option maxRecDepth 20000 in
set_option maxHeartbeats 4000000 in
theorem c_Lives_nextDay (N : Nat) (v0 : VLives) (v1 : VTown) (v2 : VLaws) (R : Int32 × (Nat → Int32) × (Nat → Int32) × (Nat → Int32) × Int32 × (Nat → Int32) × (Nat → Int32)) (hf : f_Lives_nextDay N v0 v1 v2 = some R) : Ct zMX3_nextDay 5 0 0 0 [.ref 0] ([kLives 0 8 v0, kTown 8 16 v1, kLaws 16 v2] : List (List zE)).flatten (fun v cc => v = some (.int R.1) ∧ cc = ([kLives 0 8 (Lives_s_purse_debt_home_days v0 R.2.1 R.2.2.1 R.2.2.2.1 R.2.2.2.2.1), kTown 8 16 v1, kLaws 16 (Laws_s_facts_stack v2 R.2.2.2.2.2.1 R.2.2.2.2.2.2)] : List (List zE)).flatten) := by
  refine Ct.of zMX3_nextDay_ok (by decide) (Nat.le_of_ble_eq_true rfl) ?_
  intro Z hZ hR hN hE
  have hRm : zRoom Z 0 0 := zRoom0 Z
  unfold f_Lives_nextDay at hf
  show AW Z 0 0 0 [some (.ref 0)] [] ([kLives 0 8 v0, kTown 8 16 v1, kLaws 16 v2] : List (List zE)).flatten
  refine AW.run hZ hRm [17, 27] 400 ?_
  show ((((Lives_away v0) = 0) → AW Z 0 0 17 [some (.ref 0)] [.int 0] ([kLives 0 8 v0, kTown 8 16 v1, kLaws 16 v2] : List (List zE)).flatten) ∧ (¬ ((Lives_away v0) = 0) → ((((Lives_days v0) < 7) → AW Z 0 0 27 [some (.ref 0)] [.int (Town_sign v1), .int 1, .ref 0] ([kLives 0 8 v0, kTown 8 16 v1, kLaws 16 v2] : List (List zE)).flatten) ∧ (¬ ((Lives_days v0) < 7) → AW Z 0 0 17 [some (.ref 0)] [.int 0] ([kLives 0 8 v0, kTown 8 16 v1, kLaws 16 v2] : List (List zE)).flatten))))
  refine ⟨fun c1 => ?_, fun c1 => ?_⟩
  · rw [if_pos c1] at hf
    cases hf
    exact AW.iret hZ hE rfl rfl rfl rfl (Nat.le_refl 0) (Nat.le_refl 0) rfl ⟨rfl, rfl⟩
  · rw [if_neg c1] at hf
    refine ⟨fun c2 => ?_, fun c2 => ?_⟩
    · rw [if_pos c2] at hf
      obtain ⟨q3, h4, hf⟩ := zbind hf
      refine AW.callVc hZ hR hN (c_Lives_passDays N v0 v1 v2 1 (Town_sign v1) q3 h4) zMX3_passDays_ok rfl rfl zK_BorrowedLives_Lives_109 zV_X3_passDays rfl [8, 8, 6] [0, 1, 2] [0, 1, 2, 3, 4, 5, 6, 7, 8, 9, 10, 11, 12, 13, 14, 15, 16, 17, 18, 19, 20, 21] rfl rfl rfl (by decide) (by decide) (by omega) (by decide) (Nat.zero_le _) (Nat.zero_le _) rfl rfl rfl rfl rfl ?_
      rintro v cc ⟨rfl, rfl⟩
      refine ⟨_, rfl, rfl, ?_⟩
      show AW Z 0 0 30 [some (.ref 0)] [] ([kLives 0 8 (Lives_s_purse_debt_home_days v0 q3.1 q3.2.1 q3.2.2.1 q3.2.2.2.1), kTown 8 16 v1, kLaws 16 (Laws_s_facts_stack v2 q3.2.2.2.2.1 q3.2.2.2.2.2)] : List (List zE)).flatten
      refine AW.run hZ hRm [31] 400 ?_
      show AW Z 0 0 31 [some (.ref 0)] [.int 1] ([kLives 0 8 (Lives_s_purse_debt_home_days v0 q3.1 q3.2.1 q3.2.2.1 q3.2.2.2.1), kTown 8 16 v1, kLaws 16 (Laws_s_facts_stack v2 q3.2.2.2.2.1 q3.2.2.2.2.2)] : List (List zE)).flatten
      cases hf
      exact AW.iret hZ hE rfl rfl rfl rfl (Nat.le_refl 0) (Nat.le_refl 0) rfl ⟨rfl, rfl⟩
    · rw [if_neg c2] at hf
      cases hf
      exact AW.iret hZ hE rfl rfl rfl rfl (Nat.le_refl 0) (Nat.le_refl 0) rfl ⟨rfl, rfl⟩
def f_Lots_keepRow (N : Nat) (v0 : VLots) : Option (Int32 × (Nat → Int32)) := (if ((Lots_count v0) < 0) then (some ((Lots_count v0), (Lots_selves v0))) else (if (265 ≤ (Lots_count v0)) then (some ((Lots_count v0), (Lots_selves v0))) else (if (zcpyD 0 ((Lots_count v0) * 6) 6 6 1590) = true then (some (((Lots_count v0) + 1), (va_cpy (Lots_row v0) (Lots_selves v0) (Int32.toNatClampNeg 0) (Int32.toNatClampNeg ((Lots_count v0) * 6)) (Int32.toNatClampNeg 6)))) else none)))
set_option maxRecDepth 20000 in
set_option maxHeartbeats 4000000 in
theorem c_Lots_keepRow (N : Nat) (v0 : VLots) (R : Int32 × (Nat → Int32)) (hf : f_Lots_keepRow N v0 = some R) : Ct zMX4_keepRow 2 0 0 0 [.ref 0] ([kLots 0 v0] : List (List zE)).flatten (fun v cc => v = none ∧ cc = ([kLots 0 (Lots_s_count_selves v0 R.1 R.2)] : List (List zE)).flatten) := by
  refine Ct.of zMX4_keepRow_ok (by decide) (Nat.le_of_ble_eq_true rfl) ?_
  intro Z hZ hR hN hE
  have hRm : zRoom Z 0 0 := zRoom0 Z
  unfold f_Lots_keepRow at hf
  show AW Z 0 0 0 [some (.ref 0)] [] ([kLots 0 v0] : List (List zE)).flatten
  refine AW.run hZ hRm [48] 400 ?_
  show ((((Lots_count v0) < 0) → AW Z 0 0 48 [some (.ref 0)] [] ([kLots 0 v0] : List (List zE)).flatten) ∧ (¬ ((Lots_count v0) < 0) → (((265 ≤ (Lots_count v0)) → AW Z 0 0 48 [some (.ref 0)] [] ([kLots 0 v0] : List (List zE)).flatten) ∧ (¬ (265 ≤ (Lots_count v0)) → ((zcpyOk 0 ((Lots_count v0) * 6) 6 6 1590) ∧ AW Z 0 0 48 [some (.ref 0)] [] ([kLots 0 (Lots_s_count_selves v0 ((Lots_count v0) + 1) (va_cpy (Lots_row v0) (Lots_selves v0) (Int32.toNatClampNeg 0) (Int32.toNatClampNeg ((Lots_count v0) * 6)) (Int32.toNatClampNeg 6)))] : List (List zE)).flatten)))))
  refine ⟨fun c1 => ?_, fun c1 => ?_⟩
  · rw [if_pos c1] at hf
    cases hf
    exact AW.vret hZ hE rfl rfl rfl (Nat.le_refl 0) (Nat.le_refl 0) rfl ⟨rfl, rfl⟩
  · rw [if_neg c1] at hf
    refine ⟨fun c2 => ?_, fun c2 => ?_⟩
    · rw [if_pos c2] at hf
      cases hf
      exact AW.vret hZ hE rfl rfl rfl (Nat.le_refl 0) (Nat.le_refl 0) rfl ⟨rfl, rfl⟩
    · rw [if_neg c2] at hf
      obtain ⟨b3, hf⟩ := zneedP hf
      refine ⟨zcpyD_ok b3, ?_⟩
      cases hf
      exact AW.vret hZ hE rfl rfl rfl (Nat.le_refl 0) (Nat.le_refl 0) rfl ⟨rfl, rfl⟩
def f_Lots_fill_L26 (r_f_Lots_fill : (VLots → VTown → VLaws → Int32 → Int32 → Option (Int32 × (Nat → Int32) × (Nat → Int32)))) (N : Nat) : Nat → VLots → VTown → VLaws → Int32 → Int32 → Int32 → Int32 → (Nat → Int32) → (Nat → Int32) → Option (Int32 × (Nat → Int32) × (Nat → Int32))
  | 0, _, _, _, _, _, _, _, _, _ => none
  | fuel + 1, v0, v1, v2, y2, y3, x4, m_count0, m_selves1, m_row2 => (if ((Lots_people v0) ≤ x4) then (some (m_count0, m_selves1, m_row2)) else (if (((y3 >>> (x4 &&& 31)) &&& 1) = 0) then ((f_Town_allows N v1 v2 x4 y2).bind (fun q10 => (if (q10 = 0) then (f_Lots_fill_L26 r_f_Lots_fill N fuel v0 v1 v2 y2 y3 (x4 + 1) m_count0 m_selves1 m_row2) else (if (y2 < 0 ∨ 6 ≤ Int32.toNatClampNeg y2) then none else ((r_f_Lots_fill (Lots_s_count_selves_row v0 m_count0 m_selves1 (upd m_row2 (Int32.toNatClampNeg y2) x4)) v1 v2 (y2 + 1) (y3 ||| (1 <<< (x4 &&& 31)))).bind (fun q12 => (f_Lots_fill_L26 r_f_Lots_fill N fuel v0 v1 v2 y2 y3 (x4 + 1) q12.1 q12.2.1 q12.2.2))))))) else (f_Lots_fill_L26 r_f_Lots_fill N fuel v0 v1 v2 y2 y3 (x4 + 1) m_count0 m_selves1 m_row2)))
def f_Lots_fill_b (r_f_Lots_fill : (VLots → VTown → VLaws → Int32 → Int32 → Option (Int32 × (Nat → Int32) × (Nat → Int32)))) (N : Nat) (v0 : VLots) (v1 : VTown) (v2 : VLaws) (a2 : Int32) (a3 : Int32) : Option (Int32 × (Nat → Int32) × (Nat → Int32)) := (if (a2 < 0) then ((f_Lots_keepRow N v0).bind (fun q2 => (some (q2.1, q2.2, (Lots_row v0))))) else (if ((Lots_people v0) ≤ a2) then ((f_Lots_keepRow N v0).bind (fun q5 => (some (q5.1, q5.2, (Lots_row v0))))) else (if (a2 < 6) then ((f_Lots_fill_L26 r_f_Lots_fill N N v0 v1 v2 a2 a3 0 (Lots_count v0) (Lots_selves v0) (Lots_row v0)).bind (fun q16 => (some (q16.1, q16.2.1, q16.2.2)))) else ((f_Lots_keepRow N v0).bind (fun q18 => (some (q18.1, q18.2, (Lots_row v0))))))))
def g_Lots_fill (N : Nat) : Nat → (VLots → VTown → VLaws → Int32 → Int32 → Option (Int32 × (Nat → Int32) × (Nat → Int32)))
  | 0 => (fun _ _ _ _ _ => none)
  | n + 1 => f_Lots_fill_b (g_Lots_fill N n) N
def f_Lots_fill (e N : Nat) (v0 : VLots) (v1 : VTown) (v2 : VLaws) (a2 : Int32) (a3 : Int32) : Option (Int32 × (Nat → Int32) × (Nat → Int32)) := (g_Lots_fill N e) v0 v1 v2 a2 a3
set_option maxRecDepth 20000 in
set_option maxHeartbeats 4000000 in
theorem c_Lots_fill_L26 {r_f_Lots_fill : (VLots → VTown → VLaws → Int32 → Int32 → Option (Int32 × (Nat → Int32) × (Nat → Int32)))} {e : Nat} {Z : zCtx} {D n0w nf mcw msw : Nat} (hZ : zOk Z zMX4_fill) (hR : zCan Z D mcw msw) (hDd : e + 4 ≤ D) (hN : zNew Z n0w nf) (hRm : zRoom Z 0 0) (hr_f_Lots_fill : ∀ (v0 : VLots) (v1 : VTown) (v2 : VLaws) (a2 : Int32) (a3 : Int32) (R : Int32 × (Nat → Int32) × (Nat → Int32)), r_f_Lots_fill v0 v1 v2 a2 a3 = some R → Ct zMX4_fill (e + 3) 0 0 0 [.ref 0, .ref 3, .int a2, .int a3] ([kLots 0 v0, kTown 3 11 v1, kLaws 11 v2] : List (List zE)).flatten (fun v cc => v = none ∧ cc = ([kLots 0 (Lots_s_count_selves_row v0 R.1 R.2.1 R.2.2), kTown 3 11 v1, kLaws 11 v2] : List (List zE)).flatten)) (N : Nat) : ∀ (fuel : Nat) (v0 : VLots) (v1 : VTown) (v2 : VLaws) (y2 : Int32) (y3 : Int32) (x4 : Int32) (m_count0 : Int32) (m_selves1 : (Nat → Int32)) (m_row2 : (Nat → Int32)) (q : (Int32 × (Nat → Int32) × (Nat → Int32))), f_Lots_fill_L26 r_f_Lots_fill N fuel v0 v1 v2 y2 y3 x4 m_count0 m_selves1 m_row2 = some q → (AW Z 0 0 82 [none, none, none, none, none] [] ([kLots 0 (Lots_s_count_selves_row v0 q.1 q.2.1 q.2.2), kTown 3 11 v1, kLaws 11 v2] : List (List zE)).flatten) → AW Z 0 0 26 [some (.ref 0), some (.ref 3), some (.int y2), some (.int y3), some (.int x4)] [] ([kLots 0 (Lots_s_count_selves_row v0 m_count0 m_selves1 m_row2), kTown 3 11 v1, kLaws 11 v2] : List (List zE)).flatten := by
  intro fuel
  induction fuel with
  | zero =>
    intro v0 v1 v2 y2 y3 x4 m_count0 m_selves1 m_row2 q hf hk0
    simp [f_Lots_fill_L26] at hf
  | succ fuel ih =>
    intro v0 v1 v2 y2 y3 x4 m_count0 m_selves1 m_row2 q hf hk0
    rw [f_Lots_fill_L26] at hf
    refine AW.run hZ hRm [26, 48, 82] 400 ?_
    show ((((Lots_people v0) ≤ x4) → AW Z 0 0 82 [some (.ref 0), some (.ref 3), some (.int y2), some (.int y3), some (.int x4)] [] ([kLots 0 (Lots_s_count_selves_row v0 m_count0 m_selves1 m_row2), kTown 3 11 v1, kLaws 11 v2] : List (List zE)).flatten) ∧ (¬ ((Lots_people v0) ≤ x4) → ((¬ (((y3 >>> (x4 &&& 31)) &&& 1) = 0) → AW Z 0 0 26 [some (.ref 0), some (.ref 3), some (.int y2), some (.int y3), some (.int (x4 + 1))] [] ([kLots 0 (Lots_s_count_selves_row v0 m_count0 m_selves1 m_row2), kTown 3 11 v1, kLaws 11 v2] : List (List zE)).flatten) ∧ ((((y3 >>> (x4 &&& 31)) &&& 1) = 0) → AW Z 0 0 48 [some (.ref 0), some (.ref 3), some (.int y2), some (.int y3), some (.int x4)] [.int y2, .int x4, .ref 3] ([kLots 0 (Lots_s_count_selves_row v0 m_count0 m_selves1 m_row2), kTown 3 11 v1, kLaws 11 v2] : List (List zE)).flatten))))
    refine ⟨fun c8 => ?_, fun c8 => ?_⟩
    · rw [if_pos c8] at hf
      cases hf
      refine AW.forget [false, false, false, false, false] ?_
      show AW Z 0 0 82 [none, none, none, none, none] [] ([kLots 0 (Lots_s_count_selves_row v0 m_count0 m_selves1 m_row2), kTown 3 11 v1, kLaws 11 v2] : List (List zE)).flatten
      exact hk0
    · rw [if_neg c8] at hf
      refine ⟨fun c9 => ?_, fun c9 => ?_⟩
      · rw [if_neg c9] at hf
        exact ih v0 v1 v2 y2 y3 (x4 + 1) m_count0 m_selves1 m_row2 q hf hk0
      · rw [if_pos c9] at hf
        obtain ⟨q10, h15, hf⟩ := zbind hf
        refine AW.callVc hZ hR hN (c_Town_allows N v1 v2 x4 y2 q10 h15) zMX8_allows_ok rfl rfl zK_BorrowedLives_Lots_35 zV_X8_allows rfl [3, 8, 6] [1, 2] [3, 4, 5, 6, 7, 8, 9, 10, 11, 12, 13, 14, 15, 16] rfl rfl rfl (by decide) (by decide) (by omega) (by decide) (Nat.zero_le _) (Nat.zero_le _) rfl rfl rfl rfl rfl ?_
        rintro v cc ⟨rfl, rfl⟩
        refine ⟨_, rfl, rfl, ?_⟩
        show AW Z 0 0 51 [some (.ref 0), some (.ref 3), some (.int y2), some (.int y3), some (.int x4)] [.int q10] ([kLots 0 (Lots_s_count_selves_row v0 m_count0 m_selves1 m_row2), kTown 3 11 v1, kLaws 11 v2] : List (List zE)).flatten
        refine AW.run hZ hRm [26, 73] 400 ?_
        show (((q10 = 0) → AW Z 0 0 26 [some (.ref 0), some (.ref 3), some (.int y2), some (.int y3), some (.int (x4 + 1))] [] ([kLots 0 (Lots_s_count_selves_row v0 m_count0 m_selves1 m_row2), kTown 3 11 v1, kLaws 11 v2] : List (List zE)).flatten) ∧ (¬ (q10 = 0) → (¬ (y2 < 0 ∨ 6 ≤ Int32.toNatClampNeg y2) ∧ AW Z 0 0 73 [some (.ref 0), some (.ref 3), some (.int y2), some (.int y3), some (.int x4)] [.int (y3 ||| (1 <<< (x4 &&& 31))), .int (y2 + 1), .ref 3, .ref 0] ([kLots 0 (Lots_s_count_selves_row v0 m_count0 m_selves1 (upd m_row2 (Int32.toNatClampNeg y2) x4)), kTown 3 11 v1, kLaws 11 v2] : List (List zE)).flatten)))
        refine ⟨fun c11 => ?_, fun c11 => ?_⟩
        · rw [if_pos c11] at hf
          exact ih v0 v1 v2 y2 y3 (x4 + 1) m_count0 m_selves1 m_row2 q hf hk0
        · rw [if_neg c11] at hf
          obtain ⟨b14, hf⟩ := zneed hf
          refine ⟨b14, ?_⟩
          obtain ⟨q12, h13, hf⟩ := zbind hf
          refine AW.callSc hZ hR hN (hr_f_Lots_fill (Lots_s_count_selves_row v0 m_count0 m_selves1 (upd m_row2 (Int32.toNatClampNeg y2) x4)) v1 v2 (y2 + 1) (y3 ||| (1 <<< (x4 &&& 31))) q12 h13) zMX4_fill_ok rfl rfl zK_BorrowedLives_Lots_28 zV_X4_fill rfl [3, 8, 6] [0, 1, 2] [0, 1, 2, 3, 4, 5, 6, 7, 8, 9, 10, 11, 12, 13, 14, 15, 16] rfl rfl rfl (by decide) (by decide) (by omega) (by decide) (Nat.zero_le _) (Nat.zero_le _) rfl rfl ?_
          rintro v cc ⟨rfl, rfl⟩
          refine ⟨_, rfl, rfl, ?_⟩
          show AW Z 0 0 76 [some (.ref 0), some (.ref 3), some (.int y2), some (.int y3), some (.int x4)] [] ([kLots 0 (Lots_s_count_selves_row v0 q12.1 q12.2.1 q12.2.2), kTown 3 11 v1, kLaws 11 v2] : List (List zE)).flatten
          refine AW.run hZ hRm [26] 400 ?_
          show AW Z 0 0 26 [some (.ref 0), some (.ref 3), some (.int y2), some (.int y3), some (.int (x4 + 1))] [] ([kLots 0 (Lots_s_count_selves_row v0 q12.1 q12.2.1 q12.2.2), kTown 3 11 v1, kLaws 11 v2] : List (List zE)).flatten
          exact ih v0 v1 v2 y2 y3 (x4 + 1) q12.1 q12.2.1 q12.2.2 q hf hk0
set_option maxRecDepth 20000 in
set_option maxHeartbeats 4000000 in
theorem c_Lots_fill_b {r_f_Lots_fill : (VLots → VTown → VLaws → Int32 → Int32 → Option (Int32 × (Nat → Int32) × (Nat → Int32)))} {e : Nat} (hr_f_Lots_fill : ∀ (v0 : VLots) (v1 : VTown) (v2 : VLaws) (a2 : Int32) (a3 : Int32) (R : Int32 × (Nat → Int32) × (Nat → Int32)), r_f_Lots_fill v0 v1 v2 a2 a3 = some R → Ct zMX4_fill (e + 3) 0 0 0 [.ref 0, .ref 3, .int a2, .int a3] ([kLots 0 v0, kTown 3 11 v1, kLaws 11 v2] : List (List zE)).flatten (fun v cc => v = none ∧ cc = ([kLots 0 (Lots_s_count_selves_row v0 R.1 R.2.1 R.2.2), kTown 3 11 v1, kLaws 11 v2] : List (List zE)).flatten)) (N : Nat) (v0 : VLots) (v1 : VTown) (v2 : VLaws) (a2 : Int32) (a3 : Int32) (R : Int32 × (Nat → Int32) × (Nat → Int32)) (hf : f_Lots_fill_b r_f_Lots_fill N v0 v1 v2 a2 a3 = some R) : Ct zMX4_fill (e + 4) 0 0 0 [.ref 0, .ref 3, .int a2, .int a3] ([kLots 0 v0, kTown 3 11 v1, kLaws 11 v2] : List (List zE)).flatten (fun v cc => v = none ∧ cc = ([kLots 0 (Lots_s_count_selves_row v0 R.1 R.2.1 R.2.2), kTown 3 11 v1, kLaws 11 v2] : List (List zE)).flatten) := by
  refine Ct.of zMX4_fill_ok (by omega) (Nat.le_of_ble_eq_true rfl) ?_
  intro Z hZ hR hN hE
  have hRm : zRoom Z 0 0 := zRoom0 Z
  unfold f_Lots_fill_b at hf
  show AW Z 0 0 0 [some (.ref 0), some (.ref 3), some (.int a2), some (.int a3), none] [] ([kLots 0 v0, kTown 3 11 v1, kLaws 11 v2] : List (List zE)).flatten
  refine AW.run hZ hRm [19, 26] 400 ?_
  show (((a2 < 0) → AW Z 0 0 19 [some (.ref 0), some (.ref 3), some (.int a2), some (.int a3), none] [.ref 0] ([kLots 0 v0, kTown 3 11 v1, kLaws 11 v2] : List (List zE)).flatten) ∧ (¬ (a2 < 0) → ((((Lots_people v0) ≤ a2) → AW Z 0 0 19 [some (.ref 0), some (.ref 3), some (.int a2), some (.int a3), none] [.ref 0] ([kLots 0 v0, kTown 3 11 v1, kLaws 11 v2] : List (List zE)).flatten) ∧ (¬ ((Lots_people v0) ≤ a2) → (((a2 < 6) → AW Z 0 0 26 [some (.ref 0), some (.ref 3), some (.int a2), some (.int a3), some (.int 0)] [] ([kLots 0 v0, kTown 3 11 v1, kLaws 11 v2] : List (List zE)).flatten) ∧ (¬ (a2 < 6) → AW Z 0 0 19 [some (.ref 0), some (.ref 3), some (.int a2), some (.int a3), none] [.ref 0] ([kLots 0 v0, kTown 3 11 v1, kLaws 11 v2] : List (List zE)).flatten))))))
  refine ⟨fun c1 => ?_, fun c1 => ?_⟩
  · rw [if_pos c1] at hf
    obtain ⟨q2, h3, hf⟩ := zbind hf
    refine AW.callVc hZ hR hN (c_Lots_keepRow N v0 q2 h3) zMX4_keepRow_ok rfl rfl zK_BorrowedLives_Lots_32 zV_X4_keepRow rfl [3, 8, 6] [0] [0, 1, 2] rfl rfl rfl (by decide) (by decide) (by omega) (by decide) (Nat.zero_le _) (Nat.zero_le _) rfl rfl rfl rfl rfl ?_
    rintro v cc ⟨rfl, rfl⟩
    refine ⟨_, rfl, rfl, ?_⟩
    show AW Z 0 0 22 [some (.ref 0), some (.ref 3), some (.int a2), some (.int a3), none] [] ([kLots 0 (Lots_s_count_selves v0 q2.1 q2.2), kTown 3 11 v1, kLaws 11 v2] : List (List zE)).flatten
    cases hf
    exact AW.vret hZ hE rfl rfl rfl (Nat.le_refl 0) (Nat.le_refl 0) rfl ⟨rfl, rfl⟩
  · rw [if_neg c1] at hf
    refine ⟨fun c4 => ?_, fun c4 => ?_⟩
    · rw [if_pos c4] at hf
      obtain ⟨q5, h6, hf⟩ := zbind hf
      refine AW.callVc hZ hR hN (c_Lots_keepRow N v0 q5 h6) zMX4_keepRow_ok rfl rfl zK_BorrowedLives_Lots_32 zV_X4_keepRow rfl [3, 8, 6] [0] [0, 1, 2] rfl rfl rfl (by decide) (by decide) (by omega) (by decide) (Nat.zero_le _) (Nat.zero_le _) rfl rfl rfl rfl rfl ?_
      rintro v cc ⟨rfl, rfl⟩
      refine ⟨_, rfl, rfl, ?_⟩
      show AW Z 0 0 22 [some (.ref 0), some (.ref 3), some (.int a2), some (.int a3), none] [] ([kLots 0 (Lots_s_count_selves v0 q5.1 q5.2), kTown 3 11 v1, kLaws 11 v2] : List (List zE)).flatten
      cases hf
      exact AW.vret hZ hE rfl rfl rfl (Nat.le_refl 0) (Nat.le_refl 0) rfl ⟨rfl, rfl⟩
    · rw [if_neg c4] at hf
      refine ⟨fun c7 => ?_, fun c7 => ?_⟩
      · rw [if_pos c7] at hf
        obtain ⟨q16, h17, hf⟩ := zbind hf
        refine c_Lots_fill_L26 hZ hR (by omega) hN hRm hr_f_Lots_fill N N v0 v1 v2 a2 a3 0 (Lots_count v0) (Lots_selves v0) (Lots_row v0) q16 h17 ?_
        show AW Z 0 0 82 [none, none, none, none, none] [] ([kLots 0 (Lots_s_count_selves_row v0 q16.1 q16.2.1 q16.2.2), kTown 3 11 v1, kLaws 11 v2] : List (List zE)).flatten
        cases hf
        exact AW.vret hZ hE rfl rfl rfl (Nat.le_refl 0) (Nat.le_refl 0) rfl ⟨rfl, rfl⟩
      · rw [if_neg c7] at hf
        obtain ⟨q18, h19, hf⟩ := zbind hf
        refine AW.callVc hZ hR hN (c_Lots_keepRow N v0 q18 h19) zMX4_keepRow_ok rfl rfl zK_BorrowedLives_Lots_32 zV_X4_keepRow rfl [3, 8, 6] [0] [0, 1, 2] rfl rfl rfl (by decide) (by decide) (by omega) (by decide) (Nat.zero_le _) (Nat.zero_le _) rfl rfl rfl rfl rfl ?_
        rintro v cc ⟨rfl, rfl⟩
        refine ⟨_, rfl, rfl, ?_⟩
        show AW Z 0 0 22 [some (.ref 0), some (.ref 3), some (.int a2), some (.int a3), none] [] ([kLots 0 (Lots_s_count_selves v0 q18.1 q18.2), kTown 3 11 v1, kLaws 11 v2] : List (List zE)).flatten
        cases hf
        exact AW.vret hZ hE rfl rfl rfl (Nat.le_refl 0) (Nat.le_refl 0) rfl ⟨rfl, rfl⟩
set_option maxRecDepth 20000 in
set_option maxHeartbeats 4000000 in
theorem c_g_Lots_fill (N : Nat) : ∀ e : Nat, (∀ (v0 : VLots) (v1 : VTown) (v2 : VLaws) (a2 : Int32) (a3 : Int32) (R : Int32 × (Nat → Int32) × (Nat → Int32)), (g_Lots_fill N e) v0 v1 v2 a2 a3 = some R → Ct zMX4_fill (e + 3) 0 0 0 [.ref 0, .ref 3, .int a2, .int a3] ([kLots 0 v0, kTown 3 11 v1, kLaws 11 v2] : List (List zE)).flatten (fun v cc => v = none ∧ cc = ([kLots 0 (Lots_s_count_selves_row v0 R.1 R.2.1 R.2.2), kTown 3 11 v1, kLaws 11 v2] : List (List zE)).flatten)) := by
  intro e
  induction e with
  | zero => exact (fun _ _ _ _ _ R h => by cases h)
  | succ e ih =>
    exact (fun v0 v1 v2 a2 a3 R h => by
      have h9 := c_Lots_fill_b ih N v0 v1 v2 a2 a3 R h
      rw [show e + 1 + 3 = e + 4 by omega]
      exact h9)
set_option maxRecDepth 20000 in
set_option maxHeartbeats 4000000 in
theorem c_Lots_fill (e N : Nat) (v0 : VLots) (v1 : VTown) (v2 : VLaws) (a2 : Int32) (a3 : Int32) (R : Int32 × (Nat → Int32) × (Nat → Int32)) (hf : f_Lots_fill e N v0 v1 v2 a2 a3 = some R) : Ct zMX4_fill (e + 3) 0 0 0 [.ref 0, .ref 3, .int a2, .int a3] ([kLots 0 v0, kTown 3 11 v1, kLaws 11 v2] : List (List zE)).flatten (fun v cc => v = none ∧ cc = ([kLots 0 (Lots_s_count_selves_row v0 R.1 R.2.1 R.2.2), kTown 3 11 v1, kLaws 11 v2] : List (List zE)).flatten) := by
  exact (c_g_Lots_fill N e) v0 v1 v2 a2 a3 R hf
