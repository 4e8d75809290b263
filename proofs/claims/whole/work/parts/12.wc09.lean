def f_Lots_nextDraw (N : Nat) (a0 : Int64) : Option (Int64) := (some (((a0 * 1103515245) + 12345) &&& 2147483647))
set_option maxRecDepth 20000 in
set_option maxHeartbeats 4000000 in
theorem c_Lots_nextDraw (N : Nat) (a0 : Int64) (R : Int64) (hf : f_Lots_nextDraw N a0 = some R) : Ct zMX4_nextDraw 1 0 0 0 [.long a0] ([] : List (List zE)).flatten (fun v cc => v = some (.long R) ∧ cc = ([] : List (List zE)).flatten) := by
  refine Ct.of zMX4_nextDraw_ok (by decide) (Nat.le_of_ble_eq_true rfl) ?_
  intro Z hZ hR hN hE
  have hRm : zRoom Z 0 0 := zRoom0 Z
  unfold f_Lots_nextDraw at hf
  show AW Z 0 0 0 [some (.long a0), none] [] ([] : List (List zE)).flatten
  refine AW.run hZ hRm [13] 400 ?_
  show AW Z 0 0 13 [some (.long a0), none] [.long (((a0 * 1103515245) + 12345) &&& 2147483647)] ([] : List (List zE)).flatten
  cases hf
  exact AW.lret hZ hE rfl rfl rfl (Nat.le_refl 0) (Nat.le_refl 0) rfl ⟨rfl, rfl⟩
def f_Lots_drawBelow (N : Nat) (a0 : Int64) (a2 : Int32) : Option (Int32) := (if (a2 ≤ 0) then (some 0) else (if ((Int32.toInt64 a2) = 0) then none else (some (Int64.toInt32 ((a0 / 65536) - (a0 / 65536) / (Int32.toInt64 a2) * (Int32.toInt64 a2))))))
set_option maxRecDepth 20000 in
set_option maxHeartbeats 4000000 in
theorem c_Lots_drawBelow (N : Nat) (a0 : Int64) (a2 : Int32) (R : Int32) (hf : f_Lots_drawBelow N a0 a2 = some R) : Ct zMX4_drawBelow 1 0 0 0 [.long a0, .int a2] ([] : List (List zE)).flatten (fun v cc => v = some (.int R) ∧ cc = ([] : List (List zE)).flatten) := by
  refine Ct.of zMX4_drawBelow_ok (by decide) (Nat.le_of_ble_eq_true rfl) ?_
  intro Z hZ hR hN hE
  have hRm : zRoom Z 0 0 := zRoom0 Z
  unfold f_Lots_drawBelow at hf
  show AW Z 0 0 0 [some (.long a0), none, some (.int a2)] [] ([] : List (List zE)).flatten
  refine AW.run hZ hRm [17] 400 ?_
  show (((a2 ≤ 0) → AW Z 0 0 17 [some (.long a0), none, some (.int a2)] [.int 0] ([] : List (List zE)).flatten) ∧ (¬ (a2 ≤ 0) → (¬ ((65536 : Int32) = 0) ∧ (¬ ((Int32.toInt64 a2) = 0) ∧ AW Z 0 0 17 [some (.long a0), none, some (.int a2)] [.int (Int64.toInt32 ((a0 / 65536) - (a0 / 65536) / (Int32.toInt64 a2) * (Int32.toInt64 a2)))] ([] : List (List zE)).flatten))))
  refine ⟨fun c1 => ?_, fun c1 => ?_⟩
  · rw [if_pos c1] at hf
    cases hf
    exact AW.iret hZ hE rfl rfl rfl rfl (Nat.le_refl 0) (Nat.le_refl 0) rfl ⟨rfl, rfl⟩
  · rw [if_neg c1] at hf
    refine ⟨(by decide), ?_⟩
    obtain ⟨b2, hf⟩ := zneed hf
    refine ⟨b2, ?_⟩
    cases hf
    exact AW.iret hZ hE rfl rfl rfl rfl (Nat.le_refl 0) (Nat.le_refl 0) rfl ⟨rfl, rfl⟩
def f_Forecast_hideByDraws_L5 (N : Nat) : Nat → VForecast → VTown → VLaws → VLots → VLives → VLives → Int64 → Int32 → (Nat → Int32) → Option (Int64 × (Nat → Int32))
  | 0, _, _, _, _, _, _, _, _, _ => none
  | fuel + 1, v0, v1, v2, v3, v4, v5, x3, x5, m_hidden0 => (if ((Town_people v1) ≤ x5) then (some (x3, m_hidden0)) else (if (6 ≤ x5) then (some (x3, m_hidden0)) else ((f_Lots_nextDraw N x3).bind (fun q3 => ((f_Lots_drawBelow N q3 3).bind (fun q4 => (if (q4 = 0) then (if (x5 < 0 ∨ 6 ≤ Int32.toNatClampNeg x5) then none else (if (((Lives_purse v5) (Int32.toNatClampNeg x5)) < 20) then (f_Forecast_hideByDraws_L5 N fuel v0 v1 v2 v3 v4 v5 q3 (x5 + 1) m_hidden0) else (if (x5 < 0 ∨ 6 ≤ Int32.toNatClampNeg x5) then none else (f_Forecast_hideByDraws_L5 N fuel v0 v1 v2 v3 v4 v5 q3 (x5 + 1) (upd m_hidden0 (Int32.toNatClampNeg x5) 20))))) else (f_Forecast_hideByDraws_L5 N fuel v0 v1 v2 v3 v4 v5 q3 (x5 + 1) m_hidden0))))))))
def f_Forecast_hideByDraws (N : Nat) (v0 : VForecast) (v1 : VTown) (v2 : VLaws) (v3 : VLots) (v4 : VLives) (v5 : VLives) (a1 : Int64) : Option (Int64 × (Nat → Int32)) := ((f_Forecast_hideByDraws_L5 N N v0 v1 v2 v3 v4 v5 a1 0 (Lives_hidden v5)).bind (fun q11 => (some (q11.1, q11.2))))
set_option maxRecDepth 20000 in
set_option maxHeartbeats 4000000 in
theorem c_Forecast_hideByDraws_L5 {Z : zCtx} {D n0w nf mcw msw : Nat} (hZ : zOk Z zMX1_hideByDraws) (hR : zCan Z D mcw msw) (hDd : 2 ≤ D) (hN : zNew Z n0w nf) (hRm : zRoom Z 0 0) (N : Nat) : ∀ (fuel : Nat) (v0 : VForecast) (v1 : VTown) (v2 : VLaws) (v3 : VLots) (v4 : VLives) (v5 : VLives) (x3 : Int64) (x5 : Int32) (m_hidden0 : (Nat → Int32)) (q : (Int64 × (Nat → Int32))), f_Forecast_hideByDraws_L5 N fuel v0 v1 v2 v3 v4 v5 x3 x5 m_hidden0 = some q → (AW Z 0 0 70 [none, none, none, some (.long q.1), none, none] [] ([kForecast 0 5 19 22 30 v0, kTown 5 13 v1, kLaws 13 v2, kLots 19 v3, kLives 22 5 v4, kLives 30 5 (Lives_hidden_s v5 q.2)] : List (List zE)).flatten) → AW Z 0 0 5 [some (.ref 0), none, none, some (.long x3), none, some (.int x5)] [] ([kForecast 0 5 19 22 30 v0, kTown 5 13 v1, kLaws 13 v2, kLots 19 v3, kLives 22 5 v4, kLives 30 5 (Lives_hidden_s v5 m_hidden0)] : List (List zE)).flatten := by
  intro fuel
  induction fuel with
  | zero =>
    intro v0 v1 v2 v3 v4 v5 x3 x5 m_hidden0 q hf hk0
    simp [f_Forecast_hideByDraws_L5] at hf
  | succ fuel ih =>
    intro v0 v1 v2 v3 v4 v5 x3 x5 m_hidden0 q hf hk0
    rw [f_Forecast_hideByDraws_L5] at hf
    refine AW.run hZ hRm [25, 70] 400 ?_
    show ((((Town_people v1) ≤ x5) → AW Z 0 0 70 [some (.ref 0), none, none, some (.long x3), none, some (.int x5)] [] ([kForecast 0 5 19 22 30 v0, kTown 5 13 v1, kLaws 13 v2, kLots 19 v3, kLives 22 5 v4, kLives 30 5 (Lives_hidden_s v5 m_hidden0)] : List (List zE)).flatten) ∧ (¬ ((Town_people v1) ≤ x5) → (((6 ≤ x5) → AW Z 0 0 70 [some (.ref 0), none, none, some (.long x3), none, some (.int x5)] [] ([kForecast 0 5 19 22 30 v0, kTown 5 13 v1, kLaws 13 v2, kLots 19 v3, kLives 22 5 v4, kLives 30 5 (Lives_hidden_s v5 m_hidden0)] : List (List zE)).flatten) ∧ (¬ (6 ≤ x5) → AW Z 0 0 25 [some (.ref 0), none, none, some (.long x3), none, some (.int x5)] [.long x3] ([kForecast 0 5 19 22 30 v0, kTown 5 13 v1, kLaws 13 v2, kLots 19 v3, kLives 22 5 v4, kLives 30 5 (Lives_hidden_s v5 m_hidden0)] : List (List zE)).flatten))))
    refine ⟨fun c1 => ?_, fun c1 => ?_⟩
    · rw [if_pos c1] at hf
      cases hf
      refine AW.forget [false, false, false, true, false, false] ?_
      show AW Z 0 0 70 [none, none, none, some (.long x3), none, none] [] ([kForecast 0 5 19 22 30 v0, kTown 5 13 v1, kLaws 13 v2, kLots 19 v3, kLives 22 5 v4, kLives 30 5 (Lives_hidden_s v5 m_hidden0)] : List (List zE)).flatten
      exact hk0
    · rw [if_neg c1] at hf
      refine ⟨fun c2 => ?_, fun c2 => ?_⟩
      · rw [if_pos c2] at hf
        cases hf
        refine AW.forget [false, false, false, true, false, false] ?_
        show AW Z 0 0 70 [none, none, none, some (.long x3), none, none] [] ([kForecast 0 5 19 22 30 v0, kTown 5 13 v1, kLaws 13 v2, kLots 19 v3, kLives 22 5 v4, kLives 30 5 (Lives_hidden_s v5 m_hidden0)] : List (List zE)).flatten
        exact hk0
      · rw [if_neg c2] at hf
        obtain ⟨q3, h10, hf⟩ := zbind hf
        refine AW.callSc hZ hR hN (c_Lots_nextDraw N x3 q3 h10) zMX4_nextDraw_ok rfl rfl zK_BorrowedLives_Forecast_169 zV_X4_nextDraw rfl [5, 8, 6, 3, 8, 8] [] [] rfl rfl rfl (by decide) (by decide) (by omega) (by decide) (Nat.zero_le _) (Nat.zero_le _) rfl rfl ?_
        rintro v cc ⟨rfl, rfl⟩
        refine ⟨_, rfl, rfl, ?_⟩
        show AW Z 0 0 28 [some (.ref 0), none, none, some (.long x3), none, some (.int x5)] [.long q3] ([kForecast 0 5 19 22 30 v0, kTown 5 13 v1, kLaws 13 v2, kLots 19 v3, kLives 22 5 v4, kLives 30 5 (Lives_hidden_s v5 m_hidden0)] : List (List zE)).flatten
        refine AW.run hZ hRm [31] 400 ?_
        show AW Z 0 0 31 [some (.ref 0), none, none, some (.long q3), none, some (.int x5)] [.int 3, .long q3] ([kForecast 0 5 19 22 30 v0, kTown 5 13 v1, kLaws 13 v2, kLots 19 v3, kLives 22 5 v4, kLives 30 5 (Lives_hidden_s v5 m_hidden0)] : List (List zE)).flatten
        obtain ⟨q4, h9, hf⟩ := zbind hf
        refine AW.callSc hZ hR hN (c_Lots_drawBelow N q3 3 q4 h9) zMX4_drawBelow_ok rfl rfl zK_BorrowedLives_Forecast_172 zV_X4_drawBelow rfl [5, 8, 6, 3, 8, 8] [] [] rfl rfl rfl (by decide) (by decide) (by omega) (by decide) (Nat.zero_le _) (Nat.zero_le _) rfl rfl ?_
        rintro v cc ⟨rfl, rfl⟩
        refine ⟨_, rfl, rfl, ?_⟩
        show AW Z 0 0 34 [some (.ref 0), none, none, some (.long q3), none, some (.int x5)] [.int q4] ([kForecast 0 5 19 22 30 v0, kTown 5 13 v1, kLaws 13 v2, kLots 19 v3, kLives 22 5 v4, kLives 30 5 (Lives_hidden_s v5 m_hidden0)] : List (List zE)).flatten
        refine AW.run hZ hRm [5] 400 ?_
        show ((¬ (q4 = 0) → AW Z 0 0 5 [some (.ref 0), none, none, some (.long q3), none, some (.int (x5 + 1))] [] ([kForecast 0 5 19 22 30 v0, kTown 5 13 v1, kLaws 13 v2, kLots 19 v3, kLives 22 5 v4, kLives 30 5 (Lives_hidden_s v5 m_hidden0)] : List (List zE)).flatten) ∧ ((q4 = 0) → (¬ (x5 < 0 ∨ 6 ≤ Int32.toNatClampNeg x5) ∧ (((((Lives_purse v5) (Int32.toNatClampNeg x5)) < 20) → AW Z 0 0 5 [some (.ref 0), none, none, some (.long q3), none, some (.int (x5 + 1))] [] ([kForecast 0 5 19 22 30 v0, kTown 5 13 v1, kLaws 13 v2, kLots 19 v3, kLives 22 5 v4, kLives 30 5 (Lives_hidden_s v5 m_hidden0)] : List (List zE)).flatten) ∧ (¬ (((Lives_purse v5) (Int32.toNatClampNeg x5)) < 20) → (¬ (x5 < 0 ∨ 6 ≤ Int32.toNatClampNeg x5) ∧ AW Z 0 0 5 [some (.ref 0), none, none, some (.long q3), none, some (.int (x5 + 1))] [] ([kForecast 0 5 19 22 30 v0, kTown 5 13 v1, kLaws 13 v2, kLots 19 v3, kLives 22 5 v4, kLives 30 5 (Lives_hidden_s v5 (upd m_hidden0 (Int32.toNatClampNeg x5) 20))] : List (List zE)).flatten))))))
        refine ⟨fun c5 => ?_, fun c5 => ?_⟩
        · rw [if_neg c5] at hf
          exact ih v0 v1 v2 v3 v4 v5 q3 (x5 + 1) m_hidden0 q hf hk0
        · rw [if_pos c5] at hf
          obtain ⟨b8, hf⟩ := zneed hf
          refine ⟨b8, ?_⟩
          refine ⟨fun c6 => ?_, fun c6 => ?_⟩
          · rw [if_pos c6] at hf
            exact ih v0 v1 v2 v3 v4 v5 q3 (x5 + 1) m_hidden0 q hf hk0
          · rw [if_neg c6] at hf
            obtain ⟨b7, hf⟩ := zneed hf
            refine ⟨b7, ?_⟩
            exact ih v0 v1 v2 v3 v4 v5 q3 (x5 + 1) (upd m_hidden0 (Int32.toNatClampNeg x5) 20) q hf hk0
set_option maxRecDepth 20000 in
set_option maxHeartbeats 4000000 in
theorem c_Forecast_hideByDraws (N : Nat) (v0 : VForecast) (v1 : VTown) (v2 : VLaws) (v3 : VLots) (v4 : VLives) (v5 : VLives) (a1 : Int64) (R : Int64 × (Nat → Int32)) (hf : f_Forecast_hideByDraws N v0 v1 v2 v3 v4 v5 a1 = some R) : Ct zMX1_hideByDraws 2 0 0 0 [.ref 0, .long a1] ([kForecast 0 5 19 22 30 v0, kTown 5 13 v1, kLaws 13 v2, kLots 19 v3, kLives 22 5 v4, kLives 30 5 v5] : List (List zE)).flatten (fun v cc => v = some (.long R.1) ∧ cc = ([kForecast 0 5 19 22 30 v0, kTown 5 13 v1, kLaws 13 v2, kLots 19 v3, kLives 22 5 v4, kLives 30 5 (Lives_hidden_s v5 R.2)] : List (List zE)).flatten) := by
  refine Ct.of zMX1_hideByDraws_ok (by decide) (Nat.le_of_ble_eq_true rfl) ?_
  intro Z hZ hR hN hE
  have hRm : zRoom Z 0 0 := zRoom0 Z
  unfold f_Forecast_hideByDraws at hf
  show AW Z 0 0 0 [some (.ref 0), some (.long a1), none, none, none, none] [] ([kForecast 0 5 19 22 30 v0, kTown 5 13 v1, kLaws 13 v2, kLots 19 v3, kLives 22 5 v4, kLives 30 5 v5] : List (List zE)).flatten
  refine AW.run hZ hRm [5] 400 ?_
  show AW Z 0 0 5 [some (.ref 0), some (.long a1), none, some (.long a1), none, some (.int 0)] [] ([kForecast 0 5 19 22 30 v0, kTown 5 13 v1, kLaws 13 v2, kLots 19 v3, kLives 22 5 v4, kLives 30 5 v5] : List (List zE)).flatten
  obtain ⟨q11, h12, hf⟩ := zbind hf
  refine AW.forget [true, false, false, true, false, true] ?_
  show AW Z 0 0 5 [some (.ref 0), none, none, some (.long a1), none, some (.int 0)] [] ([kForecast 0 5 19 22 30 v0, kTown 5 13 v1, kLaws 13 v2, kLots 19 v3, kLives 22 5 v4, kLives 30 5 v5] : List (List zE)).flatten
  refine c_Forecast_hideByDraws_L5 hZ hR (by omega) hN hRm N N v0 v1 v2 v3 v4 v5 a1 0 (Lives_hidden v5) q11 h12 ?_
  show AW Z 0 0 70 [none, none, none, some (.long q11.1), none, none] [] ([kForecast 0 5 19 22 30 v0, kTown 5 13 v1, kLaws 13 v2, kLots 19 v3, kLives 22 5 v4, kLives 30 5 (Lives_hidden_s v5 q11.2)] : List (List zE)).flatten
  refine AW.run hZ hRm [71] 400 ?_
  show AW Z 0 0 71 [none, none, none, some (.long q11.1), none, none] [.long q11.1] ([kForecast 0 5 19 22 30 v0, kTown 5 13 v1, kLaws 13 v2, kLots 19 v3, kLives 22 5 v4, kLives 30 5 (Lives_hidden_s v5 q11.2)] : List (List zE)).flatten
  cases hf
  exact AW.lret hZ hE rfl rfl rfl (Nat.le_refl 0) (Nat.le_refl 0) rfl ⟨rfl, rfl⟩
def f_Lives_goodOf (N : Nat) (v0 : VLives) (v1 : VTown) (v2 : VLaws) (a1 : Int32) : Option (Int32) := (if ((Lives_away v0) = 0) then (some 0) else ((f_Town_has N v1 v2 a1).bind (fun q2 => (if (q2 = 0) then (some 0) else (if (a1 < 0 ∨ 6 ≤ Int32.toNatClampNeg a1) then none else (if (a1 < 0 ∨ 6 ≤ Int32.toNatClampNeg a1) then none else (if (a1 < 0 ∨ 6 ≤ Int32.toNatClampNeg a1) then none else (if (a1 < 0 ∨ 6 ≤ Int32.toNatClampNeg a1) then none else (if (a1 < 0 ∨ 6 ≤ Int32.toNatClampNeg a1) then none else (some ((if 0 < ((((Lives_purse v0) (Int32.toNatClampNeg a1)) - ((Lives_debt v0) (Int32.toNatClampNeg a1))) - ((Lives_worthThen v0) (Int32.toNatClampNeg a1))) then ((((Lives_purse v0) (Int32.toNatClampNeg a1)) - ((Lives_debt v0) (Int32.toNatClampNeg a1))) - ((Lives_worthThen v0) (Int32.toNatClampNeg a1))) else 0) + (5 * (if 0 < (((Lives_home v0) (Int32.toNatClampNeg a1)) - ((Lives_homeThen v0) (Int32.toNatClampNeg a1))) then (((Lives_home v0) (Int32.toNatClampNeg a1)) - ((Lives_homeThen v0) (Int32.toNatClampNeg a1))) else 0)))))))))))))
set_option maxRecDepth 20000 in
set_option maxHeartbeats 4000000 in
theorem c_Lives_goodOf (N : Nat) (v0 : VLives) (v1 : VTown) (v2 : VLaws) (a1 : Int32) (R : Int32) (hf : f_Lives_goodOf N v0 v1 v2 a1 = some R) : Ct zMX3_goodOf 2 0 0 0 [.ref 0, .int a1] ([kLives 0 8 v0, kTown 8 16 v1, kLaws 16 v2] : List (List zE)).flatten (fun v cc => v = some (.int R) ∧ cc = ([kLives 0 8 v0, kTown 8 16 v1, kLaws 16 v2] : List (List zE)).flatten) := by
  refine Ct.of zMX3_goodOf_ok (by decide) (Nat.le_of_ble_eq_true rfl) ?_
  intro Z hZ hR hN hE
  have hRm : zRoom Z 0 0 := zRoom0 Z
  unfold f_Lives_goodOf at hf
  show AW Z 0 0 0 [some (.ref 0), some (.int a1)] [] ([kLives 0 8 v0, kTown 8 16 v1, kLaws 16 v2] : List (List zE)).flatten
  refine AW.run hZ hRm [12, 19] 400 ?_
  show ((((Lives_away v0) = 0) → AW Z 0 0 19 [some (.ref 0), some (.int a1)] [.int 0] ([kLives 0 8 v0, kTown 8 16 v1, kLaws 16 v2] : List (List zE)).flatten) ∧ (¬ ((Lives_away v0) = 0) → AW Z 0 0 12 [some (.ref 0), some (.int a1)] [.int a1, .ref 8] ([kLives 0 8 v0, kTown 8 16 v1, kLaws 16 v2] : List (List zE)).flatten))
  refine ⟨fun c1 => ?_, fun c1 => ?_⟩
  · rw [if_pos c1] at hf
    cases hf
    exact AW.iret hZ hE rfl rfl rfl rfl (Nat.le_refl 0) (Nat.le_refl 0) rfl ⟨rfl, rfl⟩
  · rw [if_neg c1] at hf
    obtain ⟨q2, h9, hf⟩ := zbind hf
    refine AW.callVc hZ hR hN (c_Town_has N v1 v2 a1 q2 h9) zMX8_has_ok rfl rfl zK_BorrowedLives_Lives_70 zV_X8_has rfl [8, 8, 6] [1, 2] [8, 9, 10, 11, 12, 13, 14, 15, 16, 17, 18, 19, 20, 21] rfl rfl rfl (by decide) (by decide) (by omega) (by decide) (Nat.zero_le _) (Nat.zero_le _) rfl rfl rfl rfl rfl ?_
    rintro v cc ⟨rfl, rfl⟩
    refine ⟨_, rfl, rfl, ?_⟩
    show AW Z 0 0 15 [some (.ref 0), some (.int a1)] [.int q2] ([kLives 0 8 v0, kTown 8 16 v1, kLaws 16 v2] : List (List zE)).flatten
    refine AW.run hZ hRm [19, 64] 400 ?_
    show ((¬ (q2 = 0) → (¬ (a1 < 0 ∨ 6 ≤ Int32.toNatClampNeg a1) ∧ (¬ (a1 < 0 ∨ 6 ≤ Int32.toNatClampNeg a1) ∧ (¬ (a1 < 0 ∨ 6 ≤ Int32.toNatClampNeg a1) ∧ (¬ (a1 < 0 ∨ 6 ≤ Int32.toNatClampNeg a1) ∧ (¬ (a1 < 0 ∨ 6 ≤ Int32.toNatClampNeg a1) ∧ AW Z 0 0 64 [some (.ref 0), some (.int a1)] [.int ((if 0 < ((((Lives_purse v0) (Int32.toNatClampNeg a1)) - ((Lives_debt v0) (Int32.toNatClampNeg a1))) - ((Lives_worthThen v0) (Int32.toNatClampNeg a1))) then ((((Lives_purse v0) (Int32.toNatClampNeg a1)) - ((Lives_debt v0) (Int32.toNatClampNeg a1))) - ((Lives_worthThen v0) (Int32.toNatClampNeg a1))) else 0) + (5 * (if 0 < (((Lives_home v0) (Int32.toNatClampNeg a1)) - ((Lives_homeThen v0) (Int32.toNatClampNeg a1))) then (((Lives_home v0) (Int32.toNatClampNeg a1)) - ((Lives_homeThen v0) (Int32.toNatClampNeg a1))) else 0)))] ([kLives 0 8 v0, kTown 8 16 v1, kLaws 16 v2] : List (List zE)).flatten)))))) ∧ ((q2 = 0) → AW Z 0 0 19 [some (.ref 0), some (.int a1)] [.int 0] ([kLives 0 8 v0, kTown 8 16 v1, kLaws 16 v2] : List (List zE)).flatten))
    refine ⟨fun c3 => ?_, fun c3 => ?_⟩
    · rw [if_neg c3] at hf
      obtain ⟨b8, hf⟩ := zneed hf
      refine ⟨b8, ?_⟩
      obtain ⟨b7, hf⟩ := zneed hf
      refine ⟨b7, ?_⟩
      obtain ⟨b6, hf⟩ := zneed hf
      refine ⟨b6, ?_⟩
      obtain ⟨b5, hf⟩ := zneed hf
      refine ⟨b5, ?_⟩
      obtain ⟨b4, hf⟩ := zneed hf
      refine ⟨b4, ?_⟩
      cases hf
      exact AW.iret hZ hE rfl rfl rfl rfl (Nat.le_refl 0) (Nat.le_refl 0) rfl ⟨rfl, rfl⟩
    · rw [if_pos c3] at hf
      cases hf
      exact AW.iret hZ hE rfl rfl rfl rfl (Nat.le_refl 0) (Nat.le_refl 0) rfl ⟨rfl, rfl⟩
def f_Lives_goodOfAll_L4 (N : Nat) : Nat → VLives → VTown → VLaws → Int32 → Int32 → Option (Int32)
  | 0, _, _, _, _, _ => none
  | fuel + 1, v0, v1, v2, x1, x2 => (if ((Town_people v1) ≤ x2) then (some x1) else ((f_Lives_goodOf N v0 v1 v2 x2).bind (fun q2 => (f_Lives_goodOfAll_L4 N fuel v0 v1 v2 (x1 + q2) (x2 + 1)))))
def f_Lives_goodOfAll (N : Nat) (v0 : VLives) (v1 : VTown) (v2 : VLaws) : Option (Int32) := ((f_Lives_goodOfAll_L4 N N v0 v1 v2 0 0).bind (fun q4 => (some q4)))
set_option maxRecDepth 20000 in
set_option maxHeartbeats 4000000 in
theorem c_Lives_goodOfAll_L4 {Z : zCtx} {D n0w nf mcw msw : Nat} (hZ : zOk Z zMX3_goodOfAll) (hR : zCan Z D mcw msw) (hDd : 3 ≤ D) (hN : zNew Z n0w nf) (hRm : zRoom Z 0 0) (N : Nat) : ∀ (fuel : Nat) (v0 : VLives) (v1 : VTown) (v2 : VLaws) (x1 : Int32) (x2 : Int32) (q : (Int32)), f_Lives_goodOfAll_L4 N fuel v0 v1 v2 x1 x2 = some q → (AW Z 0 0 29 [none, some (.int q), none] [] ([kLives 0 8 v0, kTown 8 16 v1, kLaws 16 v2] : List (List zE)).flatten) → AW Z 0 0 4 [some (.ref 0), some (.int x1), some (.int x2)] [] ([kLives 0 8 v0, kTown 8 16 v1, kLaws 16 v2] : List (List zE)).flatten := by
  intro fuel
  induction fuel with
  | zero =>
    intro v0 v1 v2 x1 x2 q hf hk0
    simp [f_Lives_goodOfAll_L4] at hf
  | succ fuel ih =>
    intro v0 v1 v2 x1 x2 q hf hk0
    rw [f_Lives_goodOfAll_L4] at hf
    refine AW.run hZ hRm [18, 29] 400 ?_
    show ((((Town_people v1) ≤ x2) → AW Z 0 0 29 [some (.ref 0), some (.int x1), some (.int x2)] [] ([kLives 0 8 v0, kTown 8 16 v1, kLaws 16 v2] : List (List zE)).flatten) ∧ (¬ ((Town_people v1) ≤ x2) → AW Z 0 0 18 [some (.ref 0), some (.int x1), some (.int x2)] [.int x2, .ref 0, .int x1] ([kLives 0 8 v0, kTown 8 16 v1, kLaws 16 v2] : List (List zE)).flatten))
    refine ⟨fun c1 => ?_, fun c1 => ?_⟩
    · rw [if_pos c1] at hf
      cases hf
      refine AW.forget [false, true, false] ?_
      show AW Z 0 0 29 [none, some (.int x1), none] [] ([kLives 0 8 v0, kTown 8 16 v1, kLaws 16 v2] : List (List zE)).flatten
      exact hk0
    · rw [if_neg c1] at hf
      obtain ⟨q2, h3, hf⟩ := zbind hf
      refine AW.callVc hZ hR hN (c_Lives_goodOf N v0 v1 v2 x2 q2 h3) zMX3_goodOf_ok rfl rfl zK_BorrowedLives_Lives_163 zV_X3_goodOf rfl [8, 8, 6] [0, 1, 2] [0, 1, 2, 3, 4, 5, 6, 7, 8, 9, 10, 11, 12, 13, 14, 15, 16, 17, 18, 19, 20, 21] rfl rfl rfl (by decide) (by decide) (by omega) (by decide) (Nat.zero_le _) (Nat.zero_le _) rfl rfl rfl rfl rfl ?_
      rintro v cc ⟨rfl, rfl⟩
      refine ⟨_, rfl, rfl, ?_⟩
      show AW Z 0 0 21 [some (.ref 0), some (.int x1), some (.int x2)] [.int q2, .int x1] ([kLives 0 8 v0, kTown 8 16 v1, kLaws 16 v2] : List (List zE)).flatten
      refine AW.run hZ hRm [4] 400 ?_
      show AW Z 0 0 4 [some (.ref 0), some (.int (x1 + q2)), some (.int (x2 + 1))] [] ([kLives 0 8 v0, kTown 8 16 v1, kLaws 16 v2] : List (List zE)).flatten
      exact ih v0 v1 v2 (x1 + q2) (x2 + 1) q hf hk0
set_option maxRecDepth 20000 in
set_option maxHeartbeats 4000000 in
theorem c_Lives_goodOfAll (N : Nat) (v0 : VLives) (v1 : VTown) (v2 : VLaws) (R : Int32) (hf : f_Lives_goodOfAll N v0 v1 v2 = some R) : Ct zMX3_goodOfAll 3 0 0 0 [.ref 0] ([kLives 0 8 v0, kTown 8 16 v1, kLaws 16 v2] : List (List zE)).flatten (fun v cc => v = some (.int R) ∧ cc = ([kLives 0 8 v0, kTown 8 16 v1, kLaws 16 v2] : List (List zE)).flatten) := by
  refine Ct.of zMX3_goodOfAll_ok (by decide) (Nat.le_of_ble_eq_true rfl) ?_
  intro Z hZ hR hN hE
  have hRm : zRoom Z 0 0 := zRoom0 Z
  unfold f_Lives_goodOfAll at hf
  show AW Z 0 0 0 [some (.ref 0), none, none] [] ([kLives 0 8 v0, kTown 8 16 v1, kLaws 16 v2] : List (List zE)).flatten
  refine AW.run hZ hRm [4] 400 ?_
  show AW Z 0 0 4 [some (.ref 0), some (.int 0), some (.int 0)] [] ([kLives 0 8 v0, kTown 8 16 v1, kLaws 16 v2] : List (List zE)).flatten
  obtain ⟨q4, h5, hf⟩ := zbind hf
  refine c_Lives_goodOfAll_L4 hZ hR (by omega) hN hRm N N v0 v1 v2 0 0 q4 h5 ?_
  show AW Z 0 0 29 [none, some (.int q4), none] [] ([kLives 0 8 v0, kTown 8 16 v1, kLaws 16 v2] : List (List zE)).flatten
  refine AW.run hZ hRm [30] 400 ?_
  show AW Z 0 0 30 [none, some (.int q4), none] [.int q4] ([kLives 0 8 v0, kTown 8 16 v1, kLaws 16 v2] : List (List zE)).flatten
  cases hf
  exact AW.iret hZ hE rfl rfl rfl rfl (Nat.le_refl 0) (Nat.le_refl 0) rfl ⟨rfl, rfl⟩
def f_Arr_fill_L5 (N : Nat) : Nat → Nat → (Nat → Int32) → Int32 → Int32 → Int32 → (Nat → Int32) → Option ((Nat → Int32))
  | 0, _, _, _, _, _, _ => none
  | fuel + 1, n0, v0, y1, y3, x2, m_arr0 => (if (y3 ≤ x2) then (some m_arr0) else (if (x2 < 0 ∨ n0 ≤ Int32.toNatClampNeg x2) then none else (f_Arr_fill_L5 N fuel n0 v0 y1 y3 (x2 + 1) (upd m_arr0 (Int32.toNatClampNeg x2) y1))))
def f_Arr_fill (N : Nat) (n0 : Nat) (v0 : (Nat → Int32)) (a1 : Int32) : Option ((Nat → Int32)) := ((f_Arr_fill_L5 N N n0 v0 a1 (Int32.ofNat n0) 0 v0).bind (fun q3 => (some q3)))
set_option maxRecDepth 20000 in
set_option maxHeartbeats 4000000 in
theorem c_Arr_fill_L5 {Z : zCtx} {D n0w nf mcw msw : Nat} (hZ : zOk Z zMJ7_fill_53178) (hR : zCan Z D mcw msw) (hDd : 1 ≤ D) (hN : zNew Z n0w nf) (hRm : zRoom Z 0 0) (N : Nat) (n0 : Nat) : ∀ (fuel : Nat) (v0 : (Nat → Int32)) (y1 : Int32) (y3 : Int32) (x2 : Int32) (m_arr0 : (Nat → Int32)) (q : ((Nat → Int32))), f_Arr_fill_L5 N fuel n0 v0 y1 y3 x2 m_arr0 = some q → (AW Z 0 0 20 [none, none, none, none] [] [.inl (0, n0, .inl q)]) → AW Z 0 0 5 [some (.ref 0), some (.int y1), some (.int x2), some (.int y3)] [] [.inl (0, n0, .inl m_arr0)] := by
  intro fuel
  induction fuel with
  | zero =>
    intro v0 y1 y3 x2 m_arr0 q hf hk0
    simp [f_Arr_fill_L5] at hf
  | succ fuel ih =>
    intro v0 y1 y3 x2 m_arr0 q hf hk0
    rw [f_Arr_fill_L5] at hf
    refine AW.run hZ hRm [5, 20] 400 ?_
    show (((y3 ≤ x2) → AW Z 0 0 20 [some (.ref 0), some (.int y1), some (.int x2), some (.int y3)] [] [.inl (0, n0, .inl m_arr0)]) ∧ (¬ (y3 ≤ x2) → (¬ (x2 < 0 ∨ n0 ≤ Int32.toNatClampNeg x2) ∧ AW Z 0 0 5 [some (.ref 0), some (.int y1), some (.int (x2 + 1)), some (.int y3)] [] [.inl (0, n0, .inl (upd m_arr0 (Int32.toNatClampNeg x2) y1))])))
    refine ⟨fun c1 => ?_, fun c1 => ?_⟩
    · rw [if_pos c1] at hf
      cases hf
      refine AW.forget [false, false, false, false] ?_
      show AW Z 0 0 20 [none, none, none, none] [] [.inl (0, n0, .inl m_arr0)]
      exact hk0
    · rw [if_neg c1] at hf
      obtain ⟨b2, hf⟩ := zneed hf
      refine ⟨b2, ?_⟩
      exact ih v0 y1 y3 (x2 + 1) (upd m_arr0 (Int32.toNatClampNeg x2) y1) q hf hk0
set_option maxRecDepth 20000 in
set_option maxHeartbeats 4000000 in
theorem c_Arr_fill (N : Nat) (n0 : Nat) (v0 : (Nat → Int32)) (a1 : Int32) (R : (Nat → Int32)) (hf : f_Arr_fill N n0 v0 a1 = some R) : Ct zMJ7_fill_53178 1 0 0 0 [.ref 0, .int a1] [.inl (0, n0, .inl v0)] (fun v cc => v = none ∧ cc = [.inl (0, n0, .inl R)]) := by
  refine Ct.of zMJ7_fill_53178_ok (by decide) (Nat.le_of_ble_eq_true rfl) ?_
  intro Z hZ hR hN hE
  have hRm : zRoom Z 0 0 := zRoom0 Z
  unfold f_Arr_fill at hf
  show AW Z 0 0 0 [some (.ref 0), some (.int a1), none, none] [] [.inl (0, n0, .inl v0)]
  refine AW.run hZ hRm [5] 400 ?_
  show AW Z 0 0 5 [some (.ref 0), some (.int a1), some (.int 0), some (.int (Int32.ofNat n0))] [] [.inl (0, n0, .inl v0)]
  obtain ⟨q3, h4, hf⟩ := zbind hf
  refine c_Arr_fill_L5 hZ hR (by omega) hN hRm N n0 N v0 a1 (Int32.ofNat n0) 0 v0 q3 h4 ?_
  show AW Z 0 0 20 [none, none, none, none] [] [.inl (0, n0, .inl q3)]
  cases hf
  exact AW.vret hZ hE rfl rfl rfl (Nat.le_refl 0) (Nat.le_refl 0) rfl ⟨rfl, rfl⟩
def f_Lives_sumOf_purse_L4 (N : Nat) : Nat → VLives → VTown → VLaws → Int32 → Int32 → Option (Int32)
  | 0, _, _, _, _, _ => none
  | fuel + 1, v0, v1, v2, x2, x3 => (if ((Town_people v1) ≤ x3) then (some x2) else (if (6 ≤ x3) then (some x2) else (if (x3 < 0 ∨ 6 ≤ Int32.toNatClampNeg x3) then none else (f_Lives_sumOf_purse_L4 N fuel v0 v1 v2 (x2 + ((Lives_purse v0) (Int32.toNatClampNeg x3))) (x3 + 1)))))
def f_Lives_sumOf_purse (N : Nat) (v0 : VLives) (v1 : VTown) (v2 : VLaws) : Option (Int32) := ((f_Lives_sumOf_purse_L4 N N v0 v1 v2 0 0).bind (fun q4 => (some q4)))
set_option maxRecDepth 20000 in
set_option maxHeartbeats 4000000 in
theorem c_Lives_sumOf_purse_L4 {Z : zCtx} {D n0w nf mcw msw : Nat} (hZ : zOk Z zMX3_sumOf) (hR : zCan Z D mcw msw) (hDd : 1 ≤ D) (hN : zNew Z n0w nf) (hRm : zRoom Z 0 0) (N : Nat) : ∀ (fuel : Nat) (v0 : VLives) (v1 : VTown) (v2 : VLaws) (x2 : Int32) (x3 : Int32) (q : (Int32)), f_Lives_sumOf_purse_L4 N fuel v0 v1 v2 x2 x3 = some q → (AW Z 0 0 33 [none, none, some (.int q), none] [] ([kLives 0 8 v0, kTown 8 16 v1, kLaws 16 v2] : List (List zE)).flatten) → AW Z 0 0 4 [some (.ref 0), some (.ref 1), some (.int x2), some (.int x3)] [] ([kLives 0 8 v0, kTown 8 16 v1, kLaws 16 v2] : List (List zE)).flatten := by
  intro fuel
  induction fuel with
  | zero =>
    intro v0 v1 v2 x2 x3 q hf hk0
    simp [f_Lives_sumOf_purse_L4] at hf
  | succ fuel ih =>
    intro v0 v1 v2 x2 x3 q hf hk0
    rw [f_Lives_sumOf_purse_L4] at hf
    refine AW.run hZ hRm [4, 33] 400 ?_
    show ((((Town_people v1) ≤ x3) → AW Z 0 0 33 [some (.ref 0), some (.ref 1), some (.int x2), some (.int x3)] [] ([kLives 0 8 v0, kTown 8 16 v1, kLaws 16 v2] : List (List zE)).flatten) ∧ (¬ ((Town_people v1) ≤ x3) → (((6 ≤ x3) → AW Z 0 0 33 [some (.ref 0), some (.ref 1), some (.int x2), some (.int x3)] [] ([kLives 0 8 v0, kTown 8 16 v1, kLaws 16 v2] : List (List zE)).flatten) ∧ (¬ (6 ≤ x3) → (¬ (x3 < 0 ∨ 6 ≤ Int32.toNatClampNeg x3) ∧ AW Z 0 0 4 [some (.ref 0), some (.ref 1), some (.int (x2 + ((Lives_purse v0) (Int32.toNatClampNeg x3)))), some (.int (x3 + 1))] [] ([kLives 0 8 v0, kTown 8 16 v1, kLaws 16 v2] : List (List zE)).flatten)))))
    refine ⟨fun c1 => ?_, fun c1 => ?_⟩
    · rw [if_pos c1] at hf
      cases hf
      refine AW.forget [false, false, true, false] ?_
      show AW Z 0 0 33 [none, none, some (.int x2), none] [] ([kLives 0 8 v0, kTown 8 16 v1, kLaws 16 v2] : List (List zE)).flatten
      exact hk0
    · rw [if_neg c1] at hf
      refine ⟨fun c2 => ?_, fun c2 => ?_⟩
      · rw [if_pos c2] at hf
        cases hf
        refine AW.forget [false, false, true, false] ?_
        show AW Z 0 0 33 [none, none, some (.int x2), none] [] ([kLives 0 8 v0, kTown 8 16 v1, kLaws 16 v2] : List (List zE)).flatten
        exact hk0
      · rw [if_neg c2] at hf
        obtain ⟨b3, hf⟩ := zneed hf
        refine ⟨b3, ?_⟩
        exact ih v0 v1 v2 (x2 + ((Lives_purse v0) (Int32.toNatClampNeg x3))) (x3 + 1) q hf hk0
set_option maxRecDepth 20000 in
set_option maxHeartbeats 4000000 in
theorem c_Lives_sumOf_purse (N : Nat) (v0 : VLives) (v1 : VTown) (v2 : VLaws) (R : Int32) (hf : f_Lives_sumOf_purse N v0 v1 v2 = some R) : Ct zMX3_sumOf 1 0 0 0 [.ref 0, .ref 1] ([kLives 0 8 v0, kTown 8 16 v1, kLaws 16 v2] : List (List zE)).flatten (fun v cc => v = some (.int R) ∧ cc = ([kLives 0 8 v0, kTown 8 16 v1, kLaws 16 v2] : List (List zE)).flatten) := by
  refine Ct.of zMX3_sumOf_ok (by decide) (Nat.le_of_ble_eq_true rfl) ?_
  intro Z hZ hR hN hE
  have hRm : zRoom Z 0 0 := zRoom0 Z
  unfold f_Lives_sumOf_purse at hf
  show AW Z 0 0 0 [some (.ref 0), some (.ref 1), none, none] [] ([kLives 0 8 v0, kTown 8 16 v1, kLaws 16 v2] : List (List zE)).flatten
  refine AW.run hZ hRm [4] 400 ?_
  show AW Z 0 0 4 [some (.ref 0), some (.ref 1), some (.int 0), some (.int 0)] [] ([kLives 0 8 v0, kTown 8 16 v1, kLaws 16 v2] : List (List zE)).flatten
  obtain ⟨q4, h5, hf⟩ := zbind hf
  refine c_Lives_sumOf_purse_L4 hZ hR (by omega) hN hRm N N v0 v1 v2 0 0 q4 h5 ?_
  show AW Z 0 0 33 [none, none, some (.int q4), none] [] ([kLives 0 8 v0, kTown 8 16 v1, kLaws 16 v2] : List (List zE)).flatten
  refine AW.run hZ hRm [34] 400 ?_
  show AW Z 0 0 34 [none, none, some (.int q4), none] [.int q4] ([kLives 0 8 v0, kTown 8 16 v1, kLaws 16 v2] : List (List zE)).flatten
  cases hf
  exact AW.iret hZ hE rfl rfl rfl rfl (Nat.le_refl 0) (Nat.le_refl 0) rfl ⟨rfl, rfl⟩
def f_Lives_sumOf_debt_L4 (N : Nat) : Nat → VLives → VTown → VLaws → Int32 → Int32 → Option (Int32)
  | 0, _, _, _, _, _ => none
  | fuel + 1, v0, v1, v2, x2, x3 => (if ((Town_people v1) ≤ x3) then (some x2) else (if (6 ≤ x3) then (some x2) else (if (x3 < 0 ∨ 6 ≤ Int32.toNatClampNeg x3) then none else (f_Lives_sumOf_debt_L4 N fuel v0 v1 v2 (x2 + ((Lives_debt v0) (Int32.toNatClampNeg x3))) (x3 + 1)))))
def f_Lives_sumOf_debt (N : Nat) (v0 : VLives) (v1 : VTown) (v2 : VLaws) : Option (Int32) := ((f_Lives_sumOf_debt_L4 N N v0 v1 v2 0 0).bind (fun q4 => (some q4)))
set_option maxRecDepth 20000 in
set_option maxHeartbeats 4000000 in
theorem c_Lives_sumOf_debt_L4 {Z : zCtx} {D n0w nf mcw msw : Nat} (hZ : zOk Z zMX3_sumOf) (hR : zCan Z D mcw msw) (hDd : 1 ≤ D) (hN : zNew Z n0w nf) (hRm : zRoom Z 0 0) (N : Nat) : ∀ (fuel : Nat) (v0 : VLives) (v1 : VTown) (v2 : VLaws) (x2 : Int32) (x3 : Int32) (q : (Int32)), f_Lives_sumOf_debt_L4 N fuel v0 v1 v2 x2 x3 = some q → (AW Z 0 0 33 [none, none, some (.int q), none] [] ([kLives 0 8 v0, kTown 8 16 v1, kLaws 16 v2] : List (List zE)).flatten) → AW Z 0 0 4 [some (.ref 0), some (.ref 2), some (.int x2), some (.int x3)] [] ([kLives 0 8 v0, kTown 8 16 v1, kLaws 16 v2] : List (List zE)).flatten := by
  intro fuel
  induction fuel with
  | zero =>
    intro v0 v1 v2 x2 x3 q hf hk0
    simp [f_Lives_sumOf_debt_L4] at hf
  | succ fuel ih =>
    intro v0 v1 v2 x2 x3 q hf hk0
    rw [f_Lives_sumOf_debt_L4] at hf
    refine AW.run hZ hRm [4, 33] 400 ?_
    show ((((Town_people v1) ≤ x3) → AW Z 0 0 33 [some (.ref 0), some (.ref 2), some (.int x2), some (.int x3)] [] ([kLives 0 8 v0, kTown 8 16 v1, kLaws 16 v2] : List (List zE)).flatten) ∧ (¬ ((Town_people v1) ≤ x3) → (((6 ≤ x3) → AW Z 0 0 33 [some (.ref 0), some (.ref 2), some (.int x2), some (.int x3)] [] ([kLives 0 8 v0, kTown 8 16 v1, kLaws 16 v2] : List (List zE)).flatten) ∧ (¬ (6 ≤ x3) → (¬ (x3 < 0 ∨ 6 ≤ Int32.toNatClampNeg x3) ∧ AW Z 0 0 4 [some (.ref 0), some (.ref 2), some (.int (x2 + ((Lives_debt v0) (Int32.toNatClampNeg x3)))), some (.int (x3 + 1))] [] ([kLives 0 8 v0, kTown 8 16 v1, kLaws 16 v2] : List (List zE)).flatten)))))
    refine ⟨fun c1 => ?_, fun c1 => ?_⟩
    · rw [if_pos c1] at hf
      cases hf
      refine AW.forget [false, false, true, false] ?_
      show AW Z 0 0 33 [none, none, some (.int x2), none] [] ([kLives 0 8 v0, kTown 8 16 v1, kLaws 16 v2] : List (List zE)).flatten
      exact hk0
    · rw [if_neg c1] at hf
      refine ⟨fun c2 => ?_, fun c2 => ?_⟩
      · rw [if_pos c2] at hf
        cases hf
        refine AW.forget [false, false, true, false] ?_
        show AW Z 0 0 33 [none, none, some (.int x2), none] [] ([kLives 0 8 v0, kTown 8 16 v1, kLaws 16 v2] : List (List zE)).flatten
        exact hk0
      · rw [if_neg c2] at hf
        obtain ⟨b3, hf⟩ := zneed hf
        refine ⟨b3, ?_⟩
        exact ih v0 v1 v2 (x2 + ((Lives_debt v0) (Int32.toNatClampNeg x3))) (x3 + 1) q hf hk0
set_option maxRecDepth 20000 in
set_option maxHeartbeats 4000000 in
theorem c_Lives_sumOf_debt (N : Nat) (v0 : VLives) (v1 : VTown) (v2 : VLaws) (R : Int32) (hf : f_Lives_sumOf_debt N v0 v1 v2 = some R) : Ct zMX3_sumOf 1 0 0 0 [.ref 0, .ref 2] ([kLives 0 8 v0, kTown 8 16 v1, kLaws 16 v2] : List (List zE)).flatten (fun v cc => v = some (.int R) ∧ cc = ([kLives 0 8 v0, kTown 8 16 v1, kLaws 16 v2] : List (List zE)).flatten) := by
  refine Ct.of zMX3_sumOf_ok (by decide) (Nat.le_of_ble_eq_true rfl) ?_
  intro Z hZ hR hN hE
  have hRm : zRoom Z 0 0 := zRoom0 Z
  unfold f_Lives_sumOf_debt at hf
  show AW Z 0 0 0 [some (.ref 0), some (.ref 2), none, none] [] ([kLives 0 8 v0, kTown 8 16 v1, kLaws 16 v2] : List (List zE)).flatten
  refine AW.run hZ hRm [4] 400 ?_
  show AW Z 0 0 4 [some (.ref 0), some (.ref 2), some (.int 0), some (.int 0)] [] ([kLives 0 8 v0, kTown 8 16 v1, kLaws 16 v2] : List (List zE)).flatten
  obtain ⟨q4, h5, hf⟩ := zbind hf
  refine c_Lives_sumOf_debt_L4 hZ hR (by omega) hN hRm N N v0 v1 v2 0 0 q4 h5 ?_
  show AW Z 0 0 33 [none, none, some (.int q4), none] [] ([kLives 0 8 v0, kTown 8 16 v1, kLaws 16 v2] : List (List zE)).flatten
  refine AW.run hZ hRm [34] 400 ?_
  show AW Z 0 0 34 [none, none, some (.int q4), none] [.int q4] ([kLives 0 8 v0, kTown 8 16 v1, kLaws 16 v2] : List (List zE)).flatten
  cases hf
  exact AW.iret hZ hE rfl rfl rfl rfl (Nat.le_refl 0) (Nat.le_refl 0) rfl ⟨rfl, rfl⟩
