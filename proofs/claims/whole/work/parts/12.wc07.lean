def f_Forecast_harmBySign_L5 (N : Nat) : Nat → VForecast → VTown → VLaws → VLots → VLives → VLives → Int32 → Int64 → Int32 → (Nat → Int32) → (Nat → Int32) → (Nat → Int32) → (Nat → Int32) → (Nat → Int32) → (Nat → Int32) → (Nat → Int32) → (Nat → Int32) → (Nat → Int32) → Int32 → Int32 → Int32 → Int32 → Option (Int64 × (Nat → Int32) × (Nat → Int32) × (Nat → Int32) × (Nat → Int32) × (Nat → Int32) × (Nat → Int32) × (Nat → Int32) × (Nat → Int32) × (Nat → Int32) × Int32 × Int32 × Int32 × Int32)
  | 0, _, _, _, _, _, _, _, _, _, _, _, _, _, _, _, _, _, _, _, _, _, _ => none
  | fuel + 1, v0, v1, v2, v3, v4, v5, y1, x2, x4, m_facts0, m_stack1, m_purse2, m_debt3, m_home4, m_hidden5, m_self6, m_worthThen7, m_homeThen8, m_away9, m_days10, m_homes11, m_harm12 => (if ((Lots_count v3) ≤ x4) then (some (x2, m_facts0, m_stack1, m_purse2, m_debt3, m_home4, m_hidden5, m_self6, m_worthThen7, m_homeThen8, m_away9, m_days10, m_homes11, m_harm12)) else ((f_Lives_copyFrom N (Lives_s_purse_debt_home_hidden_self_worthThen_homeThen_away_days_homes_harm v5 m_purse2 m_debt3 m_home4 m_hidden5 m_self6 m_worthThen7 m_homeThen8 m_away9 m_days10 m_homes11 m_harm12) v1 (Laws_s_facts_stack v2 m_facts0 m_stack1) v4).bind (fun q2 => ((f_Lives_goAway N (Lives_s_purse_debt_home_hidden_self_worthThen_homeThen_away_days_homes_harm v5 q2.1 q2.2.1 q2.2.2.1 q2.2.2.2.1 q2.2.2.2.2.1 q2.2.2.2.2.2.1 q2.2.2.2.2.2.2.1 q2.2.2.2.2.2.2.2.1 q2.2.2.2.2.2.2.2.2.1 q2.2.2.2.2.2.2.2.2.2.1 q2.2.2.2.2.2.2.2.2.2.2) v1 (Laws_s_facts_stack v2 m_facts0 m_stack1) v3 x4).bind (fun q3 => ((f_Lives_passDays N (Lives_s_purse_debt_home_hidden_self_worthThen_homeThen_away_days_homes_harm v5 q2.1 q2.2.1 q2.2.2.1 q2.2.2.2.1 q3.1 q3.2.1 q3.2.2.1 q3.2.2.2.1 q3.2.2.2.2 q2.2.2.2.2.2.2.2.2.2.1 q2.2.2.2.2.2.2.2.2.2.2) v1 (Laws_s_facts_stack v2 m_facts0 m_stack1) 7 y1).bind (fun q4 => ((f_Lives_harmOfAll N (Lives_s_purse_debt_home_hidden_self_worthThen_homeThen_away_days_homes_harm v5 q4.1 q4.2.1 q4.2.2.1 q2.2.2.2.1 q3.1 q3.2.1 q3.2.2.1 q3.2.2.2.1 q4.2.2.2.1 q2.2.2.2.2.2.2.2.2.2.1 q2.2.2.2.2.2.2.2.2.2.2) v1 (Laws_s_facts_stack v2 q4.2.2.2.2.1 q4.2.2.2.2.2)).bind (fun q5 => (f_Forecast_harmBySign_L5 N fuel v0 v1 v2 v3 v4 v5 y1 (x2 + (Int32.toInt64 q5)) (x4 + 1) q4.2.2.2.2.1 q4.2.2.2.2.2 q4.1 q4.2.1 q4.2.2.1 q2.2.2.2.1 q3.1 q3.2.1 q3.2.2.1 q3.2.2.2.1 q4.2.2.2.1 q2.2.2.2.2.2.2.2.2.2.1 q2.2.2.2.2.2.2.2.2.2.2))))))))))
def f_Forecast_harmBySign (N : Nat) (v0 : VForecast) (v1 : VTown) (v2 : VLaws) (v3 : VLots) (v4 : VLives) (v5 : VLives) (a1 : Int32) : Option (Int64 × (Nat → Int32) × (Nat → Int32) × (Nat → Int32) × (Nat → Int32) × (Nat → Int32) × (Nat → Int32) × (Nat → Int32) × (Nat → Int32) × (Nat → Int32) × Int32 × Int32 × Int32 × Int32) := ((f_Forecast_harmBySign_L5 N N v0 v1 v2 v3 v4 v5 a1 0 0 (Laws_facts v2) (Laws_stack v2) (Lives_purse v5) (Lives_debt v5) (Lives_home v5) (Lives_hidden v5) (Lives_self v5) (Lives_worthThen v5) (Lives_homeThen v5) (Lives_away v5) (Lives_days v5) (Lives_homes v5) (Lives_harm v5)).bind (fun q10 => (some (q10.1, q10.2.1, q10.2.2.1, q10.2.2.2.1, q10.2.2.2.2.1, q10.2.2.2.2.2.1, q10.2.2.2.2.2.2.1, q10.2.2.2.2.2.2.2.1, q10.2.2.2.2.2.2.2.2.1, q10.2.2.2.2.2.2.2.2.2.1, q10.2.2.2.2.2.2.2.2.2.2.1, q10.2.2.2.2.2.2.2.2.2.2.2.1, q10.2.2.2.2.2.2.2.2.2.2.2.2.1, q10.2.2.2.2.2.2.2.2.2.2.2.2.2))))
set_option maxRecDepth 20000 in
set_option maxHeartbeats 4000000 in
theorem c_Forecast_harmBySign_L5 {Z : zCtx} {D n0w nf mcw msw : Nat} (hZ : zOk Z zMX1_harmBySign) (hR : zCan Z D mcw msw) (hDd : 5 ≤ D) (hN : zNew Z n0w nf) (hRm : zRoom Z 0 0) (N : Nat) : ∀ (fuel : Nat) (v0 : VForecast) (v1 : VTown) (v2 : VLaws) (v3 : VLots) (v4 : VLives) (v5 : VLives) (y1 : Int32) (x2 : Int64) (x4 : Int32) (m_facts0 : (Nat → Int32)) (m_stack1 : (Nat → Int32)) (m_purse2 : (Nat → Int32)) (m_debt3 : (Nat → Int32)) (m_home4 : (Nat → Int32)) (m_hidden5 : (Nat → Int32)) (m_self6 : (Nat → Int32)) (m_worthThen7 : (Nat → Int32)) (m_homeThen8 : (Nat → Int32)) (m_away9 : Int32) (m_days10 : Int32) (m_homes11 : Int32) (m_harm12 : Int32) (q : (Int64 × (Nat → Int32) × (Nat → Int32) × (Nat → Int32) × (Nat → Int32) × (Nat → Int32) × (Nat → Int32) × (Nat → Int32) × (Nat → Int32) × (Nat → Int32) × Int32 × Int32 × Int32 × Int32)), f_Forecast_harmBySign_L5 N fuel v0 v1 v2 v3 v4 v5 y1 x2 x4 m_facts0 m_stack1 m_purse2 m_debt3 m_home4 m_hidden5 m_self6 m_worthThen7 m_homeThen8 m_away9 m_days10 m_homes11 m_harm12 = some q → (AW Z 0 0 68 [none, none, some (.long q.1), none, none] [] ([kForecast 0 5 19 22 30 v0, kTown 5 13 v1, kLaws 13 (Laws_s_facts_stack v2 q.2.1 q.2.2.1), kLots 19 v3, kLives 22 5 v4, kLives 30 5 (Lives_s_purse_debt_home_hidden_self_worthThen_homeThen_away_days_homes_harm v5 q.2.2.2.1 q.2.2.2.2.1 q.2.2.2.2.2.1 q.2.2.2.2.2.2.1 q.2.2.2.2.2.2.2.1 q.2.2.2.2.2.2.2.2.1 q.2.2.2.2.2.2.2.2.2.1 q.2.2.2.2.2.2.2.2.2.2.1 q.2.2.2.2.2.2.2.2.2.2.2.1 q.2.2.2.2.2.2.2.2.2.2.2.2.1 q.2.2.2.2.2.2.2.2.2.2.2.2.2)] : List (List zE)).flatten) → AW Z 0 0 5 [some (.ref 0), some (.int y1), some (.long x2), none, some (.int x4)] [] ([kForecast 0 5 19 22 30 v0, kTown 5 13 v1, kLaws 13 (Laws_s_facts_stack v2 m_facts0 m_stack1), kLots 19 v3, kLives 22 5 v4, kLives 30 5 (Lives_s_purse_debt_home_hidden_self_worthThen_homeThen_away_days_homes_harm v5 m_purse2 m_debt3 m_home4 m_hidden5 m_self6 m_worthThen7 m_homeThen8 m_away9 m_days10 m_homes11 m_harm12)] : List (List zE)).flatten := by
  intro fuel
  induction fuel with
  | zero =>
    intro v0 v1 v2 v3 v4 v5 y1 x2 x4 m_facts0 m_stack1 m_purse2 m_debt3 m_home4 m_hidden5 m_self6 m_worthThen7 m_homeThen8 m_away9 m_days10 m_homes11 m_harm12 q hf hk0
    simp [f_Forecast_harmBySign_L5] at hf
  | succ fuel ih =>
    intro v0 v1 v2 v3 v4 v5 y1 x2 x4 m_facts0 m_stack1 m_purse2 m_debt3 m_home4 m_hidden5 m_self6 m_worthThen7 m_homeThen8 m_away9 m_days10 m_homes11 m_harm12 q hf hk0
    rw [f_Forecast_harmBySign_L5] at hf
    refine AW.run hZ hRm [25, 68] 400 ?_
    show ((((Lots_count v3) ≤ x4) → AW Z 0 0 68 [some (.ref 0), some (.int y1), some (.long x2), none, some (.int x4)] [] ([kForecast 0 5 19 22 30 v0, kTown 5 13 v1, kLaws 13 (Laws_s_facts_stack v2 m_facts0 m_stack1), kLots 19 v3, kLives 22 5 v4, kLives 30 5 (Lives_s_purse_debt_home_hidden_self_worthThen_homeThen_away_days_homes_harm v5 m_purse2 m_debt3 m_home4 m_hidden5 m_self6 m_worthThen7 m_homeThen8 m_away9 m_days10 m_homes11 m_harm12)] : List (List zE)).flatten) ∧ (¬ ((Lots_count v3) ≤ x4) → AW Z 0 0 25 [some (.ref 0), some (.int y1), some (.long x2), none, some (.int x4)] [.ref 22, .ref 30] ([kForecast 0 5 19 22 30 v0, kTown 5 13 v1, kLaws 13 (Laws_s_facts_stack v2 m_facts0 m_stack1), kLots 19 v3, kLives 22 5 v4, kLives 30 5 (Lives_s_purse_debt_home_hidden_self_worthThen_homeThen_away_days_homes_harm v5 m_purse2 m_debt3 m_home4 m_hidden5 m_self6 m_worthThen7 m_homeThen8 m_away9 m_days10 m_homes11 m_harm12)] : List (List zE)).flatten))
    refine ⟨fun c1 => ?_, fun c1 => ?_⟩
    · rw [if_pos c1] at hf
      cases hf
      refine AW.forget [false, false, true, false, false] ?_
      show AW Z 0 0 68 [none, none, some (.long x2), none, none] [] ([kForecast 0 5 19 22 30 v0, kTown 5 13 v1, kLaws 13 (Laws_s_facts_stack v2 m_facts0 m_stack1), kLots 19 v3, kLives 22 5 v4, kLives 30 5 (Lives_s_purse_debt_home_hidden_self_worthThen_homeThen_away_days_homes_harm v5 m_purse2 m_debt3 m_home4 m_hidden5 m_self6 m_worthThen7 m_homeThen8 m_away9 m_days10 m_homes11 m_harm12)] : List (List zE)).flatten
      exact hk0
    · rw [if_neg c1] at hf
      obtain ⟨q2, h9, hf⟩ := zbind hf
      refine AW.callVc hZ hR hN (c_Lives_copyFrom N (Lives_s_purse_debt_home_hidden_self_worthThen_homeThen_away_days_homes_harm v5 m_purse2 m_debt3 m_home4 m_hidden5 m_self6 m_worthThen7 m_homeThen8 m_away9 m_days10 m_homes11 m_harm12) v1 (Laws_s_facts_stack v2 m_facts0 m_stack1) v4 q2 h9) zMX3_copyFrom_ok rfl rfl zK_BorrowedLives_Forecast_74 zV_X3_copyFrom rfl [5, 8, 6, 3, 8, 8] [5, 1, 2, 4] [30, 31, 32, 33, 34, 35, 36, 37, 5, 6, 7, 8, 9, 10, 11, 12, 13, 14, 15, 16, 17, 18, 22, 23, 24, 25, 26, 27, 28, 29] rfl rfl rfl (by decide) (by decide) (by omega) (by decide) (Nat.zero_le _) (Nat.zero_le _) rfl rfl rfl rfl rfl ?_
      rintro v cc ⟨rfl, rfl⟩
      refine ⟨_, rfl, rfl, ?_⟩
      show AW Z 0 0 28 [some (.ref 0), some (.int y1), some (.long x2), none, some (.int x4)] [] ([kForecast 0 5 19 22 30 v0, kTown 5 13 v1, kLaws 13 (Laws_s_facts_stack v2 m_facts0 m_stack1), kLots 19 v3, kLives 22 5 v4, kLives 30 5 (Lives_s_purse_debt_home_hidden_self_worthThen_homeThen_away_days_homes_harm v5 q2.1 q2.2.1 q2.2.2.1 q2.2.2.2.1 q2.2.2.2.2.1 q2.2.2.2.2.2.1 q2.2.2.2.2.2.2.1 q2.2.2.2.2.2.2.2.1 q2.2.2.2.2.2.2.2.2.1 q2.2.2.2.2.2.2.2.2.2.1 q2.2.2.2.2.2.2.2.2.2.2)] : List (List zE)).flatten
      refine AW.run hZ hRm [38] 400 ?_
      show AW Z 0 0 38 [some (.ref 0), some (.int y1), some (.long x2), none, some (.int x4)] [.int x4, .ref 19, .ref 30] ([kForecast 0 5 19 22 30 v0, kTown 5 13 v1, kLaws 13 (Laws_s_facts_stack v2 m_facts0 m_stack1), kLots 19 v3, kLives 22 5 v4, kLives 30 5 (Lives_s_purse_debt_home_hidden_self_worthThen_homeThen_away_days_homes_harm v5 q2.1 q2.2.1 q2.2.2.1 q2.2.2.2.1 q2.2.2.2.2.1 q2.2.2.2.2.2.1 q2.2.2.2.2.2.2.1 q2.2.2.2.2.2.2.2.1 q2.2.2.2.2.2.2.2.2.1 q2.2.2.2.2.2.2.2.2.2.1 q2.2.2.2.2.2.2.2.2.2.2)] : List (List zE)).flatten
      obtain ⟨q3, h8, hf⟩ := zbind hf
      refine AW.callVc hZ hR hN (c_Lives_goAway N (Lives_s_purse_debt_home_hidden_self_worthThen_homeThen_away_days_homes_harm v5 q2.1 q2.2.1 q2.2.2.1 q2.2.2.2.1 q2.2.2.2.2.1 q2.2.2.2.2.2.1 q2.2.2.2.2.2.2.1 q2.2.2.2.2.2.2.2.1 q2.2.2.2.2.2.2.2.2.1 q2.2.2.2.2.2.2.2.2.2.1 q2.2.2.2.2.2.2.2.2.2.2) v1 (Laws_s_facts_stack v2 m_facts0 m_stack1) v3 x4 q3 h8) zMX3_goAway_ok rfl rfl zK_BorrowedLives_Forecast_78 zV_X3_goAway rfl [5, 8, 6, 3, 8, 8] [5, 1, 2, 3] [30, 31, 32, 33, 34, 35, 36, 37, 5, 6, 7, 8, 9, 10, 11, 12, 13, 14, 15, 16, 17, 18, 19, 20, 21] rfl rfl rfl (by decide) (by decide) (by omega) (by decide) (Nat.zero_le _) (Nat.zero_le _) rfl rfl rfl rfl rfl ?_
      rintro v cc ⟨rfl, rfl⟩
      refine ⟨_, rfl, rfl, ?_⟩
      show AW Z 0 0 41 [some (.ref 0), some (.int y1), some (.long x2), none, some (.int x4)] [] ([kForecast 0 5 19 22 30 v0, kTown 5 13 v1, kLaws 13 (Laws_s_facts_stack v2 m_facts0 m_stack1), kLots 19 v3, kLives 22 5 v4, kLives 30 5 (Lives_s_purse_debt_home_hidden_self_worthThen_homeThen_away_days_homes_harm v5 q2.1 q2.2.1 q2.2.2.1 q2.2.2.2.1 q3.1 q3.2.1 q3.2.2.1 q3.2.2.2.1 q3.2.2.2.2 q2.2.2.2.2.2.2.2.2.2.1 q2.2.2.2.2.2.2.2.2.2.2)] : List (List zE)).flatten
      refine AW.run hZ hRm [48] 400 ?_
      show AW Z 0 0 48 [some (.ref 0), some (.int y1), some (.long x2), none, some (.int x4)] [.int y1, .int 7, .ref 30] ([kForecast 0 5 19 22 30 v0, kTown 5 13 v1, kLaws 13 (Laws_s_facts_stack v2 m_facts0 m_stack1), kLots 19 v3, kLives 22 5 v4, kLives 30 5 (Lives_s_purse_debt_home_hidden_self_worthThen_homeThen_away_days_homes_harm v5 q2.1 q2.2.1 q2.2.2.1 q2.2.2.2.1 q3.1 q3.2.1 q3.2.2.1 q3.2.2.2.1 q3.2.2.2.2 q2.2.2.2.2.2.2.2.2.2.1 q2.2.2.2.2.2.2.2.2.2.2)] : List (List zE)).flatten
      obtain ⟨q4, h7, hf⟩ := zbind hf
      refine AW.callVc hZ hR hN (c_Lives_passDays N (Lives_s_purse_debt_home_hidden_self_worthThen_homeThen_away_days_homes_harm v5 q2.1 q2.2.1 q2.2.2.1 q2.2.2.2.1 q3.1 q3.2.1 q3.2.2.1 q3.2.2.2.1 q3.2.2.2.2 q2.2.2.2.2.2.2.2.2.2.1 q2.2.2.2.2.2.2.2.2.2.2) v1 (Laws_s_facts_stack v2 m_facts0 m_stack1) 7 y1 q4 h7) zMX3_passDays_ok rfl rfl zK_BorrowedLives_Forecast_87 zV_X3_passDays rfl [5, 8, 6, 3, 8, 8] [5, 1, 2] [30, 31, 32, 33, 34, 35, 36, 37, 5, 6, 7, 8, 9, 10, 11, 12, 13, 14, 15, 16, 17, 18] rfl rfl rfl (by decide) (by decide) (by omega) (by decide) (Nat.zero_le _) (Nat.zero_le _) rfl rfl rfl rfl rfl ?_
      rintro v cc ⟨rfl, rfl⟩
      refine ⟨_, rfl, rfl, ?_⟩
      show AW Z 0 0 51 [some (.ref 0), some (.int y1), some (.long x2), none, some (.int x4)] [] ([kForecast 0 5 19 22 30 v0, kTown 5 13 v1, kLaws 13 (Laws_s_facts_stack v2 q4.2.2.2.2.1 q4.2.2.2.2.2), kLots 19 v3, kLives 22 5 v4, kLives 30 5 (Lives_s_purse_debt_home_hidden_self_worthThen_homeThen_away_days_homes_harm v5 q4.1 q4.2.1 q4.2.2.1 q2.2.2.2.1 q3.1 q3.2.1 q3.2.2.1 q3.2.2.2.1 q4.2.2.2.1 q2.2.2.2.2.2.2.2.2.2.1 q2.2.2.2.2.2.2.2.2.2.2)] : List (List zE)).flatten
      refine AW.run hZ hRm [56] 400 ?_
      show AW Z 0 0 56 [some (.ref 0), some (.int y1), some (.long x2), none, some (.int x4)] [.ref 30, .long x2] ([kForecast 0 5 19 22 30 v0, kTown 5 13 v1, kLaws 13 (Laws_s_facts_stack v2 q4.2.2.2.2.1 q4.2.2.2.2.2), kLots 19 v3, kLives 22 5 v4, kLives 30 5 (Lives_s_purse_debt_home_hidden_self_worthThen_homeThen_away_days_homes_harm v5 q4.1 q4.2.1 q4.2.2.1 q2.2.2.2.1 q3.1 q3.2.1 q3.2.2.1 q3.2.2.2.1 q4.2.2.2.1 q2.2.2.2.2.2.2.2.2.2.1 q2.2.2.2.2.2.2.2.2.2.2)] : List (List zE)).flatten
      obtain ⟨q5, h6, hf⟩ := zbind hf
      refine AW.callVc hZ hR hN (c_Lives_harmOfAll N (Lives_s_purse_debt_home_hidden_self_worthThen_homeThen_away_days_homes_harm v5 q4.1 q4.2.1 q4.2.2.1 q2.2.2.2.1 q3.1 q3.2.1 q3.2.2.1 q3.2.2.2.1 q4.2.2.2.1 q2.2.2.2.2.2.2.2.2.2.1 q2.2.2.2.2.2.2.2.2.2.2) v1 (Laws_s_facts_stack v2 q4.2.2.2.2.1 q4.2.2.2.2.2) q5 h6) zMX3_harmOfAll_ok rfl rfl zK_BorrowedLives_Forecast_100 zV_X3_harmOfAll rfl [5, 8, 6, 3, 8, 8] [5, 1, 2] [30, 31, 32, 33, 34, 35, 36, 37, 5, 6, 7, 8, 9, 10, 11, 12, 13, 14, 15, 16, 17, 18] rfl rfl rfl (by decide) (by decide) (by omega) (by decide) (Nat.zero_le _) (Nat.zero_le _) rfl rfl rfl rfl rfl ?_
      rintro v cc ⟨rfl, rfl⟩
      refine ⟨_, rfl, rfl, ?_⟩
      show AW Z 0 0 59 [some (.ref 0), some (.int y1), some (.long x2), none, some (.int x4)] [.int q5, .long x2] ([kForecast 0 5 19 22 30 v0, kTown 5 13 v1, kLaws 13 (Laws_s_facts_stack v2 q4.2.2.2.2.1 q4.2.2.2.2.2), kLots 19 v3, kLives 22 5 v4, kLives 30 5 (Lives_s_purse_debt_home_hidden_self_worthThen_homeThen_away_days_homes_harm v5 q4.1 q4.2.1 q4.2.2.1 q2.2.2.2.1 q3.1 q3.2.1 q3.2.2.1 q3.2.2.2.1 q4.2.2.2.1 q2.2.2.2.2.2.2.2.2.2.1 q2.2.2.2.2.2.2.2.2.2.2)] : List (List zE)).flatten
      refine AW.run hZ hRm [5] 400 ?_
      show AW Z 0 0 5 [some (.ref 0), some (.int y1), some (.long (x2 + (Int32.toInt64 q5))), none, some (.int (x4 + 1))] [] ([kForecast 0 5 19 22 30 v0, kTown 5 13 v1, kLaws 13 (Laws_s_facts_stack v2 q4.2.2.2.2.1 q4.2.2.2.2.2), kLots 19 v3, kLives 22 5 v4, kLives 30 5 (Lives_s_purse_debt_home_hidden_self_worthThen_homeThen_away_days_homes_harm v5 q4.1 q4.2.1 q4.2.2.1 q2.2.2.2.1 q3.1 q3.2.1 q3.2.2.1 q3.2.2.2.1 q4.2.2.2.1 q2.2.2.2.2.2.2.2.2.2.1 q2.2.2.2.2.2.2.2.2.2.2)] : List (List zE)).flatten
      exact ih v0 v1 v2 v3 v4 v5 y1 (x2 + (Int32.toInt64 q5)) (x4 + 1) q4.2.2.2.2.1 q4.2.2.2.2.2 q4.1 q4.2.1 q4.2.2.1 q2.2.2.2.1 q3.1 q3.2.1 q3.2.2.1 q3.2.2.2.1 q4.2.2.2.1 q2.2.2.2.2.2.2.2.2.2.1 q2.2.2.2.2.2.2.2.2.2.2 q hf hk0
set_option maxRecDepth 20000 in
set_option maxHeartbeats 4000000 in
theorem c_Forecast_harmBySign (N : Nat) (v0 : VForecast) (v1 : VTown) (v2 : VLaws) (v3 : VLots) (v4 : VLives) (v5 : VLives) (a1 : Int32) (R : Int64 × (Nat → Int32) × (Nat → Int32) × (Nat → Int32) × (Nat → Int32) × (Nat → Int32) × (Nat → Int32) × (Nat → Int32) × (Nat → Int32) × (Nat → Int32) × Int32 × Int32 × Int32 × Int32) (hf : f_Forecast_harmBySign N v0 v1 v2 v3 v4 v5 a1 = some R) : Ct zMX1_harmBySign 5 0 0 0 [.ref 0, .int a1] ([kForecast 0 5 19 22 30 v0, kTown 5 13 v1, kLaws 13 v2, kLots 19 v3, kLives 22 5 v4, kLives 30 5 v5] : List (List zE)).flatten (fun v cc => v = some (.long R.1) ∧ cc = ([kForecast 0 5 19 22 30 v0, kTown 5 13 v1, kLaws 13 (Laws_s_facts_stack v2 R.2.1 R.2.2.1), kLots 19 v3, kLives 22 5 v4, kLives 30 5 (Lives_s_purse_debt_home_hidden_self_worthThen_homeThen_away_days_homes_harm v5 R.2.2.2.1 R.2.2.2.2.1 R.2.2.2.2.2.1 R.2.2.2.2.2.2.1 R.2.2.2.2.2.2.2.1 R.2.2.2.2.2.2.2.2.1 R.2.2.2.2.2.2.2.2.2.1 R.2.2.2.2.2.2.2.2.2.2.1 R.2.2.2.2.2.2.2.2.2.2.2.1 R.2.2.2.2.2.2.2.2.2.2.2.2.1 R.2.2.2.2.2.2.2.2.2.2.2.2.2)] : List (List zE)).flatten) := by
  refine Ct.of zMX1_harmBySign_ok (by decide) (Nat.le_of_ble_eq_true rfl) ?_
  intro Z hZ hR hN hE
  have hRm : zRoom Z 0 0 := zRoom0 Z
  unfold f_Forecast_harmBySign at hf
  show AW Z 0 0 0 [some (.ref 0), some (.int a1), none, none, none] [] ([kForecast 0 5 19 22 30 v0, kTown 5 13 v1, kLaws 13 v2, kLots 19 v3, kLives 22 5 v4, kLives 30 5 v5] : List (List zE)).flatten
  refine AW.run hZ hRm [5] 400 ?_
  show AW Z 0 0 5 [some (.ref 0), some (.int a1), some (.long 0), none, some (.int 0)] [] ([kForecast 0 5 19 22 30 v0, kTown 5 13 v1, kLaws 13 v2, kLots 19 v3, kLives 22 5 v4, kLives 30 5 v5] : List (List zE)).flatten
  obtain ⟨q10, h11, hf⟩ := zbind hf
  refine c_Forecast_harmBySign_L5 hZ hR (by omega) hN hRm N N v0 v1 v2 v3 v4 v5 a1 0 0 (Laws_facts v2) (Laws_stack v2) (Lives_purse v5) (Lives_debt v5) (Lives_home v5) (Lives_hidden v5) (Lives_self v5) (Lives_worthThen v5) (Lives_homeThen v5) (Lives_away v5) (Lives_days v5) (Lives_homes v5) (Lives_harm v5) q10 h11 ?_
  show AW Z 0 0 68 [none, none, some (.long q10.1), none, none] [] ([kForecast 0 5 19 22 30 v0, kTown 5 13 v1, kLaws 13 (Laws_s_facts_stack v2 q10.2.1 q10.2.2.1), kLots 19 v3, kLives 22 5 v4, kLives 30 5 (Lives_s_purse_debt_home_hidden_self_worthThen_homeThen_away_days_homes_harm v5 q10.2.2.2.1 q10.2.2.2.2.1 q10.2.2.2.2.2.1 q10.2.2.2.2.2.2.1 q10.2.2.2.2.2.2.2.1 q10.2.2.2.2.2.2.2.2.1 q10.2.2.2.2.2.2.2.2.2.1 q10.2.2.2.2.2.2.2.2.2.2.1 q10.2.2.2.2.2.2.2.2.2.2.2.1 q10.2.2.2.2.2.2.2.2.2.2.2.2.1 q10.2.2.2.2.2.2.2.2.2.2.2.2.2)] : List (List zE)).flatten
  refine AW.run hZ hRm [69] 400 ?_
  show AW Z 0 0 69 [none, none, some (.long q10.1), none, none] [.long q10.1] ([kForecast 0 5 19 22 30 v0, kTown 5 13 v1, kLaws 13 (Laws_s_facts_stack v2 q10.2.1 q10.2.2.1), kLots 19 v3, kLives 22 5 v4, kLives 30 5 (Lives_s_purse_debt_home_hidden_self_worthThen_homeThen_away_days_homes_harm v5 q10.2.2.2.1 q10.2.2.2.2.1 q10.2.2.2.2.2.1 q10.2.2.2.2.2.2.1 q10.2.2.2.2.2.2.2.1 q10.2.2.2.2.2.2.2.2.1 q10.2.2.2.2.2.2.2.2.2.1 q10.2.2.2.2.2.2.2.2.2.2.1 q10.2.2.2.2.2.2.2.2.2.2.2.1 q10.2.2.2.2.2.2.2.2.2.2.2.2.1 q10.2.2.2.2.2.2.2.2.2.2.2.2.2)] : List (List zE)).flatten
  cases hf
  exact AW.lret hZ hE rfl rfl rfl (Nat.le_refl 0) (Nat.le_refl 0) rfl ⟨rfl, rfl⟩
def f_Forecast_fits_L2 (N : Nat) : Nat → VForecast → VTown → VLaws → VLots → VLives → VLives → VTales → Int32 → Int32 → Option ((Unit) ⊕ (Unit))
  | 0, _, _, _, _, _, _, _, _, _ => none
  | fuel + 1, v0, v1, v2, v3, v4, v5, v6, y1, x3 => (if ((Tales_count v6) ≤ x3) then (some (Sum.inr ())) else (if (8 ≤ x3) then (some (Sum.inr ())) else (if (x3 < 0 ∨ 8 ≤ Int32.toNatClampNeg x3) then none else (if (x3 < 0 ∨ 8 ≤ Int32.toNatClampNeg x3) then none else ((f_Forecast_heldBy N v0 v1 v2 v3 v4 v5 y1 ((Tales_lives v6) (Int32.toNatClampNeg x3)) ((Tales_days v6) (Int32.toNatClampNeg x3))).bind (fun q3 => (if (x3 < 0 ∨ 8 ≤ Int32.toNatClampNeg x3) then none else (if (q3 = ((Tales_purses v6) (Int32.toNatClampNeg x3))) then (f_Forecast_fits_L2 N fuel v0 v1 v2 v3 v4 v5 v6 y1 (x3 + 1)) else (some (Sum.inl ()))))))))))
def f_Forecast_fits (N : Nat) (v0 : VForecast) (v1 : VTown) (v2 : VLaws) (v3 : VLots) (v4 : VLives) (v5 : VLives) (v6 : VTales) (a1 : Int32) : Option (Int32) := ((f_Forecast_fits_L2 N N v0 v1 v2 v3 v4 v5 v6 a1 0).bind (Sum.elim (fun w11 => (some 0)) (fun w12 => (some 1))))
set_option maxRecDepth 20000 in
set_option maxHeartbeats 4000000 in
theorem c_Forecast_fits_L2 {Z : zCtx} {D n0w nf mcw msw : Nat} (hZ : zOk Z zMX1_fits) (hR : zCan Z D mcw msw) (hDd : 2 ≤ D) (hN : zNew Z n0w nf) (hRm : zRoom Z 0 0) (N : Nat) : ∀ (fuel : Nat) (v0 : VForecast) (v1 : VTown) (v2 : VLaws) (v3 : VLots) (v4 : VLives) (v5 : VLives) (v6 : VTales) (y1 : Int32) (x3 : Int32) (q : ((Unit) ⊕ (Unit))), f_Forecast_fits_L2 N fuel v0 v1 v2 v3 v4 v5 v6 y1 x3 = some q → (∀ w : Unit, q = (Sum.inl w) → AW Z 0 0 42 [none, none, none, none] [] ([kForecast 0 5 19 22 30 v0, kTown 5 13 v1, kLaws 13 v2, kLots 19 v3, kLives 22 5 v4, kLives 30 5 v5, kTales 38 v6] : List (List zE)).flatten) → (∀ w : Unit, q = (Sum.inr w) → AW Z 0 0 50 [none, none, none, none] [] ([kForecast 0 5 19 22 30 v0, kTown 5 13 v1, kLaws 13 v2, kLots 19 v3, kLives 22 5 v4, kLives 30 5 v5, kTales 38 v6] : List (List zE)).flatten) → AW Z 0 0 2 [some (.ref 0), some (.int y1), some (.ref 38), some (.int x3)] [] ([kForecast 0 5 19 22 30 v0, kTown 5 13 v1, kLaws 13 v2, kLots 19 v3, kLives 22 5 v4, kLives 30 5 v5, kTales 38 v6] : List (List zE)).flatten := by
  intro fuel
  induction fuel with
  | zero =>
    intro v0 v1 v2 v3 v4 v5 v6 y1 x3 q hf hk0 hk1
    simp [f_Forecast_fits_L2] at hf
  | succ fuel ih =>
    intro v0 v1 v2 v3 v4 v5 v6 y1 x3 q hf hk0 hk1
    rw [f_Forecast_fits_L2] at hf
    refine AW.run hZ hRm [30, 50] 400 ?_
    show ((((Tales_count v6) ≤ x3) → AW Z 0 0 50 [some (.ref 0), some (.int y1), some (.ref 38), some (.int x3)] [] ([kForecast 0 5 19 22 30 v0, kTown 5 13 v1, kLaws 13 v2, kLots 19 v3, kLives 22 5 v4, kLives 30 5 v5, kTales 38 v6] : List (List zE)).flatten) ∧ (¬ ((Tales_count v6) ≤ x3) → (((8 ≤ x3) → AW Z 0 0 50 [some (.ref 0), some (.int y1), some (.ref 38), some (.int x3)] [] ([kForecast 0 5 19 22 30 v0, kTown 5 13 v1, kLaws 13 v2, kLots 19 v3, kLives 22 5 v4, kLives 30 5 v5, kTales 38 v6] : List (List zE)).flatten) ∧ (¬ (8 ≤ x3) → (¬ (x3 < 0 ∨ 8 ≤ Int32.toNatClampNeg x3) ∧ (¬ (x3 < 0 ∨ 8 ≤ Int32.toNatClampNeg x3) ∧ AW Z 0 0 30 [some (.ref 0), some (.int y1), some (.ref 38), some (.int x3)] [.int ((Tales_days v6) (Int32.toNatClampNeg x3)), .int ((Tales_lives v6) (Int32.toNatClampNeg x3)), .int y1, .ref 0] ([kForecast 0 5 19 22 30 v0, kTown 5 13 v1, kLaws 13 v2, kLots 19 v3, kLives 22 5 v4, kLives 30 5 v5, kTales 38 v6] : List (List zE)).flatten))))))
    refine ⟨fun c1 => ?_, fun c1 => ?_⟩
    · rw [if_pos c1] at hf
      cases hf
      refine AW.forget [false, false, false, false] ?_
      show AW Z 0 0 50 [none, none, none, none] [] ([kForecast 0 5 19 22 30 v0, kTown 5 13 v1, kLaws 13 v2, kLots 19 v3, kLives 22 5 v4, kLives 30 5 v5, kTales 38 v6] : List (List zE)).flatten
      exact hk1 _ rfl
    · rw [if_neg c1] at hf
      refine ⟨fun c2 => ?_, fun c2 => ?_⟩
      · rw [if_pos c2] at hf
        cases hf
        refine AW.forget [false, false, false, false] ?_
        show AW Z 0 0 50 [none, none, none, none] [] ([kForecast 0 5 19 22 30 v0, kTown 5 13 v1, kLaws 13 v2, kLots 19 v3, kLives 22 5 v4, kLives 30 5 v5, kTales 38 v6] : List (List zE)).flatten
        exact hk1 _ rfl
      · rw [if_neg c2] at hf
        obtain ⟨b8, hf⟩ := zneed hf
        refine ⟨b8, ?_⟩
        obtain ⟨b7, hf⟩ := zneed hf
        refine ⟨b7, ?_⟩
        obtain ⟨q3, h6, hf⟩ := zbind hf
        refine AW.callVc hZ hR hN (c_Forecast_heldBy N v0 v1 v2 v3 v4 v5 y1 ((Tales_lives v6) (Int32.toNatClampNeg x3)) ((Tales_days v6) (Int32.toNatClampNeg x3)) q3 h6) zMX1_heldBy_ok rfl rfl zK_BorrowedLives_Forecast_140 zV_X1_heldBy rfl [5, 8, 6, 3, 8, 8, 4] [0, 1, 2, 3, 4, 5] [0, 1, 2, 3, 4, 5, 6, 7, 8, 9, 10, 11, 12, 13, 14, 15, 16, 17, 18, 19, 20, 21, 22, 23, 24, 25, 26, 27, 28, 29, 30, 31, 32, 33, 34, 35, 36, 37] rfl rfl rfl (by decide) (by decide) (by omega) (by decide) (Nat.zero_le _) (Nat.zero_le _) rfl rfl rfl rfl rfl ?_
        rintro v cc ⟨rfl, rfl⟩
        refine ⟨_, rfl, rfl, ?_⟩
        show AW Z 0 0 33 [some (.ref 0), some (.int y1), some (.ref 38), some (.int x3)] [.int q3] ([kForecast 0 5 19 22 30 v0, kTown 5 13 v1, kLaws 13 v2, kLots 19 v3, kLives 22 5 v4, kLives 30 5 v5, kTales 38 v6] : List (List zE)).flatten
        refine AW.run hZ hRm [2, 42] 400 ?_
        show (¬ (x3 < 0 ∨ 8 ≤ Int32.toNatClampNeg x3) ∧ (((q3 = ((Tales_purses v6) (Int32.toNatClampNeg x3))) → AW Z 0 0 2 [some (.ref 0), some (.int y1), some (.ref 38), some (.int (x3 + 1))] [] ([kForecast 0 5 19 22 30 v0, kTown 5 13 v1, kLaws 13 v2, kLots 19 v3, kLives 22 5 v4, kLives 30 5 v5, kTales 38 v6] : List (List zE)).flatten) ∧ (¬ (q3 = ((Tales_purses v6) (Int32.toNatClampNeg x3))) → AW Z 0 0 42 [some (.ref 0), some (.int y1), some (.ref 38), some (.int x3)] [] ([kForecast 0 5 19 22 30 v0, kTown 5 13 v1, kLaws 13 v2, kLots 19 v3, kLives 22 5 v4, kLives 30 5 v5, kTales 38 v6] : List (List zE)).flatten)))
        obtain ⟨b5, hf⟩ := zneed hf
        refine ⟨b5, ?_⟩
        refine ⟨fun c4 => ?_, fun c4 => ?_⟩
        · rw [if_pos c4] at hf
          exact ih v0 v1 v2 v3 v4 v5 v6 y1 (x3 + 1) q hf hk0 hk1
        · rw [if_neg c4] at hf
          cases hf
          refine AW.forget [false, false, false, false] ?_
          show AW Z 0 0 42 [none, none, none, none] [] ([kForecast 0 5 19 22 30 v0, kTown 5 13 v1, kLaws 13 v2, kLots 19 v3, kLives 22 5 v4, kLives 30 5 v5, kTales 38 v6] : List (List zE)).flatten
          exact hk0 _ rfl
set_option maxRecDepth 20000 in
set_option maxHeartbeats 4000000 in
theorem c_Forecast_fits (N : Nat) (v0 : VForecast) (v1 : VTown) (v2 : VLaws) (v3 : VLots) (v4 : VLives) (v5 : VLives) (v6 : VTales) (a1 : Int32) (R : Int32) (hf : f_Forecast_fits N v0 v1 v2 v3 v4 v5 v6 a1 = some R) : Ct zMX1_fits 2 0 0 0 [.ref 0, .int a1, .ref 38] ([kForecast 0 5 19 22 30 v0, kTown 5 13 v1, kLaws 13 v2, kLots 19 v3, kLives 22 5 v4, kLives 30 5 v5, kTales 38 v6] : List (List zE)).flatten (fun v cc => v = some (.int R) ∧ cc = ([kForecast 0 5 19 22 30 v0, kTown 5 13 v1, kLaws 13 v2, kLots 19 v3, kLives 22 5 v4, kLives 30 5 v5, kTales 38 v6] : List (List zE)).flatten) := by
  refine Ct.of zMX1_fits_ok (by decide) (Nat.le_of_ble_eq_true rfl) ?_
  intro Z hZ hR hN hE
  have hRm : zRoom Z 0 0 := zRoom0 Z
  unfold f_Forecast_fits at hf
  show AW Z 0 0 0 [some (.ref 0), some (.int a1), some (.ref 38), none] [] ([kForecast 0 5 19 22 30 v0, kTown 5 13 v1, kLaws 13 v2, kLots 19 v3, kLives 22 5 v4, kLives 30 5 v5, kTales 38 v6] : List (List zE)).flatten
  refine AW.run hZ hRm [2] 400 ?_
  show AW Z 0 0 2 [some (.ref 0), some (.int a1), some (.ref 38), some (.int 0)] [] ([kForecast 0 5 19 22 30 v0, kTown 5 13 v1, kLaws 13 v2, kLots 19 v3, kLives 22 5 v4, kLives 30 5 v5, kTales 38 v6] : List (List zE)).flatten
  obtain ⟨q9, h10, hf⟩ := zbind hf
  refine c_Forecast_fits_L2 hZ hR (by omega) hN hRm N N v0 v1 v2 v3 v4 v5 v6 a1 0 q9 h10 ?_ ?_
  · intro w11 hq
    subst hq
    show AW Z 0 0 42 [none, none, none, none] [] ([kForecast 0 5 19 22 30 v0, kTown 5 13 v1, kLaws 13 v2, kLots 19 v3, kLives 22 5 v4, kLives 30 5 v5, kTales 38 v6] : List (List zE)).flatten
    replace hf : (some 0) = some R := hf
    refine AW.run hZ hRm [43] 400 ?_
    show AW Z 0 0 43 [none, none, none, none] [.int 0] ([kForecast 0 5 19 22 30 v0, kTown 5 13 v1, kLaws 13 v2, kLots 19 v3, kLives 22 5 v4, kLives 30 5 v5, kTales 38 v6] : List (List zE)).flatten
    cases hf
    exact AW.iret hZ hE rfl rfl rfl rfl (Nat.le_refl 0) (Nat.le_refl 0) rfl ⟨rfl, rfl⟩
  · intro w12 hq
    subst hq
    show AW Z 0 0 50 [none, none, none, none] [] ([kForecast 0 5 19 22 30 v0, kTown 5 13 v1, kLaws 13 v2, kLots 19 v3, kLives 22 5 v4, kLives 30 5 v5, kTales 38 v6] : List (List zE)).flatten
    replace hf : (some 1) = some R := hf
    refine AW.run hZ hRm [51] 400 ?_
    show AW Z 0 0 51 [none, none, none, none] [.int 1] ([kForecast 0 5 19 22 30 v0, kTown 5 13 v1, kLaws 13 v2, kLots 19 v3, kLives 22 5 v4, kLives 30 5 v5, kTales 38 v6] : List (List zE)).flatten
    cases hf
    exact AW.iret hZ hE rfl rfl rfl rfl (Nat.le_refl 0) (Nat.le_refl 0) rfl ⟨rfl, rfl⟩
def f_Forecast_countFitting_L8 (N : Nat) : Nat → VForecast → VTown → VLaws → VLots → VLives → VLives → VTales → Int32 → Int32 → (Nat → Int32) → Option (Int32 × (Nat → Int32))
  | 0, _, _, _, _, _, _, _, _, _, _ => none
  | fuel + 1, v0, v1, v2, v3, v4, v5, v6, x2, x3, m_fitting0 => (if ((Lots_count v3) ≤ x3) then (some (x2, m_fitting0)) else (if (265 ≤ x3) then (some (x2, m_fitting0)) else ((f_Forecast_fits N (Forecast_fitting_s v0 m_fitting0) v1 v2 v3 v4 v5 v6 x3).bind (fun q4 => (if (x3 < 0 ∨ 265 ≤ Int32.toNatClampNeg x3) then none else (if (x3 < 0 ∨ 265 ≤ Int32.toNatClampNeg x3) then none else (zlet ((upd m_fitting0 (Int32.toNatClampNeg x3) (vp_nar .boolean q4)) : (Nat → Int32)) (fun z7 => (zlet ((if ((z7 (Int32.toNatClampNeg x3)) = 0) then x2 else (x2 + 1)) : Int32) (fun z8 => (f_Forecast_countFitting_L8 N fuel v0 v1 v2 v3 v4 v5 v6 z8 (x3 + 1) z7)))))))))))
def f_Forecast_countFitting (N : Nat) (v0 : VForecast) (v1 : VTown) (v2 : VLaws) (v3 : VLots) (v4 : VLives) (v5 : VLives) (v6 : VTales) : Option (Int32 × Int32 × (Nat → Int32) × (Nat → Int32) × (Nat → Int32) × (Nat → Int32) × (Nat → Int32) × (Nat → Int32) × (Nat → Int32) × (Nat → Int32) × (Nat → Int32) × (Nat → Int32) × (Nat → Int32) × (Nat → Int32) × Int32 × Int32 × Int32 × Int32) := ((f_Forecast_foresee N v0 v1 v2 v3 v4 v5).bind (fun q1 => ((f_Forecast_countFitting_L8 N N (Forecast_s_ready_held_harms v0 q1.1 q1.2.1 q1.2.2.1) v1 (Laws_s_facts_stack v2 q1.2.2.2.1 q1.2.2.2.2.1) v3 v4 (Lives_s_purse_debt_home_hidden_self_worthThen_homeThen_away_days_homes_harm v5 q1.2.2.2.2.2.1 q1.2.2.2.2.2.2.1 q1.2.2.2.2.2.2.2.1 q1.2.2.2.2.2.2.2.2.1 q1.2.2.2.2.2.2.2.2.2.1 q1.2.2.2.2.2.2.2.2.2.2.1 q1.2.2.2.2.2.2.2.2.2.2.2.1 q1.2.2.2.2.2.2.2.2.2.2.2.2.1 q1.2.2.2.2.2.2.2.2.2.2.2.2.2.1 q1.2.2.2.2.2.2.2.2.2.2.2.2.2.2.1 q1.2.2.2.2.2.2.2.2.2.2.2.2.2.2.2) v6 0 0 (Forecast_fitting v0)).bind (fun q12 => (some (q12.1, q1.1, q1.2.1, q1.2.2.1, q12.2, q1.2.2.2.1, q1.2.2.2.2.1, q1.2.2.2.2.2.1, q1.2.2.2.2.2.2.1, q1.2.2.2.2.2.2.2.1, q1.2.2.2.2.2.2.2.2.1, q1.2.2.2.2.2.2.2.2.2.1, q1.2.2.2.2.2.2.2.2.2.2.1, q1.2.2.2.2.2.2.2.2.2.2.2.1, q1.2.2.2.2.2.2.2.2.2.2.2.2.1, q1.2.2.2.2.2.2.2.2.2.2.2.2.2.1, q1.2.2.2.2.2.2.2.2.2.2.2.2.2.2.1, q1.2.2.2.2.2.2.2.2.2.2.2.2.2.2.2))))))
set_option maxRecDepth 20000 in
set_option maxHeartbeats 4000000 in
theorem c_Forecast_countFitting_L8 {Z : zCtx} {D n0w nf mcw msw : Nat} (hZ : zOk Z zMX1_countFitting) (hR : zCan Z D mcw msw) (hDd : 6 ≤ D) (hN : zNew Z n0w nf) (hRm : zRoom Z 0 0) (N : Nat) : ∀ (fuel : Nat) (v0 : VForecast) (v1 : VTown) (v2 : VLaws) (v3 : VLots) (v4 : VLives) (v5 : VLives) (v6 : VTales) (x2 : Int32) (x3 : Int32) (m_fitting0 : (Nat → Int32)) (q : (Int32 × (Nat → Int32))), f_Forecast_countFitting_L8 N fuel v0 v1 v2 v3 v4 v5 v6 x2 x3 m_fitting0 = some q → (AW Z 0 0 56 [none, none, some (.int q.1), none] [] ([kForecast 0 5 19 22 30 (Forecast_fitting_s v0 q.2), kTown 5 13 v1, kLaws 13 v2, kLots 19 v3, kLives 22 5 v4, kLives 30 5 v5, kTales 38 v6] : List (List zE)).flatten) → AW Z 0 0 8 [some (.ref 0), some (.ref 38), some (.int x2), some (.int x3)] [] ([kForecast 0 5 19 22 30 (Forecast_fitting_s v0 m_fitting0), kTown 5 13 v1, kLaws 13 v2, kLots 19 v3, kLives 22 5 v4, kLives 30 5 v5, kTales 38 v6] : List (List zE)).flatten := by
  intro fuel
  induction fuel with
  | zero =>
    intro v0 v1 v2 v3 v4 v5 v6 x2 x3 m_fitting0 q hf hk0
    simp [f_Forecast_countFitting_L8] at hf
  | succ fuel ih =>
    intro v0 v1 v2 v3 v4 v5 v6 x2 x3 m_fitting0 q hf hk0
    rw [f_Forecast_countFitting_L8] at hf
    refine AW.run hZ hRm [34, 56] 400 ?_
    show ((((Lots_count v3) ≤ x3) → AW Z 0 0 56 [some (.ref 0), some (.ref 38), some (.int x2), some (.int x3)] [] ([kForecast 0 5 19 22 30 (Forecast_fitting_s v0 m_fitting0), kTown 5 13 v1, kLaws 13 v2, kLots 19 v3, kLives 22 5 v4, kLives 30 5 v5, kTales 38 v6] : List (List zE)).flatten) ∧ (¬ ((Lots_count v3) ≤ x3) → (((265 ≤ x3) → AW Z 0 0 56 [some (.ref 0), some (.ref 38), some (.int x2), some (.int x3)] [] ([kForecast 0 5 19 22 30 (Forecast_fitting_s v0 m_fitting0), kTown 5 13 v1, kLaws 13 v2, kLots 19 v3, kLives 22 5 v4, kLives 30 5 v5, kTales 38 v6] : List (List zE)).flatten) ∧ (¬ (265 ≤ x3) → AW Z 0 0 34 [some (.ref 0), some (.ref 38), some (.int x2), some (.int x3)] [.ref 38, .int x3, .ref 0, .int x3, .ref 3] ([kForecast 0 5 19 22 30 (Forecast_fitting_s v0 m_fitting0), kTown 5 13 v1, kLaws 13 v2, kLots 19 v3, kLives 22 5 v4, kLives 30 5 v5, kTales 38 v6] : List (List zE)).flatten))))
    refine ⟨fun c2 => ?_, fun c2 => ?_⟩
    · rw [if_pos c2] at hf
      cases hf
      refine AW.forget [false, false, true, false] ?_
      show AW Z 0 0 56 [none, none, some (.int x2), none] [] ([kForecast 0 5 19 22 30 (Forecast_fitting_s v0 m_fitting0), kTown 5 13 v1, kLaws 13 v2, kLots 19 v3, kLives 22 5 v4, kLives 30 5 v5, kTales 38 v6] : List (List zE)).flatten
      exact hk0
    · rw [if_neg c2] at hf
      refine ⟨fun c3 => ?_, fun c3 => ?_⟩
      · rw [if_pos c3] at hf
        cases hf
        refine AW.forget [false, false, true, false] ?_
        show AW Z 0 0 56 [none, none, some (.int x2), none] [] ([kForecast 0 5 19 22 30 (Forecast_fitting_s v0 m_fitting0), kTown 5 13 v1, kLaws 13 v2, kLots 19 v3, kLives 22 5 v4, kLives 30 5 v5, kTales 38 v6] : List (List zE)).flatten
        exact hk0
      · rw [if_neg c3] at hf
        obtain ⟨q4, h11, hf⟩ := zbind hf
        refine AW.callVc hZ hR hN (c_Forecast_fits N (Forecast_fitting_s v0 m_fitting0) v1 v2 v3 v4 v5 v6 x3 q4 h11) zMX1_fits_ok rfl rfl zK_BorrowedLives_Forecast_127 zV_X1_fits rfl [5, 8, 6, 3, 8, 8, 4] [0, 1, 2, 3, 4, 5, 6] [0, 1, 2, 3, 4, 5, 6, 7, 8, 9, 10, 11, 12, 13, 14, 15, 16, 17, 18, 19, 20, 21, 22, 23, 24, 25, 26, 27, 28, 29, 30, 31, 32, 33, 34, 35, 36, 37, 38, 39, 40, 41] rfl rfl rfl (by decide) (by decide) (by omega) (by decide) (Nat.zero_le _) (Nat.zero_le _) rfl rfl rfl rfl rfl ?_
        rintro v cc ⟨rfl, rfl⟩
        refine ⟨_, rfl, rfl, ?_⟩
        show AW Z 0 0 37 [some (.ref 0), some (.ref 38), some (.int x2), some (.int x3)] [.int q4, .int x3, .ref 3] ([kForecast 0 5 19 22 30 (Forecast_fitting_s v0 m_fitting0), kTown 5 13 v1, kLaws 13 v2, kLots 19 v3, kLives 22 5 v4, kLives 30 5 v5, kTales 38 v6] : List (List zE)).flatten
        refine AW.run hZ hRm [44] 400 ?_
        show (¬ (x3 < 0 ∨ 265 ≤ Int32.toNatClampNeg x3) ∧ (¬ (x3 < 0 ∨ 265 ≤ Int32.toNatClampNeg x3) ∧ AW Z 0 0 44 [some (.ref 0), some (.ref 38), some (.int x2), some (.int x3)] [.int ((upd m_fitting0 (Int32.toNatClampNeg x3) (vp_nar .boolean q4)) (Int32.toNatClampNeg x3))] ([kForecast 0 5 19 22 30 (Forecast_fitting_s v0 (upd m_fitting0 (Int32.toNatClampNeg x3) (vp_nar .boolean q4))), kTown 5 13 v1, kLaws 13 v2, kLots 19 v3, kLives 22 5 v4, kLives 30 5 v5, kTales 38 v6] : List (List zE)).flatten))
        obtain ⟨b10, hf⟩ := zneed hf
        refine ⟨b10, ?_⟩
        obtain ⟨b9, hf⟩ := zneed hf
        refine ⟨b9, ?_⟩
        suffices H5 : AW Z 0 0 50 [some (.ref 0), some (.ref 38), some (.int (if (((upd m_fitting0 (Int32.toNatClampNeg x3) (vp_nar .boolean q4)) (Int32.toNatClampNeg x3)) = 0) then x2 else (x2 + 1))), some (.int x3)] [] ([kForecast 0 5 19 22 30 (Forecast_fitting_s v0 (upd m_fitting0 (Int32.toNatClampNeg x3) (vp_nar .boolean q4))), kTown 5 13 v1, kLaws 13 v2, kLots 19 v3, kLives 22 5 v4, kLives 30 5 v5, kTales 38 v6] : List (List zE)).flatten from by
          refine AW.run hZ hRm [50] 400 ?_
          show (((((upd m_fitting0 (Int32.toNatClampNeg x3) (vp_nar .boolean q4)) (Int32.toNatClampNeg x3)) = 0) → AW Z 0 0 50 [some (.ref 0), some (.ref 38), some (.int x2), some (.int x3)] [] ([kForecast 0 5 19 22 30 (Forecast_fitting_s v0 (upd m_fitting0 (Int32.toNatClampNeg x3) (vp_nar .boolean q4))), kTown 5 13 v1, kLaws 13 v2, kLots 19 v3, kLives 22 5 v4, kLives 30 5 v5, kTales 38 v6] : List (List zE)).flatten) ∧ (¬ (((upd m_fitting0 (Int32.toNatClampNeg x3) (vp_nar .boolean q4)) (Int32.toNatClampNeg x3)) = 0) → AW Z 0 0 50 [some (.ref 0), some (.ref 38), some (.int (x2 + 1)), some (.int x3)] [] ([kForecast 0 5 19 22 30 (Forecast_fitting_s v0 (upd m_fitting0 (Int32.toNatClampNeg x3) (vp_nar .boolean q4))), kTown 5 13 v1, kLaws 13 v2, kLots 19 v3, kLives 22 5 v4, kLives 30 5 v5, kTales 38 v6] : List (List zE)).flatten))
          refine ⟨fun c6 => ?_, fun c6 => ?_⟩
          · simpa only [if_pos c6] using H5
          · simpa only [if_neg c6] using H5
        replace hf := zlet_gen hf
        generalize ((upd m_fitting0 (Int32.toNatClampNeg x3) (vp_nar .boolean q4)) : (Nat → Int32)) = z7 at hf ⊢
        replace hf := zlet_gen hf
        generalize ((if ((z7 (Int32.toNatClampNeg x3)) = 0) then x2 else (x2 + 1)) : Int32) = z8 at hf ⊢
        refine AW.run hZ hRm [8] 400 ?_
        show AW Z 0 0 8 [some (.ref 0), some (.ref 38), some (.int z8), some (.int (x3 + 1))] [] ([kForecast 0 5 19 22 30 (Forecast_fitting_s v0 z7), kTown 5 13 v1, kLaws 13 v2, kLots 19 v3, kLives 22 5 v4, kLives 30 5 v5, kTales 38 v6] : List (List zE)).flatten
        exact ih v0 v1 v2 v3 v4 v5 v6 z8 (x3 + 1) z7 q hf hk0
set_option maxRecDepth 20000 in
set_option maxHeartbeats 4000000 in
theorem c_Forecast_countFitting (N : Nat) (v0 : VForecast) (v1 : VTown) (v2 : VLaws) (v3 : VLots) (v4 : VLives) (v5 : VLives) (v6 : VTales) (R : Int32 × Int32 × (Nat → Int32) × (Nat → Int32) × (Nat → Int32) × (Nat → Int32) × (Nat → Int32) × (Nat → Int32) × (Nat → Int32) × (Nat → Int32) × (Nat → Int32) × (Nat → Int32) × (Nat → Int32) × (Nat → Int32) × Int32 × Int32 × Int32 × Int32) (hf : f_Forecast_countFitting N v0 v1 v2 v3 v4 v5 v6 = some R) : Ct zMX1_countFitting 6 0 0 0 [.ref 0, .ref 38] ([kForecast 0 5 19 22 30 v0, kTown 5 13 v1, kLaws 13 v2, kLots 19 v3, kLives 22 5 v4, kLives 30 5 v5, kTales 38 v6] : List (List zE)).flatten (fun v cc => v = some (.int R.1) ∧ cc = ([kForecast 0 5 19 22 30 (Forecast_s_ready_held_harms_fitting v0 R.2.1 R.2.2.1 R.2.2.2.1 R.2.2.2.2.1), kTown 5 13 v1, kLaws 13 (Laws_s_facts_stack v2 R.2.2.2.2.2.1 R.2.2.2.2.2.2.1), kLots 19 v3, kLives 22 5 v4, kLives 30 5 (Lives_s_purse_debt_home_hidden_self_worthThen_homeThen_away_days_homes_harm v5 R.2.2.2.2.2.2.2.1 R.2.2.2.2.2.2.2.2.1 R.2.2.2.2.2.2.2.2.2.1 R.2.2.2.2.2.2.2.2.2.2.1 R.2.2.2.2.2.2.2.2.2.2.2.1 R.2.2.2.2.2.2.2.2.2.2.2.2.1 R.2.2.2.2.2.2.2.2.2.2.2.2.2.1 R.2.2.2.2.2.2.2.2.2.2.2.2.2.2.1 R.2.2.2.2.2.2.2.2.2.2.2.2.2.2.2.1 R.2.2.2.2.2.2.2.2.2.2.2.2.2.2.2.2.1 R.2.2.2.2.2.2.2.2.2.2.2.2.2.2.2.2.2), kTales 38 v6] : List (List zE)).flatten) := by
  refine Ct.of zMX1_countFitting_ok (by decide) (Nat.le_of_ble_eq_true rfl) ?_
  intro Z hZ hR hN hE
  have hRm : zRoom Z 0 0 := zRoom0 Z
  unfold f_Forecast_countFitting at hf
  show AW Z 0 0 0 [some (.ref 0), some (.ref 38), none, none] [] ([kForecast 0 5 19 22 30 v0, kTown 5 13 v1, kLaws 13 v2, kLots 19 v3, kLives 22 5 v4, kLives 30 5 v5, kTales 38 v6] : List (List zE)).flatten
  refine AW.run hZ hRm [1] 400 ?_
  show AW Z 0 0 1 [some (.ref 0), some (.ref 38), none, none] [.ref 0] ([kForecast 0 5 19 22 30 v0, kTown 5 13 v1, kLaws 13 v2, kLots 19 v3, kLives 22 5 v4, kLives 30 5 v5, kTales 38 v6] : List (List zE)).flatten
  obtain ⟨q1, h14, hf⟩ := zbind hf
  refine AW.callVc hZ hR hN (c_Forecast_foresee N v0 v1 v2 v3 v4 v5 q1 h14) zMX1_foresee_ok rfl rfl zK_BorrowedLives_Forecast_104 zV_X1_foresee rfl [5, 8, 6, 3, 8, 8, 4] [0, 1, 2, 3, 4, 5] [0, 1, 2, 3, 4, 5, 6, 7, 8, 9, 10, 11, 12, 13, 14, 15, 16, 17, 18, 19, 20, 21, 22, 23, 24, 25, 26, 27, 28, 29, 30, 31, 32, 33, 34, 35, 36, 37] rfl rfl rfl (by decide) (by decide) (by omega) (by decide) (Nat.zero_le _) (Nat.zero_le _) rfl rfl rfl rfl rfl ?_
  rintro v cc ⟨rfl, rfl⟩
  refine ⟨_, rfl, rfl, ?_⟩
  show AW Z 0 0 4 [some (.ref 0), some (.ref 38), none, none] [] ([kForecast 0 5 19 22 30 (Forecast_s_ready_held_harms v0 q1.1 q1.2.1 q1.2.2.1), kTown 5 13 v1, kLaws 13 (Laws_s_facts_stack v2 q1.2.2.2.1 q1.2.2.2.2.1), kLots 19 v3, kLives 22 5 v4, kLives 30 5 (Lives_s_purse_debt_home_hidden_self_worthThen_homeThen_away_days_homes_harm v5 q1.2.2.2.2.2.1 q1.2.2.2.2.2.2.1 q1.2.2.2.2.2.2.2.1 q1.2.2.2.2.2.2.2.2.1 q1.2.2.2.2.2.2.2.2.2.1 q1.2.2.2.2.2.2.2.2.2.2.1 q1.2.2.2.2.2.2.2.2.2.2.2.1 q1.2.2.2.2.2.2.2.2.2.2.2.2.1 q1.2.2.2.2.2.2.2.2.2.2.2.2.2.1 q1.2.2.2.2.2.2.2.2.2.2.2.2.2.2.1 q1.2.2.2.2.2.2.2.2.2.2.2.2.2.2.2), kTales 38 v6] : List (List zE)).flatten
  refine AW.run hZ hRm [8] 400 ?_
  show AW Z 0 0 8 [some (.ref 0), some (.ref 38), some (.int 0), some (.int 0)] [] ([kForecast 0 5 19 22 30 (Forecast_s_ready_held_harms v0 q1.1 q1.2.1 q1.2.2.1), kTown 5 13 v1, kLaws 13 (Laws_s_facts_stack v2 q1.2.2.2.1 q1.2.2.2.2.1), kLots 19 v3, kLives 22 5 v4, kLives 30 5 (Lives_s_purse_debt_home_hidden_self_worthThen_homeThen_away_days_homes_harm v5 q1.2.2.2.2.2.1 q1.2.2.2.2.2.2.1 q1.2.2.2.2.2.2.2.1 q1.2.2.2.2.2.2.2.2.1 q1.2.2.2.2.2.2.2.2.2.1 q1.2.2.2.2.2.2.2.2.2.2.1 q1.2.2.2.2.2.2.2.2.2.2.2.1 q1.2.2.2.2.2.2.2.2.2.2.2.2.1 q1.2.2.2.2.2.2.2.2.2.2.2.2.2.1 q1.2.2.2.2.2.2.2.2.2.2.2.2.2.2.1 q1.2.2.2.2.2.2.2.2.2.2.2.2.2.2.2), kTales 38 v6] : List (List zE)).flatten
  obtain ⟨q12, h13, hf⟩ := zbind hf
  refine c_Forecast_countFitting_L8 hZ hR (by omega) hN hRm N N (Forecast_s_ready_held_harms v0 q1.1 q1.2.1 q1.2.2.1) v1 (Laws_s_facts_stack v2 q1.2.2.2.1 q1.2.2.2.2.1) v3 v4 (Lives_s_purse_debt_home_hidden_self_worthThen_homeThen_away_days_homes_harm v5 q1.2.2.2.2.2.1 q1.2.2.2.2.2.2.1 q1.2.2.2.2.2.2.2.1 q1.2.2.2.2.2.2.2.2.1 q1.2.2.2.2.2.2.2.2.2.1 q1.2.2.2.2.2.2.2.2.2.2.1 q1.2.2.2.2.2.2.2.2.2.2.2.1 q1.2.2.2.2.2.2.2.2.2.2.2.2.1 q1.2.2.2.2.2.2.2.2.2.2.2.2.2.1 q1.2.2.2.2.2.2.2.2.2.2.2.2.2.2.1 q1.2.2.2.2.2.2.2.2.2.2.2.2.2.2.2) v6 0 0 (Forecast_fitting v0) q12 h13 ?_
  show AW Z 0 0 56 [none, none, some (.int q12.1), none] [] ([kForecast 0 5 19 22 30 (Forecast_s_ready_held_harms_fitting v0 q1.1 q1.2.1 q1.2.2.1 q12.2), kTown 5 13 v1, kLaws 13 (Laws_s_facts_stack v2 q1.2.2.2.1 q1.2.2.2.2.1), kLots 19 v3, kLives 22 5 v4, kLives 30 5 (Lives_s_purse_debt_home_hidden_self_worthThen_homeThen_away_days_homes_harm v5 q1.2.2.2.2.2.1 q1.2.2.2.2.2.2.1 q1.2.2.2.2.2.2.2.1 q1.2.2.2.2.2.2.2.2.1 q1.2.2.2.2.2.2.2.2.2.1 q1.2.2.2.2.2.2.2.2.2.2.1 q1.2.2.2.2.2.2.2.2.2.2.2.1 q1.2.2.2.2.2.2.2.2.2.2.2.2.1 q1.2.2.2.2.2.2.2.2.2.2.2.2.2.1 q1.2.2.2.2.2.2.2.2.2.2.2.2.2.2.1 q1.2.2.2.2.2.2.2.2.2.2.2.2.2.2.2), kTales 38 v6] : List (List zE)).flatten
  refine AW.run hZ hRm [57] 400 ?_
  show AW Z 0 0 57 [none, none, some (.int q12.1), none] [.int q12.1] ([kForecast 0 5 19 22 30 (Forecast_s_ready_held_harms_fitting v0 q1.1 q1.2.1 q1.2.2.1 q12.2), kTown 5 13 v1, kLaws 13 (Laws_s_facts_stack v2 q1.2.2.2.1 q1.2.2.2.2.1), kLots 19 v3, kLives 22 5 v4, kLives 30 5 (Lives_s_purse_debt_home_hidden_self_worthThen_homeThen_away_days_homes_harm v5 q1.2.2.2.2.2.1 q1.2.2.2.2.2.2.1 q1.2.2.2.2.2.2.2.1 q1.2.2.2.2.2.2.2.2.1 q1.2.2.2.2.2.2.2.2.2.1 q1.2.2.2.2.2.2.2.2.2.2.1 q1.2.2.2.2.2.2.2.2.2.2.2.1 q1.2.2.2.2.2.2.2.2.2.2.2.2.1 q1.2.2.2.2.2.2.2.2.2.2.2.2.2.1 q1.2.2.2.2.2.2.2.2.2.2.2.2.2.2.1 q1.2.2.2.2.2.2.2.2.2.2.2.2.2.2.2), kTales 38 v6] : List (List zE)).flatten
  cases hf
  exact AW.iret hZ hE rfl rfl rfl rfl (Nat.le_refl 0) (Nat.le_refl 0) rfl ⟨rfl, rfl⟩
def f_Forecast_onlySelf_L4 (N : Nat) : Nat → VForecast → VTown → VLaws → VLots → VLives → VLives → Int32 → Int32 → Int32 → Option ((Unit) ⊕ (Int32))
  | 0, _, _, _, _, _, _, _, _, _ => none
  | fuel + 1, v0, v1, v2, v3, v4, v5, y1, x2, x3 => (if ((Lots_count v3) ≤ x3) then (some (Sum.inr x2)) else (if (265 ≤ x3) then (some (Sum.inr x2)) else ((f_Lots_selfIn N v3 x3 y1).bind (fun q3 => (if (x3 < 0 ∨ 265 ≤ Int32.toNatClampNeg x3) then none else (if (((Forecast_fitting v0) (Int32.toNatClampNeg x3)) = 0) then (if (x3 < 0 ∨ 265 ≤ Int32.toNatClampNeg x3) then none else (zlet ((if (((Forecast_fitting v0) (Int32.toNatClampNeg x3)) = 0) then x2 else q3) : Int32) (fun z7 => (f_Forecast_onlySelf_L4 N fuel v0 v1 v2 v3 v4 v5 y1 z7 (x3 + 1))))) else (if (x2 = (-1)) then (if (x3 < 0 ∨ 265 ≤ Int32.toNatClampNeg x3) then none else (zlet ((if (((Forecast_fitting v0) (Int32.toNatClampNeg x3)) = 0) then x2 else q3) : Int32) (fun z12 => (f_Forecast_onlySelf_L4 N fuel v0 v1 v2 v3 v4 v5 y1 z12 (x3 + 1))))) else (if (q3 = x2) then (if (x3 < 0 ∨ 265 ≤ Int32.toNatClampNeg x3) then none else (zlet ((if (((Forecast_fitting v0) (Int32.toNatClampNeg x3)) = 0) then x2 else q3) : Int32) (fun z17 => (f_Forecast_onlySelf_L4 N fuel v0 v1 v2 v3 v4 v5 y1 z17 (x3 + 1))))) else (some (Sum.inl ()))))))))))
def f_Forecast_onlySelf (N : Nat) (v0 : VForecast) (v1 : VTown) (v2 : VLaws) (v3 : VLots) (v4 : VLives) (v5 : VLives) (a1 : Int32) : Option (Int32) := ((f_Forecast_onlySelf_L4 N N v0 v1 v2 v3 v4 v5 a1 (-1) 0).bind (Sum.elim (fun w23 => (some (-1))) (fun w24 => (some w24))))
set_option maxRecDepth 20000 in
set_option maxHeartbeats 4000000 in
theorem c_Forecast_onlySelf_L4 {Z : zCtx} {D n0w nf mcw msw : Nat} (hZ : zOk Z zMX1_onlySelf) (hR : zCan Z D mcw msw) (hDd : 2 ≤ D) (hN : zNew Z n0w nf) (hRm : zRoom Z 0 0) (N : Nat) : ∀ (fuel : Nat) (v0 : VForecast) (v1 : VTown) (v2 : VLaws) (v3 : VLots) (v4 : VLives) (v5 : VLives) (y1 : Int32) (x2 : Int32) (x3 : Int32) (q : ((Unit) ⊕ (Int32))), f_Forecast_onlySelf_L4 N fuel v0 v1 v2 v3 v4 v5 y1 x2 x3 = some q → (∀ w : Unit, q = (Sum.inl w) → AW Z 0 0 53 [none, none, none, none, none] [] ([kForecast 0 5 19 22 30 v0, kTown 5 13 v1, kLaws 13 v2, kLots 19 v3, kLives 22 5 v4, kLives 30 5 v5] : List (List zE)).flatten) → (∀ w : Int32, q = (Sum.inr w) → AW Z 0 0 73 [none, none, some (.int w), none, none] [] ([kForecast 0 5 19 22 30 v0, kTown 5 13 v1, kLaws 13 v2, kLots 19 v3, kLives 22 5 v4, kLives 30 5 v5] : List (List zE)).flatten) → AW Z 0 0 4 [some (.ref 0), some (.int y1), some (.int x2), some (.int x3), none] [] ([kForecast 0 5 19 22 30 v0, kTown 5 13 v1, kLaws 13 v2, kLots 19 v3, kLives 22 5 v4, kLives 30 5 v5] : List (List zE)).flatten := by
  intro fuel
  induction fuel with
  | zero =>
    intro v0 v1 v2 v3 v4 v5 y1 x2 x3 q hf hk0 hk1
    simp [f_Forecast_onlySelf_L4] at hf
  | succ fuel ih =>
    intro v0 v1 v2 v3 v4 v5 y1 x2 x3 q hf hk0 hk1
    rw [f_Forecast_onlySelf_L4] at hf
    refine AW.run hZ hRm [28, 73] 400 ?_
    show ((((Lots_count v3) ≤ x3) → AW Z 0 0 73 [some (.ref 0), some (.int y1), some (.int x2), some (.int x3), none] [] ([kForecast 0 5 19 22 30 v0, kTown 5 13 v1, kLaws 13 v2, kLots 19 v3, kLives 22 5 v4, kLives 30 5 v5] : List (List zE)).flatten) ∧ (¬ ((Lots_count v3) ≤ x3) → (((265 ≤ x3) → AW Z 0 0 73 [some (.ref 0), some (.int y1), some (.int x2), some (.int x3), none] [] ([kForecast 0 5 19 22 30 v0, kTown 5 13 v1, kLaws 13 v2, kLots 19 v3, kLives 22 5 v4, kLives 30 5 v5] : List (List zE)).flatten) ∧ (¬ (265 ≤ x3) → AW Z 0 0 28 [some (.ref 0), some (.int y1), some (.int x2), some (.int x3), none] [.int y1, .int x3, .ref 19] ([kForecast 0 5 19 22 30 v0, kTown 5 13 v1, kLaws 13 v2, kLots 19 v3, kLives 22 5 v4, kLives 30 5 v5] : List (List zE)).flatten))))
    refine ⟨fun c1 => ?_, fun c1 => ?_⟩
    · rw [if_pos c1] at hf
      cases hf
      refine AW.forget [false, false, true, false, false] ?_
      show AW Z 0 0 73 [none, none, some (.int x2), none, none] [] ([kForecast 0 5 19 22 30 v0, kTown 5 13 v1, kLaws 13 v2, kLots 19 v3, kLives 22 5 v4, kLives 30 5 v5] : List (List zE)).flatten
      exact hk1 _ rfl
    · rw [if_neg c1] at hf
      refine ⟨fun c2 => ?_, fun c2 => ?_⟩
      · rw [if_pos c2] at hf
        cases hf
        refine AW.forget [false, false, true, false, false] ?_
        show AW Z 0 0 73 [none, none, some (.int x2), none, none] [] ([kForecast 0 5 19 22 30 v0, kTown 5 13 v1, kLaws 13 v2, kLots 19 v3, kLives 22 5 v4, kLives 30 5 v5] : List (List zE)).flatten
        exact hk1 _ rfl
      · rw [if_neg c2] at hf
        obtain ⟨q3, h20, hf⟩ := zbind hf
        refine AW.callVc hZ hR hN (c_Lots_selfIn N v3 x3 y1 q3 h20) zMX4_selfIn_ok rfl rfl zK_BorrowedLives_Forecast_147 zV_X4_selfIn rfl [5, 8, 6, 3, 8, 8] [3] [19, 20, 21] rfl rfl rfl (by decide) (by decide) (by omega) (by decide) (Nat.zero_le _) (Nat.zero_le _) rfl rfl rfl rfl rfl ?_
        rintro v cc ⟨rfl, rfl⟩
        refine ⟨_, rfl, rfl, ?_⟩
        show AW Z 0 0 31 [some (.ref 0), some (.int y1), some (.int x2), some (.int x3), none] [.int q3] ([kForecast 0 5 19 22 30 v0, kTown 5 13 v1, kLaws 13 v2, kLots 19 v3, kLives 22 5 v4, kLives 30 5 v5] : List (List zE)).flatten
        refine AW.run hZ hRm [53, 61] 400 ?_
        show (¬ (x3 < 0 ∨ 265 ≤ Int32.toNatClampNeg x3) ∧ (((((Forecast_fitting v0) (Int32.toNatClampNeg x3)) = 0) → (¬ (x3 < 0 ∨ 265 ≤ Int32.toNatClampNeg x3) ∧ AW Z 0 0 61 [some (.ref 0), some (.int y1), some (.int x2), some (.int x3), some (.int q3)] [.int ((Forecast_fitting v0) (Int32.toNatClampNeg x3))] ([kForecast 0 5 19 22 30 v0, kTown 5 13 v1, kLaws 13 v2, kLots 19 v3, kLives 22 5 v4, kLives 30 5 v5] : List (List zE)).flatten)) ∧ (¬ (((Forecast_fitting v0) (Int32.toNatClampNeg x3)) = 0) → (((x2 = (-1)) → (¬ (x3 < 0 ∨ 265 ≤ Int32.toNatClampNeg x3) ∧ AW Z 0 0 61 [some (.ref 0), some (.int y1), some (.int x2), some (.int x3), some (.int q3)] [.int ((Forecast_fitting v0) (Int32.toNatClampNeg x3))] ([kForecast 0 5 19 22 30 v0, kTown 5 13 v1, kLaws 13 v2, kLots 19 v3, kLives 22 5 v4, kLives 30 5 v5] : List (List zE)).flatten)) ∧ (¬ (x2 = (-1)) → (((q3 = x2) → (¬ (x3 < 0 ∨ 265 ≤ Int32.toNatClampNeg x3) ∧ AW Z 0 0 61 [some (.ref 0), some (.int y1), some (.int x2), some (.int x3), some (.int q3)] [.int ((Forecast_fitting v0) (Int32.toNatClampNeg x3))] ([kForecast 0 5 19 22 30 v0, kTown 5 13 v1, kLaws 13 v2, kLots 19 v3, kLives 22 5 v4, kLives 30 5 v5] : List (List zE)).flatten)) ∧ (¬ (q3 = x2) → AW Z 0 0 53 [some (.ref 0), some (.int y1), some (.int x2), some (.int x3), some (.int q3)] [] ([kForecast 0 5 19 22 30 v0, kTown 5 13 v1, kLaws 13 v2, kLots 19 v3, kLives 22 5 v4, kLives 30 5 v5] : List (List zE)).flatten)))))))
        obtain ⟨b19, hf⟩ := zneed hf
        refine ⟨b19, ?_⟩
        refine ⟨fun c4 => ?_, fun c4 => ?_⟩
        · rw [if_pos c4] at hf
          obtain ⟨b8, hf⟩ := zneed hf
          refine ⟨b8, ?_⟩
          suffices H5 : AW Z 0 0 67 [some (.ref 0), some (.int y1), some (.int (if (((Forecast_fitting v0) (Int32.toNatClampNeg x3)) = 0) then x2 else q3)), some (.int x3), none] [] ([kForecast 0 5 19 22 30 v0, kTown 5 13 v1, kLaws 13 v2, kLots 19 v3, kLives 22 5 v4, kLives 30 5 v5] : List (List zE)).flatten from by
            refine AW.run hZ hRm [67] 400 ?_
            show (((((Forecast_fitting v0) (Int32.toNatClampNeg x3)) = 0) → AW Z 0 0 67 [some (.ref 0), some (.int y1), some (.int x2), some (.int x3), some (.int q3)] [] ([kForecast 0 5 19 22 30 v0, kTown 5 13 v1, kLaws 13 v2, kLots 19 v3, kLives 22 5 v4, kLives 30 5 v5] : List (List zE)).flatten) ∧ (¬ (((Forecast_fitting v0) (Int32.toNatClampNeg x3)) = 0) → AW Z 0 0 67 [some (.ref 0), some (.int y1), some (.int q3), some (.int x3), some (.int q3)] [] ([kForecast 0 5 19 22 30 v0, kTown 5 13 v1, kLaws 13 v2, kLots 19 v3, kLives 22 5 v4, kLives 30 5 v5] : List (List zE)).flatten))
            refine ⟨fun c6 => ?_, fun c6 => ?_⟩
            · refine AW.forget [true, true, true, true, false] ?_
              show AW Z 0 0 67 [some (.ref 0), some (.int y1), some (.int x2), some (.int x3), none] [] ([kForecast 0 5 19 22 30 v0, kTown 5 13 v1, kLaws 13 v2, kLots 19 v3, kLives 22 5 v4, kLives 30 5 v5] : List (List zE)).flatten
              simpa only [if_pos c6] using H5
            · refine AW.forget [true, true, true, true, false] ?_
              show AW Z 0 0 67 [some (.ref 0), some (.int y1), some (.int q3), some (.int x3), none] [] ([kForecast 0 5 19 22 30 v0, kTown 5 13 v1, kLaws 13 v2, kLots 19 v3, kLives 22 5 v4, kLives 30 5 v5] : List (List zE)).flatten
              simpa only [if_neg c6] using H5
          replace hf := zlet_gen hf
          generalize ((if (((Forecast_fitting v0) (Int32.toNatClampNeg x3)) = 0) then x2 else q3) : Int32) = z7 at hf ⊢
          refine AW.run hZ hRm [4] 400 ?_
          show AW Z 0 0 4 [some (.ref 0), some (.int y1), some (.int z7), some (.int (x3 + 1)), none] [] ([kForecast 0 5 19 22 30 v0, kTown 5 13 v1, kLaws 13 v2, kLots 19 v3, kLives 22 5 v4, kLives 30 5 v5] : List (List zE)).flatten
          exact ih v0 v1 v2 v3 v4 v5 y1 z7 (x3 + 1) q hf hk0 hk1
        · rw [if_neg c4] at hf
          refine ⟨fun c9 => ?_, fun c9 => ?_⟩
          · rw [if_pos c9] at hf
            obtain ⟨b13, hf⟩ := zneed hf
            refine ⟨b13, ?_⟩
            suffices H10 : AW Z 0 0 67 [some (.ref 0), some (.int y1), some (.int (if (((Forecast_fitting v0) (Int32.toNatClampNeg x3)) = 0) then x2 else q3)), some (.int x3), none] [] ([kForecast 0 5 19 22 30 v0, kTown 5 13 v1, kLaws 13 v2, kLots 19 v3, kLives 22 5 v4, kLives 30 5 v5] : List (List zE)).flatten from by
              refine AW.run hZ hRm [67] 400 ?_
              show (((((Forecast_fitting v0) (Int32.toNatClampNeg x3)) = 0) → AW Z 0 0 67 [some (.ref 0), some (.int y1), some (.int x2), some (.int x3), some (.int q3)] [] ([kForecast 0 5 19 22 30 v0, kTown 5 13 v1, kLaws 13 v2, kLots 19 v3, kLives 22 5 v4, kLives 30 5 v5] : List (List zE)).flatten) ∧ (¬ (((Forecast_fitting v0) (Int32.toNatClampNeg x3)) = 0) → AW Z 0 0 67 [some (.ref 0), some (.int y1), some (.int q3), some (.int x3), some (.int q3)] [] ([kForecast 0 5 19 22 30 v0, kTown 5 13 v1, kLaws 13 v2, kLots 19 v3, kLives 22 5 v4, kLives 30 5 v5] : List (List zE)).flatten))
              refine ⟨fun c11 => ?_, fun c11 => ?_⟩
              · refine AW.forget [true, true, true, true, false] ?_
                show AW Z 0 0 67 [some (.ref 0), some (.int y1), some (.int x2), some (.int x3), none] [] ([kForecast 0 5 19 22 30 v0, kTown 5 13 v1, kLaws 13 v2, kLots 19 v3, kLives 22 5 v4, kLives 30 5 v5] : List (List zE)).flatten
                simpa only [if_pos c11] using H10
              · refine AW.forget [true, true, true, true, false] ?_
                show AW Z 0 0 67 [some (.ref 0), some (.int y1), some (.int q3), some (.int x3), none] [] ([kForecast 0 5 19 22 30 v0, kTown 5 13 v1, kLaws 13 v2, kLots 19 v3, kLives 22 5 v4, kLives 30 5 v5] : List (List zE)).flatten
                simpa only [if_neg c11] using H10
            replace hf := zlet_gen hf
            generalize ((if (((Forecast_fitting v0) (Int32.toNatClampNeg x3)) = 0) then x2 else q3) : Int32) = z12 at hf ⊢
            refine AW.run hZ hRm [4] 400 ?_
            show AW Z 0 0 4 [some (.ref 0), some (.int y1), some (.int z12), some (.int (x3 + 1)), none] [] ([kForecast 0 5 19 22 30 v0, kTown 5 13 v1, kLaws 13 v2, kLots 19 v3, kLives 22 5 v4, kLives 30 5 v5] : List (List zE)).flatten
            exact ih v0 v1 v2 v3 v4 v5 y1 z12 (x3 + 1) q hf hk0 hk1
          · rw [if_neg c9] at hf
            refine ⟨fun c14 => ?_, fun c14 => ?_⟩
            · rw [if_pos c14] at hf
              obtain ⟨b18, hf⟩ := zneed hf
              refine ⟨b18, ?_⟩
              suffices H15 : AW Z 0 0 67 [some (.ref 0), some (.int y1), some (.int (if (((Forecast_fitting v0) (Int32.toNatClampNeg x3)) = 0) then x2 else q3)), some (.int x3), none] [] ([kForecast 0 5 19 22 30 v0, kTown 5 13 v1, kLaws 13 v2, kLots 19 v3, kLives 22 5 v4, kLives 30 5 v5] : List (List zE)).flatten from by
                refine AW.run hZ hRm [67] 400 ?_
                show (((((Forecast_fitting v0) (Int32.toNatClampNeg x3)) = 0) → AW Z 0 0 67 [some (.ref 0), some (.int y1), some (.int x2), some (.int x3), some (.int q3)] [] ([kForecast 0 5 19 22 30 v0, kTown 5 13 v1, kLaws 13 v2, kLots 19 v3, kLives 22 5 v4, kLives 30 5 v5] : List (List zE)).flatten) ∧ (¬ (((Forecast_fitting v0) (Int32.toNatClampNeg x3)) = 0) → AW Z 0 0 67 [some (.ref 0), some (.int y1), some (.int q3), some (.int x3), some (.int q3)] [] ([kForecast 0 5 19 22 30 v0, kTown 5 13 v1, kLaws 13 v2, kLots 19 v3, kLives 22 5 v4, kLives 30 5 v5] : List (List zE)).flatten))
                refine ⟨fun c16 => ?_, fun c16 => ?_⟩
                · refine AW.forget [true, true, true, true, false] ?_
                  show AW Z 0 0 67 [some (.ref 0), some (.int y1), some (.int x2), some (.int x3), none] [] ([kForecast 0 5 19 22 30 v0, kTown 5 13 v1, kLaws 13 v2, kLots 19 v3, kLives 22 5 v4, kLives 30 5 v5] : List (List zE)).flatten
                  simpa only [if_pos c16] using H15
                · refine AW.forget [true, true, true, true, false] ?_
                  show AW Z 0 0 67 [some (.ref 0), some (.int y1), some (.int q3), some (.int x3), none] [] ([kForecast 0 5 19 22 30 v0, kTown 5 13 v1, kLaws 13 v2, kLots 19 v3, kLives 22 5 v4, kLives 30 5 v5] : List (List zE)).flatten
                  simpa only [if_neg c16] using H15
              replace hf := zlet_gen hf
              generalize ((if (((Forecast_fitting v0) (Int32.toNatClampNeg x3)) = 0) then x2 else q3) : Int32) = z17 at hf ⊢
              refine AW.run hZ hRm [4] 400 ?_
              show AW Z 0 0 4 [some (.ref 0), some (.int y1), some (.int z17), some (.int (x3 + 1)), none] [] ([kForecast 0 5 19 22 30 v0, kTown 5 13 v1, kLaws 13 v2, kLots 19 v3, kLives 22 5 v4, kLives 30 5 v5] : List (List zE)).flatten
              exact ih v0 v1 v2 v3 v4 v5 y1 z17 (x3 + 1) q hf hk0 hk1
            · rw [if_neg c14] at hf
              cases hf
              refine AW.forget [false, false, false, false, false] ?_
              show AW Z 0 0 53 [none, none, none, none, none] [] ([kForecast 0 5 19 22 30 v0, kTown 5 13 v1, kLaws 13 v2, kLots 19 v3, kLives 22 5 v4, kLives 30 5 v5] : List (List zE)).flatten
              exact hk0 _ rfl
set_option maxRecDepth 20000 in
set_option maxHeartbeats 4000000 in
theorem c_Forecast_onlySelf (N : Nat) (v0 : VForecast) (v1 : VTown) (v2 : VLaws) (v3 : VLots) (v4 : VLives) (v5 : VLives) (a1 : Int32) (R : Int32) (hf : f_Forecast_onlySelf N v0 v1 v2 v3 v4 v5 a1 = some R) : Ct zMX1_onlySelf 2 0 0 0 [.ref 0, .int a1] ([kForecast 0 5 19 22 30 v0, kTown 5 13 v1, kLaws 13 v2, kLots 19 v3, kLives 22 5 v4, kLives 30 5 v5] : List (List zE)).flatten (fun v cc => v = some (.int R) ∧ cc = ([kForecast 0 5 19 22 30 v0, kTown 5 13 v1, kLaws 13 v2, kLots 19 v3, kLives 22 5 v4, kLives 30 5 v5] : List (List zE)).flatten) := by
  refine Ct.of zMX1_onlySelf_ok (by decide) (Nat.le_of_ble_eq_true rfl) ?_
  intro Z hZ hR hN hE
  have hRm : zRoom Z 0 0 := zRoom0 Z
  unfold f_Forecast_onlySelf at hf
  show AW Z 0 0 0 [some (.ref 0), some (.int a1), none, none, none] [] ([kForecast 0 5 19 22 30 v0, kTown 5 13 v1, kLaws 13 v2, kLots 19 v3, kLives 22 5 v4, kLives 30 5 v5] : List (List zE)).flatten
  refine AW.run hZ hRm [4] 400 ?_
  show AW Z 0 0 4 [some (.ref 0), some (.int a1), some (.int (-1)), some (.int 0), none] [] ([kForecast 0 5 19 22 30 v0, kTown 5 13 v1, kLaws 13 v2, kLots 19 v3, kLives 22 5 v4, kLives 30 5 v5] : List (List zE)).flatten
  obtain ⟨q21, h22, hf⟩ := zbind hf
  refine c_Forecast_onlySelf_L4 hZ hR (by omega) hN hRm N N v0 v1 v2 v3 v4 v5 a1 (-1) 0 q21 h22 ?_ ?_
  · intro w23 hq
    subst hq
    show AW Z 0 0 53 [none, none, none, none, none] [] ([kForecast 0 5 19 22 30 v0, kTown 5 13 v1, kLaws 13 v2, kLots 19 v3, kLives 22 5 v4, kLives 30 5 v5] : List (List zE)).flatten
    replace hf : (some (-1)) = some R := hf
    refine AW.run hZ hRm [54] 400 ?_
    show AW Z 0 0 54 [none, none, none, none, none] [.int (-1)] ([kForecast 0 5 19 22 30 v0, kTown 5 13 v1, kLaws 13 v2, kLots 19 v3, kLives 22 5 v4, kLives 30 5 v5] : List (List zE)).flatten
    cases hf
    exact AW.iret hZ hE rfl rfl rfl rfl (Nat.le_refl 0) (Nat.le_refl 0) rfl ⟨rfl, rfl⟩
  · intro w24 hq
    subst hq
    show AW Z 0 0 73 [none, none, some (.int w24), none, none] [] ([kForecast 0 5 19 22 30 v0, kTown 5 13 v1, kLaws 13 v2, kLots 19 v3, kLives 22 5 v4, kLives 30 5 v5] : List (List zE)).flatten
    replace hf : (some w24) = some R := hf
    refine AW.run hZ hRm [74] 400 ?_
    show AW Z 0 0 74 [none, none, some (.int w24), none, none] [.int w24] ([kForecast 0 5 19 22 30 v0, kTown 5 13 v1, kLaws 13 v2, kLots 19 v3, kLives 22 5 v4, kLives 30 5 v5] : List (List zE)).flatten
    cases hf
    exact AW.iret hZ hE rfl rfl rfl rfl (Nat.le_refl 0) (Nat.le_refl 0) rfl ⟨rfl, rfl⟩
