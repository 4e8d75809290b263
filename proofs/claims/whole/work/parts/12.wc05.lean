def f_Forecast_foresee_L53 (N : Nat) : Nat → VForecast → VTown → VLaws → VLots → VLives → VLives → Int32 → Int32 → (Nat → Int32) → (Nat → Int32) → (Nat → Int32) → (Nat → Int32) → (Nat → Int32) → (Nat → Int32) → Int32 → Option ((Nat → Int32) × (Nat → Int32) × (Nat → Int32) × (Nat → Int32) × (Nat → Int32) × (Nat → Int32) × Int32)
  | 0, _, _, _, _, _, _, _, _, _, _, _, _, _, _, _ => none
  | fuel + 1, v0, v1, v2, v3, v4, v5, y1, x2, m_held0, m_facts1, m_stack2, m_purse3, m_debt4, m_home5, m_days6 => (if (7 ≤ x2) then (some (m_held0, m_facts1, m_stack2, m_purse3, m_debt4, m_home5, m_days6)) else ((f_Lives_passDays N (Lives_s_purse_debt_home_days v5 m_purse3 m_debt4 m_home5 m_days6) v1 (Laws_s_facts_stack v2 m_facts1 m_stack2) 1 (Town_sign v1)).bind (fun q7 => (if (zcpyD 0 ((y1 * 42) + (x2 * 6)) 6 6 11130) = true then (f_Forecast_foresee_L53 N fuel v0 v1 v2 v3 v4 v5 y1 (x2 + 1) (va_cpy q7.1 m_held0 (Int32.toNatClampNeg 0) (Int32.toNatClampNeg ((y1 * 42) + (x2 * 6))) (Int32.toNatClampNeg 6)) q7.2.2.2.2.1 q7.2.2.2.2.2 q7.1 q7.2.1 q7.2.2.1 q7.2.2.2.1) else none))))
def f_Forecast_foresee_L10 (N : Nat) : Nat → VForecast → VTown → VLaws → VLots → VLives → VLives → Int32 → (Nat → Int32) → (Nat → Int32) → (Nat → Int32) → (Nat → Int32) → (Nat → Int32) → (Nat → Int32) → (Nat → Int32) → (Nat → Int32) → (Nat → Int32) → (Nat → Int32) → (Nat → Int32) → Int32 → Int32 → Int32 → Int32 → Option ((Nat → Int32) × (Nat → Int32) × (Nat → Int32) × (Nat → Int32) × (Nat → Int32) × (Nat → Int32) × (Nat → Int32) × (Nat → Int32) × (Nat → Int32) × (Nat → Int32) × (Nat → Int32) × Int32 × Int32 × Int32 × Int32)
  | 0, _, _, _, _, _, _, _, _, _, _, _, _, _, _, _, _, _, _, _, _, _, _ => none
  | fuel + 1, v0, v1, v2, v3, v4, v5, x1, m_held0, m_harms1, m_facts2, m_stack3, m_purse4, m_debt5, m_home6, m_hidden7, m_self8, m_worthThen9, m_homeThen10, m_away11, m_days12, m_homes13, m_harm14 => (if ((Lots_count v3) ≤ x1) then (some (m_held0, m_harms1, m_facts2, m_stack3, m_purse4, m_debt5, m_home6, m_hidden7, m_self8, m_worthThen9, m_homeThen10, m_away11, m_days12, m_homes13, m_harm14)) else (if (265 ≤ x1) then (some (m_held0, m_harms1, m_facts2, m_stack3, m_purse4, m_debt5, m_home6, m_hidden7, m_self8, m_worthThen9, m_homeThen10, m_away11, m_days12, m_homes13, m_harm14)) else ((f_Lives_copyFrom N (Lives_s_purse_debt_home_hidden_self_worthThen_homeThen_away_days_homes_harm v5 m_purse4 m_debt5 m_home6 m_hidden7 m_self8 m_worthThen9 m_homeThen10 m_away11 m_days12 m_homes13 m_harm14) v1 (Laws_s_facts_stack v2 m_facts2 m_stack3) v4).bind (fun q4 => ((f_Lives_goAway N (Lives_s_purse_debt_home_hidden_self_worthThen_homeThen_away_days_homes_harm v5 q4.1 q4.2.1 q4.2.2.1 q4.2.2.2.1 q4.2.2.2.2.1 q4.2.2.2.2.2.1 q4.2.2.2.2.2.2.1 q4.2.2.2.2.2.2.2.1 q4.2.2.2.2.2.2.2.2.1 q4.2.2.2.2.2.2.2.2.2.1 q4.2.2.2.2.2.2.2.2.2.2) v1 (Laws_s_facts_stack v2 m_facts2 m_stack3) v3 x1).bind (fun q5 => ((f_Forecast_foresee_L53 N N (Forecast_s_held_harms v0 m_held0 m_harms1) v1 (Laws_s_facts_stack v2 m_facts2 m_stack3) v3 v4 (Lives_s_purse_debt_home_hidden_self_worthThen_homeThen_away_days_homes_harm v5 q4.1 q4.2.1 q4.2.2.1 q4.2.2.2.1 q5.1 q5.2.1 q5.2.2.1 q5.2.2.2.1 q5.2.2.2.2 q4.2.2.2.2.2.2.2.2.2.1 q4.2.2.2.2.2.2.2.2.2.2) x1 0 m_held0 m_facts2 m_stack3 q4.1 q4.2.1 q4.2.2.1 q5.2.2.2.2).bind (fun q10 => ((f_Lives_harmOfAll N (Lives_s_purse_debt_home_hidden_self_worthThen_homeThen_away_days_homes_harm v5 q10.2.2.2.1 q10.2.2.2.2.1 q10.2.2.2.2.2.1 q4.2.2.2.1 q5.1 q5.2.1 q5.2.2.1 q5.2.2.2.1 q10.2.2.2.2.2.2 q4.2.2.2.2.2.2.2.2.2.1 q4.2.2.2.2.2.2.2.2.2.2) v1 (Laws_s_facts_stack v2 q10.2.1 q10.2.2.1)).bind (fun q12 => (if (x1 < 0 ∨ 265 ≤ Int32.toNatClampNeg x1) then none else (f_Forecast_foresee_L10 N fuel v0 v1 v2 v3 v4 v5 (x1 + 1) q10.1 (upd m_harms1 (Int32.toNatClampNeg x1) q12) q10.2.1 q10.2.2.1 q10.2.2.2.1 q10.2.2.2.2.1 q10.2.2.2.2.2.1 q4.2.2.2.1 q5.1 q5.2.1 q5.2.2.1 q5.2.2.2.1 q10.2.2.2.2.2.2 q4.2.2.2.2.2.2.2.2.2.1 q4.2.2.2.2.2.2.2.2.2.2))))))))))))
def f_Forecast_foresee (N : Nat) (v0 : VForecast) (v1 : VTown) (v2 : VLaws) (v3 : VLots) (v4 : VLives) (v5 : VLives) : Option (Int32 × (Nat → Int32) × (Nat → Int32) × (Nat → Int32) × (Nat → Int32) × (Nat → Int32) × (Nat → Int32) × (Nat → Int32) × (Nat → Int32) × (Nat → Int32) × (Nat → Int32) × (Nat → Int32) × Int32 × Int32 × Int32 × Int32) := (if ((Forecast_ready v0) = 0) then ((f_Forecast_foresee_L10 N N v0 v1 v2 v3 v4 v5 0 (Forecast_held v0) (Forecast_harms v0) (Laws_facts v2) (Laws_stack v2) (Lives_purse v5) (Lives_debt v5) (Lives_home v5) (Lives_hidden v5) (Lives_self v5) (Lives_worthThen v5) (Lives_homeThen v5) (Lives_away v5) (Lives_days v5) (Lives_homes v5) (Lives_harm v5)).bind (fun q17 => (some (1, q17.1, q17.2.1, q17.2.2.1, q17.2.2.2.1, q17.2.2.2.2.1, q17.2.2.2.2.2.1, q17.2.2.2.2.2.2.1, q17.2.2.2.2.2.2.2.1, q17.2.2.2.2.2.2.2.2.1, q17.2.2.2.2.2.2.2.2.2.1, q17.2.2.2.2.2.2.2.2.2.2.1, q17.2.2.2.2.2.2.2.2.2.2.2.1, q17.2.2.2.2.2.2.2.2.2.2.2.2.1, q17.2.2.2.2.2.2.2.2.2.2.2.2.2.1, q17.2.2.2.2.2.2.2.2.2.2.2.2.2.2)))) else (some ((Forecast_ready v0), (Forecast_held v0), (Forecast_harms v0), (Laws_facts v2), (Laws_stack v2), (Lives_purse v5), (Lives_debt v5), (Lives_home v5), (Lives_hidden v5), (Lives_self v5), (Lives_worthThen v5), (Lives_homeThen v5), (Lives_away v5), (Lives_days v5), (Lives_homes v5), (Lives_harm v5))))
set_option maxRecDepth 20000 in
set_option maxHeartbeats 4000000 in
theorem c_Forecast_foresee_L53 {Z : zCtx} {D n0w nf mcw msw : Nat} (hZ : zOk Z zMX1_foresee) (hR : zCan Z D mcw msw) (hDd : 5 ≤ D) (hN : zNew Z n0w nf) (hRm : zRoom Z 0 0) (N : Nat) : ∀ (fuel : Nat) (v0 : VForecast) (v1 : VTown) (v2 : VLaws) (v3 : VLots) (v4 : VLives) (v5 : VLives) (y1 : Int32) (x2 : Int32) (m_held0 : (Nat → Int32)) (m_facts1 : (Nat → Int32)) (m_stack2 : (Nat → Int32)) (m_purse3 : (Nat → Int32)) (m_debt4 : (Nat → Int32)) (m_home5 : (Nat → Int32)) (m_days6 : Int32) (q : ((Nat → Int32) × (Nat → Int32) × (Nat → Int32) × (Nat → Int32) × (Nat → Int32) × (Nat → Int32) × Int32)), f_Forecast_foresee_L53 N fuel v0 v1 v2 v3 v4 v5 y1 x2 m_held0 m_facts1 m_stack2 m_purse3 m_debt4 m_home5 m_days6 = some q → (AW Z 0 0 106 [some (.ref 0), some (.int y1), none] [] ([kForecast 0 5 19 22 30 (Forecast_held_s v0 q.1), kTown 5 13 v1, kLaws 13 (Laws_s_facts_stack v2 q.2.1 q.2.2.1), kLots 19 v3, kLives 22 5 v4, kLives 30 5 (Lives_s_purse_debt_home_days v5 q.2.2.2.1 q.2.2.2.2.1 q.2.2.2.2.2.1 q.2.2.2.2.2.2)] : List (List zE)).flatten) → AW Z 0 0 53 [some (.ref 0), some (.int y1), some (.int x2)] [] ([kForecast 0 5 19 22 30 (Forecast_held_s v0 m_held0), kTown 5 13 v1, kLaws 13 (Laws_s_facts_stack v2 m_facts1 m_stack2), kLots 19 v3, kLives 22 5 v4, kLives 30 5 (Lives_s_purse_debt_home_days v5 m_purse3 m_debt4 m_home5 m_days6)] : List (List zE)).flatten := by
  intro fuel
  induction fuel with
  | zero =>
    intro v0 v1 v2 v3 v4 v5 y1 x2 m_held0 m_facts1 m_stack2 m_purse3 m_debt4 m_home5 m_days6 q hf hk0
    simp [f_Forecast_foresee_L53] at hf
  | succ fuel ih =>
    intro v0 v1 v2 v3 v4 v5 y1 x2 m_held0 m_facts1 m_stack2 m_purse3 m_debt4 m_home5 m_days6 q hf hk0
    rw [f_Forecast_foresee_L53] at hf
    refine AW.run hZ hRm [71, 106] 400 ?_
    show (((7 ≤ x2) → AW Z 0 0 106 [some (.ref 0), some (.int y1), some (.int x2)] [] ([kForecast 0 5 19 22 30 (Forecast_held_s v0 m_held0), kTown 5 13 v1, kLaws 13 (Laws_s_facts_stack v2 m_facts1 m_stack2), kLots 19 v3, kLives 22 5 v4, kLives 30 5 (Lives_s_purse_debt_home_days v5 m_purse3 m_debt4 m_home5 m_days6)] : List (List zE)).flatten) ∧ (¬ (7 ≤ x2) → AW Z 0 0 71 [some (.ref 0), some (.int y1), some (.int x2)] [.int (Town_sign v1), .int 1, .ref 30] ([kForecast 0 5 19 22 30 (Forecast_held_s v0 m_held0), kTown 5 13 v1, kLaws 13 (Laws_s_facts_stack v2 m_facts1 m_stack2), kLots 19 v3, kLives 22 5 v4, kLives 30 5 (Lives_s_purse_debt_home_days v5 m_purse3 m_debt4 m_home5 m_days6)] : List (List zE)).flatten))
    refine ⟨fun c6 => ?_, fun c6 => ?_⟩
    · rw [if_pos c6] at hf
      cases hf
      refine AW.forget [true, true, false] ?_
      show AW Z 0 0 106 [some (.ref 0), some (.int y1), none] [] ([kForecast 0 5 19 22 30 (Forecast_held_s v0 m_held0), kTown 5 13 v1, kLaws 13 (Laws_s_facts_stack v2 m_facts1 m_stack2), kLots 19 v3, kLives 22 5 v4, kLives 30 5 (Lives_s_purse_debt_home_days v5 m_purse3 m_debt4 m_home5 m_days6)] : List (List zE)).flatten
      exact hk0
    · rw [if_neg c6] at hf
      obtain ⟨q7, h9, hf⟩ := zbind hf
      refine AW.callVc hZ hR hN (c_Lives_passDays N (Lives_s_purse_debt_home_days v5 m_purse3 m_debt4 m_home5 m_days6) v1 (Laws_s_facts_stack v2 m_facts1 m_stack2) 1 (Town_sign v1) q7 h9) zMX3_passDays_ok rfl rfl zK_BorrowedLives_Forecast_87 zV_X3_passDays rfl [5, 8, 6, 3, 8, 8] [5, 1, 2] [30, 31, 32, 33, 34, 35, 36, 37, 5, 6, 7, 8, 9, 10, 11, 12, 13, 14, 15, 16, 17, 18] rfl rfl rfl (by decide) (by decide) (by omega) (by decide) (Nat.zero_le _) (Nat.zero_le _) rfl rfl rfl rfl rfl ?_
      rintro v cc ⟨rfl, rfl⟩
      refine ⟨_, rfl, rfl, ?_⟩
      show AW Z 0 0 74 [some (.ref 0), some (.int y1), some (.int x2)] [] ([kForecast 0 5 19 22 30 (Forecast_held_s v0 m_held0), kTown 5 13 v1, kLaws 13 (Laws_s_facts_stack v2 q7.2.2.2.2.1 q7.2.2.2.2.2), kLots 19 v3, kLives 22 5 v4, kLives 30 5 (Lives_s_purse_debt_home_days v5 q7.1 q7.2.1 q7.2.2.1 q7.2.2.2.1)] : List (List zE)).flatten
      refine AW.run hZ hRm [53] 400 ?_
      show ((zcpyOk 0 ((y1 * 42) + (x2 * 6)) 6 6 11130) ∧ AW Z 0 0 53 [some (.ref 0), some (.int y1), some (.int (x2 + 1))] [] ([kForecast 0 5 19 22 30 (Forecast_held_s v0 (va_cpy q7.1 m_held0 (Int32.toNatClampNeg 0) (Int32.toNatClampNeg ((y1 * 42) + (x2 * 6))) (Int32.toNatClampNeg 6))), kTown 5 13 v1, kLaws 13 (Laws_s_facts_stack v2 q7.2.2.2.2.1 q7.2.2.2.2.2), kLots 19 v3, kLives 22 5 v4, kLives 30 5 (Lives_s_purse_debt_home_days v5 q7.1 q7.2.1 q7.2.2.1 q7.2.2.2.1)] : List (List zE)).flatten)
      obtain ⟨b8, hf⟩ := zneedP hf
      refine ⟨zcpyD_ok b8, ?_⟩
      exact ih v0 v1 v2 v3 v4 v5 y1 (x2 + 1) (va_cpy q7.1 m_held0 (Int32.toNatClampNeg 0) (Int32.toNatClampNeg ((y1 * 42) + (x2 * 6))) (Int32.toNatClampNeg 6)) q7.2.2.2.2.1 q7.2.2.2.2.2 q7.1 q7.2.1 q7.2.2.1 q7.2.2.2.1 q hf hk0
set_option maxRecDepth 20000 in
set_option maxHeartbeats 4000000 in
theorem c_Forecast_foresee_L10 {Z : zCtx} {D n0w nf mcw msw : Nat} (hZ : zOk Z zMX1_foresee) (hR : zCan Z D mcw msw) (hDd : 5 ≤ D) (hN : zNew Z n0w nf) (hRm : zRoom Z 0 0) (N : Nat) : ∀ (fuel : Nat) (v0 : VForecast) (v1 : VTown) (v2 : VLaws) (v3 : VLots) (v4 : VLives) (v5 : VLives) (x1 : Int32) (m_held0 : (Nat → Int32)) (m_harms1 : (Nat → Int32)) (m_facts2 : (Nat → Int32)) (m_stack3 : (Nat → Int32)) (m_purse4 : (Nat → Int32)) (m_debt5 : (Nat → Int32)) (m_home6 : (Nat → Int32)) (m_hidden7 : (Nat → Int32)) (m_self8 : (Nat → Int32)) (m_worthThen9 : (Nat → Int32)) (m_homeThen10 : (Nat → Int32)) (m_away11 : Int32) (m_days12 : Int32) (m_homes13 : Int32) (m_harm14 : Int32) (q : ((Nat → Int32) × (Nat → Int32) × (Nat → Int32) × (Nat → Int32) × (Nat → Int32) × (Nat → Int32) × (Nat → Int32) × (Nat → Int32) × (Nat → Int32) × (Nat → Int32) × (Nat → Int32) × Int32 × Int32 × Int32 × Int32)), f_Forecast_foresee_L10 N fuel v0 v1 v2 v3 v4 v5 x1 m_held0 m_harms1 m_facts2 m_stack3 m_purse4 m_debt5 m_home6 m_hidden7 m_self8 m_worthThen9 m_homeThen10 m_away11 m_days12 m_homes13 m_harm14 = some q → (AW Z 0 0 125 [some (.ref 0), none, none] [] ([kForecast 0 5 19 22 30 (Forecast_s_held_harms v0 q.1 q.2.1), kTown 5 13 v1, kLaws 13 (Laws_s_facts_stack v2 q.2.2.1 q.2.2.2.1), kLots 19 v3, kLives 22 5 v4, kLives 30 5 (Lives_s_purse_debt_home_hidden_self_worthThen_homeThen_away_days_homes_harm v5 q.2.2.2.2.1 q.2.2.2.2.2.1 q.2.2.2.2.2.2.1 q.2.2.2.2.2.2.2.1 q.2.2.2.2.2.2.2.2.1 q.2.2.2.2.2.2.2.2.2.1 q.2.2.2.2.2.2.2.2.2.2.1 q.2.2.2.2.2.2.2.2.2.2.2.1 q.2.2.2.2.2.2.2.2.2.2.2.2.1 q.2.2.2.2.2.2.2.2.2.2.2.2.2.1 q.2.2.2.2.2.2.2.2.2.2.2.2.2.2)] : List (List zE)).flatten) → AW Z 0 0 10 [some (.ref 0), some (.int x1), none] [] ([kForecast 0 5 19 22 30 (Forecast_s_held_harms v0 m_held0 m_harms1), kTown 5 13 v1, kLaws 13 (Laws_s_facts_stack v2 m_facts2 m_stack3), kLots 19 v3, kLives 22 5 v4, kLives 30 5 (Lives_s_purse_debt_home_hidden_self_worthThen_homeThen_away_days_homes_harm v5 m_purse4 m_debt5 m_home6 m_hidden7 m_self8 m_worthThen9 m_homeThen10 m_away11 m_days12 m_homes13 m_harm14)] : List (List zE)).flatten := by
  intro fuel
  induction fuel with
  | zero =>
    intro v0 v1 v2 v3 v4 v5 x1 m_held0 m_harms1 m_facts2 m_stack3 m_purse4 m_debt5 m_home6 m_hidden7 m_self8 m_worthThen9 m_homeThen10 m_away11 m_days12 m_homes13 m_harm14 q hf hk0
    simp [f_Forecast_foresee_L10] at hf
  | succ fuel ih =>
    intro v0 v1 v2 v3 v4 v5 x1 m_held0 m_harms1 m_facts2 m_stack3 m_purse4 m_debt5 m_home6 m_hidden7 m_self8 m_worthThen9 m_homeThen10 m_away11 m_days12 m_homes13 m_harm14 q hf hk0
    rw [f_Forecast_foresee_L10] at hf
    refine AW.run hZ hRm [36, 125] 400 ?_
    show ((((Lots_count v3) ≤ x1) → AW Z 0 0 125 [some (.ref 0), some (.int x1), none] [] ([kForecast 0 5 19 22 30 (Forecast_s_held_harms v0 m_held0 m_harms1), kTown 5 13 v1, kLaws 13 (Laws_s_facts_stack v2 m_facts2 m_stack3), kLots 19 v3, kLives 22 5 v4, kLives 30 5 (Lives_s_purse_debt_home_hidden_self_worthThen_homeThen_away_days_homes_harm v5 m_purse4 m_debt5 m_home6 m_hidden7 m_self8 m_worthThen9 m_homeThen10 m_away11 m_days12 m_homes13 m_harm14)] : List (List zE)).flatten) ∧ (¬ ((Lots_count v3) ≤ x1) → (((265 ≤ x1) → AW Z 0 0 125 [some (.ref 0), some (.int x1), none] [] ([kForecast 0 5 19 22 30 (Forecast_s_held_harms v0 m_held0 m_harms1), kTown 5 13 v1, kLaws 13 (Laws_s_facts_stack v2 m_facts2 m_stack3), kLots 19 v3, kLives 22 5 v4, kLives 30 5 (Lives_s_purse_debt_home_hidden_self_worthThen_homeThen_away_days_homes_harm v5 m_purse4 m_debt5 m_home6 m_hidden7 m_self8 m_worthThen9 m_homeThen10 m_away11 m_days12 m_homes13 m_harm14)] : List (List zE)).flatten) ∧ (¬ (265 ≤ x1) → AW Z 0 0 36 [some (.ref 0), some (.int x1), none] [.ref 22, .ref 30] ([kForecast 0 5 19 22 30 (Forecast_s_held_harms v0 m_held0 m_harms1), kTown 5 13 v1, kLaws 13 (Laws_s_facts_stack v2 m_facts2 m_stack3), kLots 19 v3, kLives 22 5 v4, kLives 30 5 (Lives_s_purse_debt_home_hidden_self_worthThen_homeThen_away_days_homes_harm v5 m_purse4 m_debt5 m_home6 m_hidden7 m_self8 m_worthThen9 m_homeThen10 m_away11 m_days12 m_homes13 m_harm14)] : List (List zE)).flatten))))
    refine ⟨fun c2 => ?_, fun c2 => ?_⟩
    · rw [if_pos c2] at hf
      cases hf
      refine AW.forget [true, false, false] ?_
      show AW Z 0 0 125 [some (.ref 0), none, none] [] ([kForecast 0 5 19 22 30 (Forecast_s_held_harms v0 m_held0 m_harms1), kTown 5 13 v1, kLaws 13 (Laws_s_facts_stack v2 m_facts2 m_stack3), kLots 19 v3, kLives 22 5 v4, kLives 30 5 (Lives_s_purse_debt_home_hidden_self_worthThen_homeThen_away_days_homes_harm v5 m_purse4 m_debt5 m_home6 m_hidden7 m_self8 m_worthThen9 m_homeThen10 m_away11 m_days12 m_homes13 m_harm14)] : List (List zE)).flatten
      exact hk0
    · rw [if_neg c2] at hf
      refine ⟨fun c3 => ?_, fun c3 => ?_⟩
      · rw [if_pos c3] at hf
        cases hf
        refine AW.forget [true, false, false] ?_
        show AW Z 0 0 125 [some (.ref 0), none, none] [] ([kForecast 0 5 19 22 30 (Forecast_s_held_harms v0 m_held0 m_harms1), kTown 5 13 v1, kLaws 13 (Laws_s_facts_stack v2 m_facts2 m_stack3), kLots 19 v3, kLives 22 5 v4, kLives 30 5 (Lives_s_purse_debt_home_hidden_self_worthThen_homeThen_away_days_homes_harm v5 m_purse4 m_debt5 m_home6 m_hidden7 m_self8 m_worthThen9 m_homeThen10 m_away11 m_days12 m_homes13 m_harm14)] : List (List zE)).flatten
        exact hk0
      · rw [if_neg c3] at hf
        obtain ⟨q4, h16, hf⟩ := zbind hf
        refine AW.callVc hZ hR hN (c_Lives_copyFrom N (Lives_s_purse_debt_home_hidden_self_worthThen_homeThen_away_days_homes_harm v5 m_purse4 m_debt5 m_home6 m_hidden7 m_self8 m_worthThen9 m_homeThen10 m_away11 m_days12 m_homes13 m_harm14) v1 (Laws_s_facts_stack v2 m_facts2 m_stack3) v4 q4 h16) zMX3_copyFrom_ok rfl rfl zK_BorrowedLives_Forecast_74 zV_X3_copyFrom rfl [5, 8, 6, 3, 8, 8] [5, 1, 2, 4] [30, 31, 32, 33, 34, 35, 36, 37, 5, 6, 7, 8, 9, 10, 11, 12, 13, 14, 15, 16, 17, 18, 22, 23, 24, 25, 26, 27, 28, 29] rfl rfl rfl (by decide) (by decide) (by omega) (by decide) (Nat.zero_le _) (Nat.zero_le _) rfl rfl rfl rfl rfl ?_
        rintro v cc ⟨rfl, rfl⟩
        refine ⟨_, rfl, rfl, ?_⟩
        show AW Z 0 0 39 [some (.ref 0), some (.int x1), none] [] ([kForecast 0 5 19 22 30 (Forecast_s_held_harms v0 m_held0 m_harms1), kTown 5 13 v1, kLaws 13 (Laws_s_facts_stack v2 m_facts2 m_stack3), kLots 19 v3, kLives 22 5 v4, kLives 30 5 (Lives_s_purse_debt_home_hidden_self_worthThen_homeThen_away_days_homes_harm v5 q4.1 q4.2.1 q4.2.2.1 q4.2.2.2.1 q4.2.2.2.2.1 q4.2.2.2.2.2.1 q4.2.2.2.2.2.2.1 q4.2.2.2.2.2.2.2.1 q4.2.2.2.2.2.2.2.2.1 q4.2.2.2.2.2.2.2.2.2.1 q4.2.2.2.2.2.2.2.2.2.2)] : List (List zE)).flatten
        refine AW.run hZ hRm [48] 400 ?_
        show AW Z 0 0 48 [some (.ref 0), some (.int x1), none] [.int x1, .ref 19, .ref 30] ([kForecast 0 5 19 22 30 (Forecast_s_held_harms v0 m_held0 m_harms1), kTown 5 13 v1, kLaws 13 (Laws_s_facts_stack v2 m_facts2 m_stack3), kLots 19 v3, kLives 22 5 v4, kLives 30 5 (Lives_s_purse_debt_home_hidden_self_worthThen_homeThen_away_days_homes_harm v5 q4.1 q4.2.1 q4.2.2.1 q4.2.2.2.1 q4.2.2.2.2.1 q4.2.2.2.2.2.1 q4.2.2.2.2.2.2.1 q4.2.2.2.2.2.2.2.1 q4.2.2.2.2.2.2.2.2.1 q4.2.2.2.2.2.2.2.2.2.1 q4.2.2.2.2.2.2.2.2.2.2)] : List (List zE)).flatten
        obtain ⟨q5, h15, hf⟩ := zbind hf
        refine AW.callVc hZ hR hN (c_Lives_goAway N (Lives_s_purse_debt_home_hidden_self_worthThen_homeThen_away_days_homes_harm v5 q4.1 q4.2.1 q4.2.2.1 q4.2.2.2.1 q4.2.2.2.2.1 q4.2.2.2.2.2.1 q4.2.2.2.2.2.2.1 q4.2.2.2.2.2.2.2.1 q4.2.2.2.2.2.2.2.2.1 q4.2.2.2.2.2.2.2.2.2.1 q4.2.2.2.2.2.2.2.2.2.2) v1 (Laws_s_facts_stack v2 m_facts2 m_stack3) v3 x1 q5 h15) zMX3_goAway_ok rfl rfl zK_BorrowedLives_Forecast_78 zV_X3_goAway rfl [5, 8, 6, 3, 8, 8] [5, 1, 2, 3] [30, 31, 32, 33, 34, 35, 36, 37, 5, 6, 7, 8, 9, 10, 11, 12, 13, 14, 15, 16, 17, 18, 19, 20, 21] rfl rfl rfl (by decide) (by decide) (by omega) (by decide) (Nat.zero_le _) (Nat.zero_le _) rfl rfl rfl rfl rfl ?_
        rintro v cc ⟨rfl, rfl⟩
        refine ⟨_, rfl, rfl, ?_⟩
        show AW Z 0 0 51 [some (.ref 0), some (.int x1), none] [] ([kForecast 0 5 19 22 30 (Forecast_s_held_harms v0 m_held0 m_harms1), kTown 5 13 v1, kLaws 13 (Laws_s_facts_stack v2 m_facts2 m_stack3), kLots 19 v3, kLives 22 5 v4, kLives 30 5 (Lives_s_purse_debt_home_hidden_self_worthThen_homeThen_away_days_homes_harm v5 q4.1 q4.2.1 q4.2.2.1 q4.2.2.2.1 q5.1 q5.2.1 q5.2.2.1 q5.2.2.2.1 q5.2.2.2.2 q4.2.2.2.2.2.2.2.2.2.1 q4.2.2.2.2.2.2.2.2.2.2)] : List (List zE)).flatten
        refine AW.run hZ hRm [53] 400 ?_
        show AW Z 0 0 53 [some (.ref 0), some (.int x1), some (.int 0)] [] ([kForecast 0 5 19 22 30 (Forecast_s_held_harms v0 m_held0 m_harms1), kTown 5 13 v1, kLaws 13 (Laws_s_facts_stack v2 m_facts2 m_stack3), kLots 19 v3, kLives 22 5 v4, kLives 30 5 (Lives_s_purse_debt_home_hidden_self_worthThen_homeThen_away_days_homes_harm v5 q4.1 q4.2.1 q4.2.2.1 q4.2.2.2.1 q5.1 q5.2.1 q5.2.2.1 q5.2.2.2.1 q5.2.2.2.2 q4.2.2.2.2.2.2.2.2.2.1 q4.2.2.2.2.2.2.2.2.2.2)] : List (List zE)).flatten
        obtain ⟨q10, h11, hf⟩ := zbind hf
        refine c_Forecast_foresee_L53 hZ hR (by omega) hN hRm N N (Forecast_s_held_harms v0 m_held0 m_harms1) v1 (Laws_s_facts_stack v2 m_facts2 m_stack3) v3 v4 (Lives_s_purse_debt_home_hidden_self_worthThen_homeThen_away_days_homes_harm v5 q4.1 q4.2.1 q4.2.2.1 q4.2.2.2.1 q5.1 q5.2.1 q5.2.2.1 q5.2.2.2.1 q5.2.2.2.2 q4.2.2.2.2.2.2.2.2.2.1 q4.2.2.2.2.2.2.2.2.2.2) x1 0 m_held0 m_facts2 m_stack3 q4.1 q4.2.1 q4.2.2.1 q5.2.2.2.2 q10 h11 ?_
        show AW Z 0 0 106 [some (.ref 0), some (.int x1), none] [] ([kForecast 0 5 19 22 30 (Forecast_s_held_harms v0 q10.1 m_harms1), kTown 5 13 v1, kLaws 13 (Laws_s_facts_stack v2 q10.2.1 q10.2.2.1), kLots 19 v3, kLives 22 5 v4, kLives 30 5 (Lives_s_purse_debt_home_hidden_self_worthThen_homeThen_away_days_homes_harm v5 q10.2.2.2.1 q10.2.2.2.2.1 q10.2.2.2.2.2.1 q4.2.2.2.1 q5.1 q5.2.1 q5.2.2.1 q5.2.2.2.1 q10.2.2.2.2.2.2 q4.2.2.2.2.2.2.2.2.2.1 q4.2.2.2.2.2.2.2.2.2.2)] : List (List zE)).flatten
        refine AW.run hZ hRm [115] 400 ?_
        show AW Z 0 0 115 [some (.ref 0), some (.int x1), none] [.ref 30, .int x1, .ref 2] ([kForecast 0 5 19 22 30 (Forecast_s_held_harms v0 q10.1 m_harms1), kTown 5 13 v1, kLaws 13 (Laws_s_facts_stack v2 q10.2.1 q10.2.2.1), kLots 19 v3, kLives 22 5 v4, kLives 30 5 (Lives_s_purse_debt_home_hidden_self_worthThen_homeThen_away_days_homes_harm v5 q10.2.2.2.1 q10.2.2.2.2.1 q10.2.2.2.2.2.1 q4.2.2.2.1 q5.1 q5.2.1 q5.2.2.1 q5.2.2.2.1 q10.2.2.2.2.2.2 q4.2.2.2.2.2.2.2.2.2.1 q4.2.2.2.2.2.2.2.2.2.2)] : List (List zE)).flatten
        obtain ⟨q12, h14, hf⟩ := zbind hf
        refine AW.callVc hZ hR hN (c_Lives_harmOfAll N (Lives_s_purse_debt_home_hidden_self_worthThen_homeThen_away_days_homes_harm v5 q10.2.2.2.1 q10.2.2.2.2.1 q10.2.2.2.2.2.1 q4.2.2.2.1 q5.1 q5.2.1 q5.2.2.1 q5.2.2.2.1 q10.2.2.2.2.2.2 q4.2.2.2.2.2.2.2.2.2.1 q4.2.2.2.2.2.2.2.2.2.2) v1 (Laws_s_facts_stack v2 q10.2.1 q10.2.2.1) q12 h14) zMX3_harmOfAll_ok rfl rfl zK_BorrowedLives_Forecast_100 zV_X3_harmOfAll rfl [5, 8, 6, 3, 8, 8] [5, 1, 2] [30, 31, 32, 33, 34, 35, 36, 37, 5, 6, 7, 8, 9, 10, 11, 12, 13, 14, 15, 16, 17, 18] rfl rfl rfl (by decide) (by decide) (by omega) (by decide) (Nat.zero_le _) (Nat.zero_le _) rfl rfl rfl rfl rfl ?_
        rintro v cc ⟨rfl, rfl⟩
        refine ⟨_, rfl, rfl, ?_⟩
        show AW Z 0 0 118 [some (.ref 0), some (.int x1), none] [.int q12, .int x1, .ref 2] ([kForecast 0 5 19 22 30 (Forecast_s_held_harms v0 q10.1 m_harms1), kTown 5 13 v1, kLaws 13 (Laws_s_facts_stack v2 q10.2.1 q10.2.2.1), kLots 19 v3, kLives 22 5 v4, kLives 30 5 (Lives_s_purse_debt_home_hidden_self_worthThen_homeThen_away_days_homes_harm v5 q10.2.2.2.1 q10.2.2.2.2.1 q10.2.2.2.2.2.1 q4.2.2.2.1 q5.1 q5.2.1 q5.2.2.1 q5.2.2.2.1 q10.2.2.2.2.2.2 q4.2.2.2.2.2.2.2.2.2.1 q4.2.2.2.2.2.2.2.2.2.2)] : List (List zE)).flatten
        refine AW.run hZ hRm [10] 400 ?_
        show (¬ (x1 < 0 ∨ 265 ≤ Int32.toNatClampNeg x1) ∧ AW Z 0 0 10 [some (.ref 0), some (.int (x1 + 1)), none] [] ([kForecast 0 5 19 22 30 (Forecast_s_held_harms v0 q10.1 (upd m_harms1 (Int32.toNatClampNeg x1) q12)), kTown 5 13 v1, kLaws 13 (Laws_s_facts_stack v2 q10.2.1 q10.2.2.1), kLots 19 v3, kLives 22 5 v4, kLives 30 5 (Lives_s_purse_debt_home_hidden_self_worthThen_homeThen_away_days_homes_harm v5 q10.2.2.2.1 q10.2.2.2.2.1 q10.2.2.2.2.2.1 q4.2.2.2.1 q5.1 q5.2.1 q5.2.2.1 q5.2.2.2.1 q10.2.2.2.2.2.2 q4.2.2.2.2.2.2.2.2.2.1 q4.2.2.2.2.2.2.2.2.2.2)] : List (List zE)).flatten)
        obtain ⟨b13, hf⟩ := zneed hf
        refine ⟨b13, ?_⟩
        exact ih v0 v1 v2 v3 v4 v5 (x1 + 1) q10.1 (upd m_harms1 (Int32.toNatClampNeg x1) q12) q10.2.1 q10.2.2.1 q10.2.2.2.1 q10.2.2.2.2.1 q10.2.2.2.2.2.1 q4.2.2.2.1 q5.1 q5.2.1 q5.2.2.1 q5.2.2.2.1 q10.2.2.2.2.2.2 q4.2.2.2.2.2.2.2.2.2.1 q4.2.2.2.2.2.2.2.2.2.2 q hf hk0
set_option maxRecDepth 20000 in
set_option maxHeartbeats 4000000 in
theorem c_Forecast_foresee (N : Nat) (v0 : VForecast) (v1 : VTown) (v2 : VLaws) (v3 : VLots) (v4 : VLives) (v5 : VLives) (R : Int32 × (Nat → Int32) × (Nat → Int32) × (Nat → Int32) × (Nat → Int32) × (Nat → Int32) × (Nat → Int32) × (Nat → Int32) × (Nat → Int32) × (Nat → Int32) × (Nat → Int32) × (Nat → Int32) × Int32 × Int32 × Int32 × Int32) (hf : f_Forecast_foresee N v0 v1 v2 v3 v4 v5 = some R) : Ct zMX1_foresee 5 0 0 0 [.ref 0] ([kForecast 0 5 19 22 30 v0, kTown 5 13 v1, kLaws 13 v2, kLots 19 v3, kLives 22 5 v4, kLives 30 5 v5] : List (List zE)).flatten (fun v cc => v = none ∧ cc = ([kForecast 0 5 19 22 30 (Forecast_s_ready_held_harms v0 R.1 R.2.1 R.2.2.1), kTown 5 13 v1, kLaws 13 (Laws_s_facts_stack v2 R.2.2.2.1 R.2.2.2.2.1), kLots 19 v3, kLives 22 5 v4, kLives 30 5 (Lives_s_purse_debt_home_hidden_self_worthThen_homeThen_away_days_homes_harm v5 R.2.2.2.2.2.1 R.2.2.2.2.2.2.1 R.2.2.2.2.2.2.2.1 R.2.2.2.2.2.2.2.2.1 R.2.2.2.2.2.2.2.2.2.1 R.2.2.2.2.2.2.2.2.2.2.1 R.2.2.2.2.2.2.2.2.2.2.2.1 R.2.2.2.2.2.2.2.2.2.2.2.2.1 R.2.2.2.2.2.2.2.2.2.2.2.2.2.1 R.2.2.2.2.2.2.2.2.2.2.2.2.2.2.1 R.2.2.2.2.2.2.2.2.2.2.2.2.2.2.2)] : List (List zE)).flatten) := by
  refine Ct.of zMX1_foresee_ok (by decide) (Nat.le_of_ble_eq_true rfl) ?_
  intro Z hZ hR hN hE
  have hRm : zRoom Z 0 0 := zRoom0 Z
  unfold f_Forecast_foresee at hf
  show AW Z 0 0 0 [some (.ref 0), none, none] [] ([kForecast 0 5 19 22 30 v0, kTown 5 13 v1, kLaws 13 v2, kLots 19 v3, kLives 22 5 v4, kLives 30 5 v5] : List (List zE)).flatten
  refine AW.run hZ hRm [7, 10] 400 ?_
  show ((((Forecast_ready v0) = 0) → AW Z 0 0 10 [some (.ref 0), some (.int 0), none] [] ([kForecast 0 5 19 22 30 v0, kTown 5 13 v1, kLaws 13 v2, kLots 19 v3, kLives 22 5 v4, kLives 30 5 v5] : List (List zE)).flatten) ∧ (¬ ((Forecast_ready v0) = 0) → AW Z 0 0 7 [some (.ref 0), none, none] [] ([kForecast 0 5 19 22 30 v0, kTown 5 13 v1, kLaws 13 v2, kLots 19 v3, kLives 22 5 v4, kLives 30 5 v5] : List (List zE)).flatten))
  refine ⟨fun c1 => ?_, fun c1 => ?_⟩
  · rw [if_pos c1] at hf
    obtain ⟨q17, h18, hf⟩ := zbind hf
    refine c_Forecast_foresee_L10 hZ hR (by omega) hN hRm N N v0 v1 v2 v3 v4 v5 0 (Forecast_held v0) (Forecast_harms v0) (Laws_facts v2) (Laws_stack v2) (Lives_purse v5) (Lives_debt v5) (Lives_home v5) (Lives_hidden v5) (Lives_self v5) (Lives_worthThen v5) (Lives_homeThen v5) (Lives_away v5) (Lives_days v5) (Lives_homes v5) (Lives_harm v5) q17 h18 ?_
    show AW Z 0 0 125 [some (.ref 0), none, none] [] ([kForecast 0 5 19 22 30 (Forecast_s_held_harms v0 q17.1 q17.2.1), kTown 5 13 v1, kLaws 13 (Laws_s_facts_stack v2 q17.2.2.1 q17.2.2.2.1), kLots 19 v3, kLives 22 5 v4, kLives 30 5 (Lives_s_purse_debt_home_hidden_self_worthThen_homeThen_away_days_homes_harm v5 q17.2.2.2.2.1 q17.2.2.2.2.2.1 q17.2.2.2.2.2.2.1 q17.2.2.2.2.2.2.2.1 q17.2.2.2.2.2.2.2.2.1 q17.2.2.2.2.2.2.2.2.2.1 q17.2.2.2.2.2.2.2.2.2.2.1 q17.2.2.2.2.2.2.2.2.2.2.2.1 q17.2.2.2.2.2.2.2.2.2.2.2.2.1 q17.2.2.2.2.2.2.2.2.2.2.2.2.2.1 q17.2.2.2.2.2.2.2.2.2.2.2.2.2.2)] : List (List zE)).flatten
    refine AW.run hZ hRm [130] 400 ?_
    show (((1 : Int32) = 0 ∨ (1 : Int32) = 1) ∧ AW Z 0 0 130 [some (.ref 0), none, none] [] ([kForecast 0 5 19 22 30 (Forecast_s_ready_held_harms v0 1 q17.1 q17.2.1), kTown 5 13 v1, kLaws 13 (Laws_s_facts_stack v2 q17.2.2.1 q17.2.2.2.1), kLots 19 v3, kLives 22 5 v4, kLives 30 5 (Lives_s_purse_debt_home_hidden_self_worthThen_homeThen_away_days_homes_harm v5 q17.2.2.2.2.1 q17.2.2.2.2.2.1 q17.2.2.2.2.2.2.1 q17.2.2.2.2.2.2.2.1 q17.2.2.2.2.2.2.2.2.1 q17.2.2.2.2.2.2.2.2.2.1 q17.2.2.2.2.2.2.2.2.2.2.1 q17.2.2.2.2.2.2.2.2.2.2.2.1 q17.2.2.2.2.2.2.2.2.2.2.2.2.1 q17.2.2.2.2.2.2.2.2.2.2.2.2.2.1 q17.2.2.2.2.2.2.2.2.2.2.2.2.2.2)] : List (List zE)).flatten)
    refine ⟨(by decide), ?_⟩
    cases hf
    exact AW.vret hZ hE rfl rfl rfl (Nat.le_refl 0) (Nat.le_refl 0) rfl ⟨rfl, rfl⟩
  · rw [if_neg c1] at hf
    cases hf
    exact AW.vret hZ hE rfl rfl rfl (Nat.le_refl 0) (Nat.le_refl 0) rfl ⟨rfl, rfl⟩
def f_Forecast_heldBy (N : Nat) (v0 : VForecast) (v1 : VTown) (v2 : VLaws) (v3 : VLots) (v4 : VLives) (v5 : VLives) (a1 : Int32) (a2 : Int32) (a3 : Int32) : Option (Int32) := (zlet ((if (a1 < 0) then 0 else (if (265 ≤ a1) then 0 else (if (a2 < 0) then 0 else (if (6 ≤ a2) then 0 else (if (a3 < 1) then 0 else (if (7 < a3) then 0 else 1)))))) : Int32) (fun z8 => (if (z8 = 0) then (some (-1)) else (if ((((a1 * 42) + ((a3 - 1) * 6)) + a2) < 0 ∨ 11130 ≤ Int32.toNatClampNeg (((a1 * 42) + ((a3 - 1) * 6)) + a2)) then none else (some ((Forecast_held v0) (Int32.toNatClampNeg (((a1 * 42) + ((a3 - 1) * 6)) + a2))))))))
set_option maxRecDepth 20000 in
set_option maxHeartbeats 4000000 in
theorem c_Forecast_heldBy (N : Nat) (v0 : VForecast) (v1 : VTown) (v2 : VLaws) (v3 : VLots) (v4 : VLives) (v5 : VLives) (a1 : Int32) (a2 : Int32) (a3 : Int32) (R : Int32) (hf : f_Forecast_heldBy N v0 v1 v2 v3 v4 v5 a1 a2 a3 = some R) : Ct zMX1_heldBy 1 0 0 0 [.ref 0, .int a1, .int a2, .int a3] ([kForecast 0 5 19 22 30 v0, kTown 5 13 v1, kLaws 13 v2, kLots 19 v3, kLives 22 5 v4, kLives 30 5 v5] : List (List zE)).flatten (fun v cc => v = some (.int R) ∧ cc = ([kForecast 0 5 19 22 30 v0, kTown 5 13 v1, kLaws 13 v2, kLots 19 v3, kLives 22 5 v4, kLives 30 5 v5] : List (List zE)).flatten) := by
  refine Ct.of zMX1_heldBy_ok (by decide) (Nat.le_of_ble_eq_true rfl) ?_
  intro Z hZ hR hN hE
  have hRm : zRoom Z 0 0 := zRoom0 Z
  unfold f_Forecast_heldBy at hf
  show AW Z 0 0 0 [some (.ref 0), some (.int a1), some (.int a2), some (.int a3), none] [] ([kForecast 0 5 19 22 30 v0, kTown 5 13 v1, kLaws 13 v2, kLots 19 v3, kLives 22 5 v4, kLives 30 5 v5] : List (List zE)).flatten
  refine AW.run hZ hRm [1] 400 ?_
  show AW Z 0 0 1 [some (.ref 0), some (.int a1), some (.int a2), some (.int a3), none] [.int a1] ([kForecast 0 5 19 22 30 v0, kTown 5 13 v1, kLaws 13 v2, kLots 19 v3, kLives 22 5 v4, kLives 30 5 v5] : List (List zE)).flatten
  suffices H1 : AW Z 0 0 37 [some (.ref 0), some (.int a1), some (.int a2), some (.int a3), none] [.int (if (a1 < 0) then 0 else (if (265 ≤ a1) then 0 else (if (a2 < 0) then 0 else (if (6 ≤ a2) then 0 else (if (a3 < 1) then 0 else (if (7 < a3) then 0 else 1))))))] ([kForecast 0 5 19 22 30 v0, kTown 5 13 v1, kLaws 13 v2, kLots 19 v3, kLives 22 5 v4, kLives 30 5 v5] : List (List zE)).flatten from by
    refine AW.run hZ hRm [37] 400 ?_
    show (((a1 < 0) → AW Z 0 0 37 [some (.ref 0), some (.int a1), some (.int a2), some (.int a3), none] [.int 0] ([kForecast 0 5 19 22 30 v0, kTown 5 13 v1, kLaws 13 v2, kLots 19 v3, kLives 22 5 v4, kLives 30 5 v5] : List (List zE)).flatten) ∧ (¬ (a1 < 0) → (((265 ≤ a1) → AW Z 0 0 37 [some (.ref 0), some (.int a1), some (.int a2), some (.int a3), none] [.int 0] ([kForecast 0 5 19 22 30 v0, kTown 5 13 v1, kLaws 13 v2, kLots 19 v3, kLives 22 5 v4, kLives 30 5 v5] : List (List zE)).flatten) ∧ (¬ (265 ≤ a1) → (((a2 < 0) → AW Z 0 0 37 [some (.ref 0), some (.int a1), some (.int a2), some (.int a3), none] [.int 0] ([kForecast 0 5 19 22 30 v0, kTown 5 13 v1, kLaws 13 v2, kLots 19 v3, kLives 22 5 v4, kLives 30 5 v5] : List (List zE)).flatten) ∧ (¬ (a2 < 0) → (((6 ≤ a2) → AW Z 0 0 37 [some (.ref 0), some (.int a1), some (.int a2), some (.int a3), none] [.int 0] ([kForecast 0 5 19 22 30 v0, kTown 5 13 v1, kLaws 13 v2, kLots 19 v3, kLives 22 5 v4, kLives 30 5 v5] : List (List zE)).flatten) ∧ (¬ (6 ≤ a2) → (((a3 < 1) → AW Z 0 0 37 [some (.ref 0), some (.int a1), some (.int a2), some (.int a3), none] [.int 0] ([kForecast 0 5 19 22 30 v0, kTown 5 13 v1, kLaws 13 v2, kLots 19 v3, kLives 22 5 v4, kLives 30 5 v5] : List (List zE)).flatten) ∧ (¬ (a3 < 1) → (((7 < a3) → AW Z 0 0 37 [some (.ref 0), some (.int a1), some (.int a2), some (.int a3), none] [.int 0] ([kForecast 0 5 19 22 30 v0, kTown 5 13 v1, kLaws 13 v2, kLots 19 v3, kLives 22 5 v4, kLives 30 5 v5] : List (List zE)).flatten) ∧ (¬ (7 < a3) → AW Z 0 0 37 [some (.ref 0), some (.int a1), some (.int a2), some (.int a3), none] [.int 1] ([kForecast 0 5 19 22 30 v0, kTown 5 13 v1, kLaws 13 v2, kLots 19 v3, kLives 22 5 v4, kLives 30 5 v5] : List (List zE)).flatten))))))))))))
    refine ⟨fun c2 => ?_, fun c2 => ?_⟩
    · simpa only [if_pos c2] using H1
    · refine ⟨fun c3 => ?_, fun c3 => ?_⟩
      · simpa only [if_neg c2, if_pos c3] using H1
      · refine ⟨fun c4 => ?_, fun c4 => ?_⟩
        · simpa only [if_neg c2, if_neg c3, if_pos c4] using H1
        · refine ⟨fun c5 => ?_, fun c5 => ?_⟩
          · simpa only [if_neg c2, if_neg c3, if_neg c4, if_pos c5] using H1
          · refine ⟨fun c6 => ?_, fun c6 => ?_⟩
            · simpa only [if_neg c2, if_neg c3, if_neg c4, if_neg c5, if_pos c6] using H1
            · refine ⟨fun c7 => ?_, fun c7 => ?_⟩
              · simpa only [if_neg c2, if_neg c3, if_neg c4, if_neg c5, if_neg c6, if_pos c7] using H1
              · simpa only [if_neg c2, if_neg c3, if_neg c4, if_neg c5, if_neg c6, if_neg c7] using H1
  replace hf := zlet_gen hf
  generalize ((if (a1 < 0) then 0 else (if (265 ≤ a1) then 0 else (if (a2 < 0) then 0 else (if (6 ≤ a2) then 0 else (if (a3 < 1) then 0 else (if (7 < a3) then 0 else 1)))))) : Int32) = z8 at hf ⊢
  refine AW.run hZ hRm [66] 400 ?_
  show (((z8 = 0) → AW Z 0 0 66 [some (.ref 0), some (.int a1), some (.int a2), some (.int a3), some (.int z8)] [.int (-1)] ([kForecast 0 5 19 22 30 v0, kTown 5 13 v1, kLaws 13 v2, kLots 19 v3, kLives 22 5 v4, kLives 30 5 v5] : List (List zE)).flatten) ∧ (¬ (z8 = 0) → (¬ ((((a1 * 42) + ((a3 - 1) * 6)) + a2) < 0 ∨ 11130 ≤ Int32.toNatClampNeg (((a1 * 42) + ((a3 - 1) * 6)) + a2)) ∧ AW Z 0 0 66 [some (.ref 0), some (.int a1), some (.int a2), some (.int a3), some (.int z8)] [.int ((Forecast_held v0) (Int32.toNatClampNeg (((a1 * 42) + ((a3 - 1) * 6)) + a2)))] ([kForecast 0 5 19 22 30 v0, kTown 5 13 v1, kLaws 13 v2, kLots 19 v3, kLives 22 5 v4, kLives 30 5 v5] : List (List zE)).flatten)))
  refine ⟨fun c9 => ?_, fun c9 => ?_⟩
  · rw [if_pos c9] at hf
    cases hf
    exact AW.iret hZ hE rfl rfl rfl rfl (Nat.le_refl 0) (Nat.le_refl 0) rfl ⟨rfl, rfl⟩
  · rw [if_neg c9] at hf
    obtain ⟨b10, hf⟩ := zneed hf
    refine ⟨b10, ?_⟩
    cases hf
    exact AW.iret hZ hE rfl rfl rfl rfl (Nat.le_refl 0) (Nat.le_refl 0) rfl ⟨rfl, rfl⟩
def f_Forecast_harmBy (N : Nat) (v0 : VForecast) (v1 : VTown) (v2 : VLaws) (v3 : VLots) (v4 : VLives) (v5 : VLives) (a1 : Int32) : Option (Int32) := (if (a1 < 0) then (some 0) else (if (265 ≤ a1) then (some 0) else (if (a1 < 0 ∨ 265 ≤ Int32.toNatClampNeg a1) then none else (some ((Forecast_harms v0) (Int32.toNatClampNeg a1))))))
set_option maxRecDepth 20000 in
set_option maxHeartbeats 4000000 in
theorem c_Forecast_harmBy (N : Nat) (v0 : VForecast) (v1 : VTown) (v2 : VLaws) (v3 : VLots) (v4 : VLives) (v5 : VLives) (a1 : Int32) (R : Int32) (hf : f_Forecast_harmBy N v0 v1 v2 v3 v4 v5 a1 = some R) : Ct zMX1_harmBy 1 0 0 0 [.ref 0, .int a1] ([kForecast 0 5 19 22 30 v0, kTown 5 13 v1, kLaws 13 v2, kLots 19 v3, kLives 22 5 v4, kLives 30 5 v5] : List (List zE)).flatten (fun v cc => v = some (.int R) ∧ cc = ([kForecast 0 5 19 22 30 v0, kTown 5 13 v1, kLaws 13 v2, kLots 19 v3, kLives 22 5 v4, kLives 30 5 v5] : List (List zE)).flatten) := by
  refine Ct.of zMX1_harmBy_ok (by decide) (Nat.le_of_ble_eq_true rfl) ?_
  intro Z hZ hR hN hE
  have hRm : zRoom Z 0 0 := zRoom0 Z
  unfold f_Forecast_harmBy at hf
  show AW Z 0 0 0 [some (.ref 0), some (.int a1)] [] ([kForecast 0 5 19 22 30 v0, kTown 5 13 v1, kLaws 13 v2, kLots 19 v3, kLives 22 5 v4, kLives 30 5 v5] : List (List zE)).flatten
  refine AW.run hZ hRm [21] 400 ?_
  show (((a1 < 0) → AW Z 0 0 21 [some (.ref 0), some (.int a1)] [.int 0] ([kForecast 0 5 19 22 30 v0, kTown 5 13 v1, kLaws 13 v2, kLots 19 v3, kLives 22 5 v4, kLives 30 5 v5] : List (List zE)).flatten) ∧ (¬ (a1 < 0) → (((265 ≤ a1) → AW Z 0 0 21 [some (.ref 0), some (.int a1)] [.int 0] ([kForecast 0 5 19 22 30 v0, kTown 5 13 v1, kLaws 13 v2, kLots 19 v3, kLives 22 5 v4, kLives 30 5 v5] : List (List zE)).flatten) ∧ (¬ (265 ≤ a1) → (¬ (a1 < 0 ∨ 265 ≤ Int32.toNatClampNeg a1) ∧ AW Z 0 0 21 [some (.ref 0), some (.int a1)] [.int ((Forecast_harms v0) (Int32.toNatClampNeg a1))] ([kForecast 0 5 19 22 30 v0, kTown 5 13 v1, kLaws 13 v2, kLots 19 v3, kLives 22 5 v4, kLives 30 5 v5] : List (List zE)).flatten)))))
  refine ⟨fun c1 => ?_, fun c1 => ?_⟩
  · rw [if_pos c1] at hf
    cases hf
    exact AW.iret hZ hE rfl rfl rfl rfl (Nat.le_refl 0) (Nat.le_refl 0) rfl ⟨rfl, rfl⟩
  · rw [if_neg c1] at hf
    refine ⟨fun c2 => ?_, fun c2 => ?_⟩
    · rw [if_pos c2] at hf
      cases hf
      exact AW.iret hZ hE rfl rfl rfl rfl (Nat.le_refl 0) (Nat.le_refl 0) rfl ⟨rfl, rfl⟩
    · rw [if_neg c2] at hf
      obtain ⟨b3, hf⟩ := zneed hf
      refine ⟨b3, ?_⟩
      cases hf
      exact AW.iret hZ hE rfl rfl rfl rfl (Nat.le_refl 0) (Nat.le_refl 0) rfl ⟨rfl, rfl⟩
def f_Forecast_leastHarmful_L8 (N : Nat) : Nat → VForecast → VTown → VLaws → VLots → VLives → VLives → Int32 → Int32 → Option (Int32)
  | 0, _, _, _, _, _, _, _, _ => none
  | fuel + 1, v0, v1, v2, v3, v4, v5, x1, x2 => (if ((Lots_count v3) ≤ x2) then (some x1) else (if (265 ≤ x2) then (some x1) else (if (x2 < 0 ∨ 265 ≤ Int32.toNatClampNeg x2) then none else ((f_Forecast_harmBy N v0 v1 v2 v3 v4 v5 x1).bind (fun q4 => (zlet ((if (q4 ≤ ((Forecast_harms v0) (Int32.toNatClampNeg x2))) then x1 else x2) : Int32) (fun z7 => (f_Forecast_leastHarmful_L8 N fuel v0 v1 v2 v3 v4 v5 z7 (x2 + 1)))))))))
def f_Forecast_leastHarmful (N : Nat) (v0 : VForecast) (v1 : VTown) (v2 : VLaws) (v3 : VLots) (v4 : VLives) (v5 : VLives) : Option (Int32 × Int32 × (Nat → Int32) × (Nat → Int32) × (Nat → Int32) × (Nat → Int32) × (Nat → Int32) × (Nat → Int32) × (Nat → Int32) × (Nat → Int32) × (Nat → Int32) × (Nat → Int32) × (Nat → Int32) × Int32 × Int32 × Int32 × Int32) := ((f_Forecast_foresee N v0 v1 v2 v3 v4 v5).bind (fun q1 => ((f_Forecast_leastHarmful_L8 N N (Forecast_s_ready_held_harms v0 q1.1 q1.2.1 q1.2.2.1) v1 (Laws_s_facts_stack v2 q1.2.2.2.1 q1.2.2.2.2.1) v3 v4 (Lives_s_purse_debt_home_hidden_self_worthThen_homeThen_away_days_homes_harm v5 q1.2.2.2.2.2.1 q1.2.2.2.2.2.2.1 q1.2.2.2.2.2.2.2.1 q1.2.2.2.2.2.2.2.2.1 q1.2.2.2.2.2.2.2.2.2.1 q1.2.2.2.2.2.2.2.2.2.2.1 q1.2.2.2.2.2.2.2.2.2.2.2.1 q1.2.2.2.2.2.2.2.2.2.2.2.2.1 q1.2.2.2.2.2.2.2.2.2.2.2.2.2.1 q1.2.2.2.2.2.2.2.2.2.2.2.2.2.2.1 q1.2.2.2.2.2.2.2.2.2.2.2.2.2.2.2) 0 1).bind (fun q10 => (some (q10, q1.1, q1.2.1, q1.2.2.1, q1.2.2.2.1, q1.2.2.2.2.1, q1.2.2.2.2.2.1, q1.2.2.2.2.2.2.1, q1.2.2.2.2.2.2.2.1, q1.2.2.2.2.2.2.2.2.1, q1.2.2.2.2.2.2.2.2.2.1, q1.2.2.2.2.2.2.2.2.2.2.1, q1.2.2.2.2.2.2.2.2.2.2.2.1, q1.2.2.2.2.2.2.2.2.2.2.2.2.1, q1.2.2.2.2.2.2.2.2.2.2.2.2.2.1, q1.2.2.2.2.2.2.2.2.2.2.2.2.2.2.1, q1.2.2.2.2.2.2.2.2.2.2.2.2.2.2.2))))))
set_option maxRecDepth 20000 in
set_option maxHeartbeats 4000000 in
theorem c_Forecast_leastHarmful_L8 {Z : zCtx} {D n0w nf mcw msw : Nat} (hZ : zOk Z zMX1_leastHarmful) (hR : zCan Z D mcw msw) (hDd : 6 ≤ D) (hN : zNew Z n0w nf) (hRm : zRoom Z 0 0) (N : Nat) : ∀ (fuel : Nat) (v0 : VForecast) (v1 : VTown) (v2 : VLaws) (v3 : VLots) (v4 : VLives) (v5 : VLives) (x1 : Int32) (x2 : Int32) (q : (Int32)), f_Forecast_leastHarmful_L8 N fuel v0 v1 v2 v3 v4 v5 x1 x2 = some q → (AW Z 0 0 48 [none, some (.int q), none] [] ([kForecast 0 5 19 22 30 v0, kTown 5 13 v1, kLaws 13 v2, kLots 19 v3, kLives 22 5 v4, kLives 30 5 v5] : List (List zE)).flatten) → AW Z 0 0 8 [some (.ref 0), some (.int x1), some (.int x2)] [] ([kForecast 0 5 19 22 30 v0, kTown 5 13 v1, kLaws 13 v2, kLots 19 v3, kLives 22 5 v4, kLives 30 5 v5] : List (List zE)).flatten := by
  intro fuel
  induction fuel with
  | zero =>
    intro v0 v1 v2 v3 v4 v5 x1 x2 q hf hk0
    simp [f_Forecast_leastHarmful_L8] at hf
  | succ fuel ih =>
    intro v0 v1 v2 v3 v4 v5 x1 x2 q hf hk0
    rw [f_Forecast_leastHarmful_L8] at hf
    refine AW.run hZ hRm [34, 48] 400 ?_
    show ((((Lots_count v3) ≤ x2) → AW Z 0 0 48 [some (.ref 0), some (.int x1), some (.int x2)] [] ([kForecast 0 5 19 22 30 v0, kTown 5 13 v1, kLaws 13 v2, kLots 19 v3, kLives 22 5 v4, kLives 30 5 v5] : List (List zE)).flatten) ∧ (¬ ((Lots_count v3) ≤ x2) → (((265 ≤ x2) → AW Z 0 0 48 [some (.ref 0), some (.int x1), some (.int x2)] [] ([kForecast 0 5 19 22 30 v0, kTown 5 13 v1, kLaws 13 v2, kLots 19 v3, kLives 22 5 v4, kLives 30 5 v5] : List (List zE)).flatten) ∧ (¬ (265 ≤ x2) → (¬ (x2 < 0 ∨ 265 ≤ Int32.toNatClampNeg x2) ∧ AW Z 0 0 34 [some (.ref 0), some (.int x1), some (.int x2)] [.int x1, .ref 0, .int ((Forecast_harms v0) (Int32.toNatClampNeg x2))] ([kForecast 0 5 19 22 30 v0, kTown 5 13 v1, kLaws 13 v2, kLots 19 v3, kLives 22 5 v4, kLives 30 5 v5] : List (List zE)).flatten)))))
    refine ⟨fun c2 => ?_, fun c2 => ?_⟩
    · rw [if_pos c2] at hf
      cases hf
      refine AW.forget [false, true, false] ?_
      show AW Z 0 0 48 [none, some (.int x1), none] [] ([kForecast 0 5 19 22 30 v0, kTown 5 13 v1, kLaws 13 v2, kLots 19 v3, kLives 22 5 v4, kLives 30 5 v5] : List (List zE)).flatten
      exact hk0
    · rw [if_neg c2] at hf
      refine ⟨fun c3 => ?_, fun c3 => ?_⟩
      · rw [if_pos c3] at hf
        cases hf
        refine AW.forget [false, true, false] ?_
        show AW Z 0 0 48 [none, some (.int x1), none] [] ([kForecast 0 5 19 22 30 v0, kTown 5 13 v1, kLaws 13 v2, kLots 19 v3, kLives 22 5 v4, kLives 30 5 v5] : List (List zE)).flatten
        exact hk0
      · rw [if_neg c3] at hf
        obtain ⟨b9, hf⟩ := zneed hf
        refine ⟨b9, ?_⟩
        obtain ⟨q4, h8, hf⟩ := zbind hf
        refine AW.callVc hZ hR hN (c_Forecast_harmBy N v0 v1 v2 v3 v4 v5 x1 q4 h8) zMX1_harmBy_ok rfl rfl zK_BorrowedLives_Forecast_107 zV_X1_harmBy rfl [5, 8, 6, 3, 8, 8] [0, 1, 2, 3, 4, 5] [0, 1, 2, 3, 4, 5, 6, 7, 8, 9, 10, 11, 12, 13, 14, 15, 16, 17, 18, 19, 20, 21, 22, 23, 24, 25, 26, 27, 28, 29, 30, 31, 32, 33, 34, 35, 36, 37] rfl rfl rfl (by decide) (by decide) (by omega) (by decide) (Nat.zero_le _) (Nat.zero_le _) rfl rfl rfl rfl rfl ?_
        rintro v cc ⟨rfl, rfl⟩
        refine ⟨_, rfl, rfl, ?_⟩
        show AW Z 0 0 37 [some (.ref 0), some (.int x1), some (.int x2)] [.int q4, .int ((Forecast_harms v0) (Int32.toNatClampNeg x2))] ([kForecast 0 5 19 22 30 v0, kTown 5 13 v1, kLaws 13 v2, kLots 19 v3, kLives 22 5 v4, kLives 30 5 v5] : List (List zE)).flatten
        suffices H5 : AW Z 0 0 42 [some (.ref 0), some (.int (if (q4 ≤ ((Forecast_harms v0) (Int32.toNatClampNeg x2))) then x1 else x2)), some (.int x2)] [] ([kForecast 0 5 19 22 30 v0, kTown 5 13 v1, kLaws 13 v2, kLots 19 v3, kLives 22 5 v4, kLives 30 5 v5] : List (List zE)).flatten from by
          refine AW.run hZ hRm [42] 400 ?_
          show (((q4 ≤ ((Forecast_harms v0) (Int32.toNatClampNeg x2))) → AW Z 0 0 42 [some (.ref 0), some (.int x1), some (.int x2)] [] ([kForecast 0 5 19 22 30 v0, kTown 5 13 v1, kLaws 13 v2, kLots 19 v3, kLives 22 5 v4, kLives 30 5 v5] : List (List zE)).flatten) ∧ (¬ (q4 ≤ ((Forecast_harms v0) (Int32.toNatClampNeg x2))) → AW Z 0 0 42 [some (.ref 0), some (.int x2), some (.int x2)] [] ([kForecast 0 5 19 22 30 v0, kTown 5 13 v1, kLaws 13 v2, kLots 19 v3, kLives 22 5 v4, kLives 30 5 v5] : List (List zE)).flatten))
          refine ⟨fun c6 => ?_, fun c6 => ?_⟩
          · simpa only [if_pos c6] using H5
          · simpa only [if_neg c6] using H5
        replace hf := zlet_gen hf
        generalize ((if (q4 ≤ ((Forecast_harms v0) (Int32.toNatClampNeg x2))) then x1 else x2) : Int32) = z7 at hf ⊢
        refine AW.run hZ hRm [8] 400 ?_
        show AW Z 0 0 8 [some (.ref 0), some (.int z7), some (.int (x2 + 1))] [] ([kForecast 0 5 19 22 30 v0, kTown 5 13 v1, kLaws 13 v2, kLots 19 v3, kLives 22 5 v4, kLives 30 5 v5] : List (List zE)).flatten
        exact ih v0 v1 v2 v3 v4 v5 z7 (x2 + 1) q hf hk0
set_option maxRecDepth 20000 in
set_option maxHeartbeats 4000000 in
theorem c_Forecast_leastHarmful (N : Nat) (v0 : VForecast) (v1 : VTown) (v2 : VLaws) (v3 : VLots) (v4 : VLives) (v5 : VLives) (R : Int32 × Int32 × (Nat → Int32) × (Nat → Int32) × (Nat → Int32) × (Nat → Int32) × (Nat → Int32) × (Nat → Int32) × (Nat → Int32) × (Nat → Int32) × (Nat → Int32) × (Nat → Int32) × (Nat → Int32) × Int32 × Int32 × Int32 × Int32) (hf : f_Forecast_leastHarmful N v0 v1 v2 v3 v4 v5 = some R) : Ct zMX1_leastHarmful 6 0 0 0 [.ref 0] ([kForecast 0 5 19 22 30 v0, kTown 5 13 v1, kLaws 13 v2, kLots 19 v3, kLives 22 5 v4, kLives 30 5 v5] : List (List zE)).flatten (fun v cc => v = some (.int R.1) ∧ cc = ([kForecast 0 5 19 22 30 (Forecast_s_ready_held_harms v0 R.2.1 R.2.2.1 R.2.2.2.1), kTown 5 13 v1, kLaws 13 (Laws_s_facts_stack v2 R.2.2.2.2.1 R.2.2.2.2.2.1), kLots 19 v3, kLives 22 5 v4, kLives 30 5 (Lives_s_purse_debt_home_hidden_self_worthThen_homeThen_away_days_homes_harm v5 R.2.2.2.2.2.2.1 R.2.2.2.2.2.2.2.1 R.2.2.2.2.2.2.2.2.1 R.2.2.2.2.2.2.2.2.2.1 R.2.2.2.2.2.2.2.2.2.2.1 R.2.2.2.2.2.2.2.2.2.2.2.1 R.2.2.2.2.2.2.2.2.2.2.2.2.1 R.2.2.2.2.2.2.2.2.2.2.2.2.2.1 R.2.2.2.2.2.2.2.2.2.2.2.2.2.2.1 R.2.2.2.2.2.2.2.2.2.2.2.2.2.2.2.1 R.2.2.2.2.2.2.2.2.2.2.2.2.2.2.2.2)] : List (List zE)).flatten) := by
  refine Ct.of zMX1_leastHarmful_ok (by decide) (Nat.le_of_ble_eq_true rfl) ?_
  intro Z hZ hR hN hE
  have hRm : zRoom Z 0 0 := zRoom0 Z
  unfold f_Forecast_leastHarmful at hf
  show AW Z 0 0 0 [some (.ref 0), none, none] [] ([kForecast 0 5 19 22 30 v0, kTown 5 13 v1, kLaws 13 v2, kLots 19 v3, kLives 22 5 v4, kLives 30 5 v5] : List (List zE)).flatten
  refine AW.run hZ hRm [1] 400 ?_
  show AW Z 0 0 1 [some (.ref 0), none, none] [.ref 0] ([kForecast 0 5 19 22 30 v0, kTown 5 13 v1, kLaws 13 v2, kLots 19 v3, kLives 22 5 v4, kLives 30 5 v5] : List (List zE)).flatten
  obtain ⟨q1, h12, hf⟩ := zbind hf
  refine AW.callVc hZ hR hN (c_Forecast_foresee N v0 v1 v2 v3 v4 v5 q1 h12) zMX1_foresee_ok rfl rfl zK_BorrowedLives_Forecast_104 zV_X1_foresee rfl [5, 8, 6, 3, 8, 8] [0, 1, 2, 3, 4, 5] [0, 1, 2, 3, 4, 5, 6, 7, 8, 9, 10, 11, 12, 13, 14, 15, 16, 17, 18, 19, 20, 21, 22, 23, 24, 25, 26, 27, 28, 29, 30, 31, 32, 33, 34, 35, 36, 37] rfl rfl rfl (by decide) (by decide) (by omega) (by decide) (Nat.zero_le _) (Nat.zero_le _) rfl rfl rfl rfl rfl ?_
  rintro v cc ⟨rfl, rfl⟩
  refine ⟨_, rfl, rfl, ?_⟩
  show AW Z 0 0 4 [some (.ref 0), none, none] [] ([kForecast 0 5 19 22 30 (Forecast_s_ready_held_harms v0 q1.1 q1.2.1 q1.2.2.1), kTown 5 13 v1, kLaws 13 (Laws_s_facts_stack v2 q1.2.2.2.1 q1.2.2.2.2.1), kLots 19 v3, kLives 22 5 v4, kLives 30 5 (Lives_s_purse_debt_home_hidden_self_worthThen_homeThen_away_days_homes_harm v5 q1.2.2.2.2.2.1 q1.2.2.2.2.2.2.1 q1.2.2.2.2.2.2.2.1 q1.2.2.2.2.2.2.2.2.1 q1.2.2.2.2.2.2.2.2.2.1 q1.2.2.2.2.2.2.2.2.2.2.1 q1.2.2.2.2.2.2.2.2.2.2.2.1 q1.2.2.2.2.2.2.2.2.2.2.2.2.1 q1.2.2.2.2.2.2.2.2.2.2.2.2.2.1 q1.2.2.2.2.2.2.2.2.2.2.2.2.2.2.1 q1.2.2.2.2.2.2.2.2.2.2.2.2.2.2.2)] : List (List zE)).flatten
  refine AW.run hZ hRm [8] 400 ?_
  show AW Z 0 0 8 [some (.ref 0), some (.int 0), some (.int 1)] [] ([kForecast 0 5 19 22 30 (Forecast_s_ready_held_harms v0 q1.1 q1.2.1 q1.2.2.1), kTown 5 13 v1, kLaws 13 (Laws_s_facts_stack v2 q1.2.2.2.1 q1.2.2.2.2.1), kLots 19 v3, kLives 22 5 v4, kLives 30 5 (Lives_s_purse_debt_home_hidden_self_worthThen_homeThen_away_days_homes_harm v5 q1.2.2.2.2.2.1 q1.2.2.2.2.2.2.1 q1.2.2.2.2.2.2.2.1 q1.2.2.2.2.2.2.2.2.1 q1.2.2.2.2.2.2.2.2.2.1 q1.2.2.2.2.2.2.2.2.2.2.1 q1.2.2.2.2.2.2.2.2.2.2.2.1 q1.2.2.2.2.2.2.2.2.2.2.2.2.1 q1.2.2.2.2.2.2.2.2.2.2.2.2.2.1 q1.2.2.2.2.2.2.2.2.2.2.2.2.2.2.1 q1.2.2.2.2.2.2.2.2.2.2.2.2.2.2.2)] : List (List zE)).flatten
  obtain ⟨q10, h11, hf⟩ := zbind hf
  refine c_Forecast_leastHarmful_L8 hZ hR (by omega) hN hRm N N (Forecast_s_ready_held_harms v0 q1.1 q1.2.1 q1.2.2.1) v1 (Laws_s_facts_stack v2 q1.2.2.2.1 q1.2.2.2.2.1) v3 v4 (Lives_s_purse_debt_home_hidden_self_worthThen_homeThen_away_days_homes_harm v5 q1.2.2.2.2.2.1 q1.2.2.2.2.2.2.1 q1.2.2.2.2.2.2.2.1 q1.2.2.2.2.2.2.2.2.1 q1.2.2.2.2.2.2.2.2.2.1 q1.2.2.2.2.2.2.2.2.2.2.1 q1.2.2.2.2.2.2.2.2.2.2.2.1 q1.2.2.2.2.2.2.2.2.2.2.2.2.1 q1.2.2.2.2.2.2.2.2.2.2.2.2.2.1 q1.2.2.2.2.2.2.2.2.2.2.2.2.2.2.1 q1.2.2.2.2.2.2.2.2.2.2.2.2.2.2.2) 0 1 q10 h11 ?_
  show AW Z 0 0 48 [none, some (.int q10), none] [] ([kForecast 0 5 19 22 30 (Forecast_s_ready_held_harms v0 q1.1 q1.2.1 q1.2.2.1), kTown 5 13 v1, kLaws 13 (Laws_s_facts_stack v2 q1.2.2.2.1 q1.2.2.2.2.1), kLots 19 v3, kLives 22 5 v4, kLives 30 5 (Lives_s_purse_debt_home_hidden_self_worthThen_homeThen_away_days_homes_harm v5 q1.2.2.2.2.2.1 q1.2.2.2.2.2.2.1 q1.2.2.2.2.2.2.2.1 q1.2.2.2.2.2.2.2.2.1 q1.2.2.2.2.2.2.2.2.2.1 q1.2.2.2.2.2.2.2.2.2.2.1 q1.2.2.2.2.2.2.2.2.2.2.2.1 q1.2.2.2.2.2.2.2.2.2.2.2.2.1 q1.2.2.2.2.2.2.2.2.2.2.2.2.2.1 q1.2.2.2.2.2.2.2.2.2.2.2.2.2.2.1 q1.2.2.2.2.2.2.2.2.2.2.2.2.2.2.2)] : List (List zE)).flatten
  refine AW.run hZ hRm [49] 400 ?_
  show AW Z 0 0 49 [none, some (.int q10), none] [.int q10] ([kForecast 0 5 19 22 30 (Forecast_s_ready_held_harms v0 q1.1 q1.2.1 q1.2.2.1), kTown 5 13 v1, kLaws 13 (Laws_s_facts_stack v2 q1.2.2.2.1 q1.2.2.2.2.1), kLots 19 v3, kLives 22 5 v4, kLives 30 5 (Lives_s_purse_debt_home_hidden_self_worthThen_homeThen_away_days_homes_harm v5 q1.2.2.2.2.2.1 q1.2.2.2.2.2.2.1 q1.2.2.2.2.2.2.2.1 q1.2.2.2.2.2.2.2.2.1 q1.2.2.2.2.2.2.2.2.2.1 q1.2.2.2.2.2.2.2.2.2.2.1 q1.2.2.2.2.2.2.2.2.2.2.2.1 q1.2.2.2.2.2.2.2.2.2.2.2.2.1 q1.2.2.2.2.2.2.2.2.2.2.2.2.2.1 q1.2.2.2.2.2.2.2.2.2.2.2.2.2.2.1 q1.2.2.2.2.2.2.2.2.2.2.2.2.2.2.2)] : List (List zE)).flatten
  cases hf
  exact AW.iret hZ hE rfl rfl rfl rfl (Nat.le_refl 0) (Nat.le_refl 0) rfl ⟨rfl, rfl⟩
