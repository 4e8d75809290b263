def f_Forecast_mostAlike_L5 (N : Nat) : Nat → VForecast → VTown → VLaws → VLots → VLives → VLives → Int32 → Int32 → Int32 → Int32 → (Nat → Int32) → Option (Int32 × (Nat → Int32))
  | 0, _, _, _, _, _, _, _, _, _, _, _ => none
  | fuel + 1, v0, v1, v2, v3, v4, v5, y1, y2, x3, x4, m_tally0 => (if ((Lots_count v3) ≤ x4) then (some (x3, m_tally0)) else (if (265 ≤ x4) then (some (x3, m_tally0)) else ((f_Forecast_heldBy N (Forecast_tally_s v0 m_tally0) v1 v2 v3 v4 v5 x4 y1 y2).bind (fun q3 => (if (x4 < 0 ∨ 265 ≤ Int32.toNatClampNeg x4) then none else (if (((Forecast_fitting v0) (Int32.toNatClampNeg x4)) = 0) then (f_Forecast_mostAlike_L5 N fuel v0 v1 v2 v3 v4 v5 y1 y2 x3 (x4 + 1) m_tally0) else (if (q3 < 0) then (f_Forecast_mostAlike_L5 N fuel v0 v1 v2 v3 v4 v5 y1 y2 x3 (x4 + 1) m_tally0) else (if (10000 ≤ q3) then (f_Forecast_mostAlike_L5 N fuel v0 v1 v2 v3 v4 v5 y1 y2 x3 (x4 + 1) m_tally0) else (if (q3 < 0 ∨ 10000 ≤ Int32.toNatClampNeg q3) then none else (if (q3 < 0 ∨ 10000 ≤ Int32.toNatClampNeg q3) then none else (if (q3 < 0 ∨ 10000 ≤ Int32.toNatClampNeg q3) then none else (f_Forecast_mostAlike_L5 N fuel v0 v1 v2 v3 v4 v5 y1 y2 (if x3 < ((upd m_tally0 (Int32.toNatClampNeg q3) ((m_tally0 (Int32.toNatClampNeg q3)) + 1)) (Int32.toNatClampNeg q3)) then ((upd m_tally0 (Int32.toNatClampNeg q3) ((m_tally0 (Int32.toNatClampNeg q3)) + 1)) (Int32.toNatClampNeg q3)) else x3) (x4 + 1) (upd m_tally0 (Int32.toNatClampNeg q3) ((m_tally0 (Int32.toNatClampNeg q3)) + 1))))))))))))))
def f_Forecast_mostAlike_L92 (N : Nat) : Nat → VForecast → VTown → VLaws → VLots → VLives → VLives → Int32 → Int32 → Int32 → Int32 → (Nat → Int32) → Option ((Nat → Int32))
  | 0, _, _, _, _, _, _, _, _, _, _, _ => none
  | fuel + 1, v0, v1, v2, v3, v4, v5, y1, y2, y3, x4, m_tally0 => (if ((Lots_count v3) ≤ x4) then (some m_tally0) else (if (265 ≤ x4) then (some m_tally0) else ((f_Forecast_heldBy N (Forecast_tally_s v0 m_tally0) v1 v2 v3 v4 v5 x4 y1 y2).bind (fun q16 => (if (q16 < 0) then (f_Forecast_mostAlike_L92 N fuel v0 v1 v2 v3 v4 v5 y1 y2 y3 (x4 + 1) m_tally0) else (if (10000 ≤ q16) then (f_Forecast_mostAlike_L92 N fuel v0 v1 v2 v3 v4 v5 y1 y2 y3 (x4 + 1) m_tally0) else (if (q16 < 0 ∨ 10000 ≤ Int32.toNatClampNeg q16) then none else (f_Forecast_mostAlike_L92 N fuel v0 v1 v2 v3 v4 v5 y1 y2 y3 (x4 + 1) (upd m_tally0 (Int32.toNatClampNeg q16) 0)))))))))
def f_Forecast_mostAlike (N : Nat) (v0 : VForecast) (v1 : VTown) (v2 : VLaws) (v3 : VLots) (v4 : VLives) (v5 : VLives) (a1 : Int32) (a2 : Int32) : Option (Int32 × (Nat → Int32)) := ((f_Forecast_mostAlike_L5 N N v0 v1 v2 v3 v4 v5 a1 a2 0 0 (Forecast_tally v0)).bind (fun q12 => ((f_Forecast_mostAlike_L92 N N (Forecast_tally_s v0 q12.2) v1 v2 v3 v4 v5 a1 a2 q12.1 0 q12.2).bind (fun q21 => (some (q12.1, q21))))))
set_option maxRecDepth 20000 in
set_option maxHeartbeats 4000000 in
theorem c_Forecast_mostAlike_L5 {Z : zCtx} {D n0w nf mcw msw : Nat} (hZ : zOk Z zMX1_mostAlike) (hR : zCan Z D mcw msw) (hDd : 2 ≤ D) (hN : zNew Z n0w nf) (hRm : zRoom Z 0 0) (N : Nat) : ∀ (fuel : Nat) (v0 : VForecast) (v1 : VTown) (v2 : VLaws) (v3 : VLots) (v4 : VLives) (v5 : VLives) (y1 : Int32) (y2 : Int32) (x3 : Int32) (x4 : Int32) (m_tally0 : (Nat → Int32)) (q : (Int32 × (Nat → Int32))), f_Forecast_mostAlike_L5 N fuel v0 v1 v2 v3 v4 v5 y1 y2 x3 x4 m_tally0 = some q → (AW Z 0 0 89 [some (.ref 0), some (.int y1), some (.int y2), some (.int q.1), none, none] [] ([kForecast 0 5 19 22 30 (Forecast_tally_s v0 q.2), kTown 5 13 v1, kLaws 13 v2, kLots 19 v3, kLives 22 5 v4, kLives 30 5 v5] : List (List zE)).flatten) → AW Z 0 0 5 [some (.ref 0), some (.int y1), some (.int y2), some (.int x3), some (.int x4), none] [] ([kForecast 0 5 19 22 30 (Forecast_tally_s v0 m_tally0), kTown 5 13 v1, kLaws 13 v2, kLots 19 v3, kLives 22 5 v4, kLives 30 5 v5] : List (List zE)).flatten := by
  intro fuel
  induction fuel with
  | zero =>
    intro v0 v1 v2 v3 v4 v5 y1 y2 x3 x4 m_tally0 q hf hk0
    simp [f_Forecast_mostAlike_L5] at hf
  | succ fuel ih =>
    intro v0 v1 v2 v3 v4 v5 y1 y2 x3 x4 m_tally0 q hf hk0
    rw [f_Forecast_mostAlike_L5] at hf
    refine AW.run hZ hRm [30, 89] 400 ?_
    show ((((Lots_count v3) ≤ x4) → AW Z 0 0 89 [some (.ref 0), some (.int y1), some (.int y2), some (.int x3), some (.int x4), none] [] ([kForecast 0 5 19 22 30 (Forecast_tally_s v0 m_tally0), kTown 5 13 v1, kLaws 13 v2, kLots 19 v3, kLives 22 5 v4, kLives 30 5 v5] : List (List zE)).flatten) ∧ (¬ ((Lots_count v3) ≤ x4) → (((265 ≤ x4) → AW Z 0 0 89 [some (.ref 0), some (.int y1), some (.int y2), some (.int x3), some (.int x4), none] [] ([kForecast 0 5 19 22 30 (Forecast_tally_s v0 m_tally0), kTown 5 13 v1, kLaws 13 v2, kLots 19 v3, kLives 22 5 v4, kLives 30 5 v5] : List (List zE)).flatten) ∧ (¬ (265 ≤ x4) → AW Z 0 0 30 [some (.ref 0), some (.int y1), some (.int y2), some (.int x3), some (.int x4), none] [.int y2, .int y1, .int x4, .ref 0] ([kForecast 0 5 19 22 30 (Forecast_tally_s v0 m_tally0), kTown 5 13 v1, kLaws 13 v2, kLots 19 v3, kLives 22 5 v4, kLives 30 5 v5] : List (List zE)).flatten))))
    refine ⟨fun c1 => ?_, fun c1 => ?_⟩
    · rw [if_pos c1] at hf
      cases hf
      refine AW.forget [true, true, true, true, false, false] ?_
      show AW Z 0 0 89 [some (.ref 0), some (.int y1), some (.int y2), some (.int x3), none, none] [] ([kForecast 0 5 19 22 30 (Forecast_tally_s v0 m_tally0), kTown 5 13 v1, kLaws 13 v2, kLots 19 v3, kLives 22 5 v4, kLives 30 5 v5] : List (List zE)).flatten
      exact hk0
    · rw [if_neg c1] at hf
      refine ⟨fun c2 => ?_, fun c2 => ?_⟩
      · rw [if_pos c2] at hf
        cases hf
        refine AW.forget [true, true, true, true, false, false] ?_
        show AW Z 0 0 89 [some (.ref 0), some (.int y1), some (.int y2), some (.int x3), none, none] [] ([kForecast 0 5 19 22 30 (Forecast_tally_s v0 m_tally0), kTown 5 13 v1, kLaws 13 v2, kLots 19 v3, kLives 22 5 v4, kLives 30 5 v5] : List (List zE)).flatten
        exact hk0
      · rw [if_neg c2] at hf
        obtain ⟨q3, h11, hf⟩ := zbind hf
        refine AW.callVc hZ hR hN (c_Forecast_heldBy N (Forecast_tally_s v0 m_tally0) v1 v2 v3 v4 v5 x4 y1 y2 q3 h11) zMX1_heldBy_ok rfl rfl zK_BorrowedLives_Forecast_140 zV_X1_heldBy rfl [5, 8, 6, 3, 8, 8] [0, 1, 2, 3, 4, 5] [0, 1, 2, 3, 4, 5, 6, 7, 8, 9, 10, 11, 12, 13, 14, 15, 16, 17, 18, 19, 20, 21, 22, 23, 24, 25, 26, 27, 28, 29, 30, 31, 32, 33, 34, 35, 36, 37] rfl rfl rfl (by decide) (by decide) (by omega) (by decide) (Nat.zero_le _) (Nat.zero_le _) rfl rfl rfl rfl rfl ?_
        rintro v cc ⟨rfl, rfl⟩
        refine ⟨_, rfl, rfl, ?_⟩
        show AW Z 0 0 33 [some (.ref 0), some (.int y1), some (.int y2), some (.int x3), some (.int x4), none] [.int q3] ([kForecast 0 5 19 22 30 (Forecast_tally_s v0 m_tally0), kTown 5 13 v1, kLaws 13 v2, kLots 19 v3, kLives 22 5 v4, kLives 30 5 v5] : List (List zE)).flatten
        refine AW.run hZ hRm [5] 400 ?_
        show (¬ (x4 < 0 ∨ 265 ≤ Int32.toNatClampNeg x4) ∧ (((((Forecast_fitting v0) (Int32.toNatClampNeg x4)) = 0) → AW Z 0 0 5 [some (.ref 0), some (.int y1), some (.int y2), some (.int x3), some (.int (x4 + 1)), some (.int q3)] [] ([kForecast 0 5 19 22 30 (Forecast_tally_s v0 m_tally0), kTown 5 13 v1, kLaws 13 v2, kLots 19 v3, kLives 22 5 v4, kLives 30 5 v5] : List (List zE)).flatten) ∧ (¬ (((Forecast_fitting v0) (Int32.toNatClampNeg x4)) = 0) → (((q3 < 0) → AW Z 0 0 5 [some (.ref 0), some (.int y1), some (.int y2), some (.int x3), some (.int (x4 + 1)), some (.int q3)] [] ([kForecast 0 5 19 22 30 (Forecast_tally_s v0 m_tally0), kTown 5 13 v1, kLaws 13 v2, kLots 19 v3, kLives 22 5 v4, kLives 30 5 v5] : List (List zE)).flatten) ∧ (¬ (q3 < 0) → (((10000 ≤ q3) → AW Z 0 0 5 [some (.ref 0), some (.int y1), some (.int y2), some (.int x3), some (.int (x4 + 1)), some (.int q3)] [] ([kForecast 0 5 19 22 30 (Forecast_tally_s v0 m_tally0), kTown 5 13 v1, kLaws 13 v2, kLots 19 v3, kLives 22 5 v4, kLives 30 5 v5] : List (List zE)).flatten) ∧ (¬ (10000 ≤ q3) → (¬ (q3 < 0 ∨ 10000 ≤ Int32.toNatClampNeg q3) ∧ (¬ (q3 < 0 ∨ 10000 ≤ Int32.toNatClampNeg q3) ∧ (¬ (q3 < 0 ∨ 10000 ≤ Int32.toNatClampNeg q3) ∧ AW Z 0 0 5 [some (.ref 0), some (.int y1), some (.int y2), some (.int (if x3 < ((upd m_tally0 (Int32.toNatClampNeg q3) ((m_tally0 (Int32.toNatClampNeg q3)) + 1)) (Int32.toNatClampNeg q3)) then ((upd m_tally0 (Int32.toNatClampNeg q3) ((m_tally0 (Int32.toNatClampNeg q3)) + 1)) (Int32.toNatClampNeg q3)) else x3)), some (.int (x4 + 1)), some (.int q3)] [] ([kForecast 0 5 19 22 30 (Forecast_tally_s v0 (upd m_tally0 (Int32.toNatClampNeg q3) ((m_tally0 (Int32.toNatClampNeg q3)) + 1))), kTown 5 13 v1, kLaws 13 v2, kLots 19 v3, kLives 22 5 v4, kLives 30 5 v5] : List (List zE)).flatten))))))))))
        obtain ⟨b10, hf⟩ := zneed hf
        refine ⟨b10, ?_⟩
        refine ⟨fun c4 => ?_, fun c4 => ?_⟩
        · rw [if_pos c4] at hf
          refine AW.forget [true, true, true, true, true, false] ?_
          show AW Z 0 0 5 [some (.ref 0), some (.int y1), some (.int y2), some (.int x3), some (.int (x4 + 1)), none] [] ([kForecast 0 5 19 22 30 (Forecast_tally_s v0 m_tally0), kTown 5 13 v1, kLaws 13 v2, kLots 19 v3, kLives 22 5 v4, kLives 30 5 v5] : List (List zE)).flatten
          exact ih v0 v1 v2 v3 v4 v5 y1 y2 x3 (x4 + 1) m_tally0 q hf hk0
        · rw [if_neg c4] at hf
          refine ⟨fun c5 => ?_, fun c5 => ?_⟩
          · rw [if_pos c5] at hf
            refine AW.forget [true, true, true, true, true, false] ?_
            show AW Z 0 0 5 [some (.ref 0), some (.int y1), some (.int y2), some (.int x3), some (.int (x4 + 1)), none] [] ([kForecast 0 5 19 22 30 (Forecast_tally_s v0 m_tally0), kTown 5 13 v1, kLaws 13 v2, kLots 19 v3, kLives 22 5 v4, kLives 30 5 v5] : List (List zE)).flatten
            exact ih v0 v1 v2 v3 v4 v5 y1 y2 x3 (x4 + 1) m_tally0 q hf hk0
          · rw [if_neg c5] at hf
            refine ⟨fun c6 => ?_, fun c6 => ?_⟩
            · rw [if_pos c6] at hf
              refine AW.forget [true, true, true, true, true, false] ?_
              show AW Z 0 0 5 [some (.ref 0), some (.int y1), some (.int y2), some (.int x3), some (.int (x4 + 1)), none] [] ([kForecast 0 5 19 22 30 (Forecast_tally_s v0 m_tally0), kTown 5 13 v1, kLaws 13 v2, kLots 19 v3, kLives 22 5 v4, kLives 30 5 v5] : List (List zE)).flatten
              exact ih v0 v1 v2 v3 v4 v5 y1 y2 x3 (x4 + 1) m_tally0 q hf hk0
            · rw [if_neg c6] at hf
              obtain ⟨b9, hf⟩ := zneed hf
              refine ⟨b9, ?_⟩
              obtain ⟨b8, hf⟩ := zneed hf
              refine ⟨b8, ?_⟩
              obtain ⟨b7, hf⟩ := zneed hf
              refine ⟨b7, ?_⟩
              refine AW.forget [true, true, true, true, true, false] ?_
              show AW Z 0 0 5 [some (.ref 0), some (.int y1), some (.int y2), some (.int (if x3 < ((upd m_tally0 (Int32.toNatClampNeg q3) ((m_tally0 (Int32.toNatClampNeg q3)) + 1)) (Int32.toNatClampNeg q3)) then ((upd m_tally0 (Int32.toNatClampNeg q3) ((m_tally0 (Int32.toNatClampNeg q3)) + 1)) (Int32.toNatClampNeg q3)) else x3)), some (.int (x4 + 1)), none] [] ([kForecast 0 5 19 22 30 (Forecast_tally_s v0 (upd m_tally0 (Int32.toNatClampNeg q3) ((m_tally0 (Int32.toNatClampNeg q3)) + 1))), kTown 5 13 v1, kLaws 13 v2, kLots 19 v3, kLives 22 5 v4, kLives 30 5 v5] : List (List zE)).flatten
              exact ih v0 v1 v2 v3 v4 v5 y1 y2 (if x3 < ((upd m_tally0 (Int32.toNatClampNeg q3) ((m_tally0 (Int32.toNatClampNeg q3)) + 1)) (Int32.toNatClampNeg q3)) then ((upd m_tally0 (Int32.toNatClampNeg q3) ((m_tally0 (Int32.toNatClampNeg q3)) + 1)) (Int32.toNatClampNeg q3)) else x3) (x4 + 1) (upd m_tally0 (Int32.toNatClampNeg q3) ((m_tally0 (Int32.toNatClampNeg q3)) + 1)) q hf hk0
set_option maxRecDepth 20000 in
set_option maxHeartbeats 4000000 in
theorem c_Forecast_mostAlike_L92 {Z : zCtx} {D n0w nf mcw msw : Nat} (hZ : zOk Z zMX1_mostAlike) (hR : zCan Z D mcw msw) (hDd : 2 ≤ D) (hN : zNew Z n0w nf) (hRm : zRoom Z 0 0) (N : Nat) : ∀ (fuel : Nat) (v0 : VForecast) (v1 : VTown) (v2 : VLaws) (v3 : VLots) (v4 : VLives) (v5 : VLives) (y1 : Int32) (y2 : Int32) (y3 : Int32) (x4 : Int32) (m_tally0 : (Nat → Int32)) (q : ((Nat → Int32))), f_Forecast_mostAlike_L92 N fuel v0 v1 v2 v3 v4 v5 y1 y2 y3 x4 m_tally0 = some q → (AW Z 0 0 151 [none, none, none, some (.int y3), none, none] [] ([kForecast 0 5 19 22 30 (Forecast_tally_s v0 q), kTown 5 13 v1, kLaws 13 v2, kLots 19 v3, kLives 22 5 v4, kLives 30 5 v5] : List (List zE)).flatten) → AW Z 0 0 92 [some (.ref 0), some (.int y1), some (.int y2), some (.int y3), some (.int x4), none] [] ([kForecast 0 5 19 22 30 (Forecast_tally_s v0 m_tally0), kTown 5 13 v1, kLaws 13 v2, kLots 19 v3, kLives 22 5 v4, kLives 30 5 v5] : List (List zE)).flatten := by
  intro fuel
  induction fuel with
  | zero =>
    intro v0 v1 v2 v3 v4 v5 y1 y2 y3 x4 m_tally0 q hf hk0
    simp [f_Forecast_mostAlike_L92] at hf
  | succ fuel ih =>
    intro v0 v1 v2 v3 v4 v5 y1 y2 y3 x4 m_tally0 q hf hk0
    rw [f_Forecast_mostAlike_L92] at hf
    refine AW.run hZ hRm [117, 151] 400 ?_
    show ((((Lots_count v3) ≤ x4) → AW Z 0 0 151 [some (.ref 0), some (.int y1), some (.int y2), some (.int y3), some (.int x4), none] [] ([kForecast 0 5 19 22 30 (Forecast_tally_s v0 m_tally0), kTown 5 13 v1, kLaws 13 v2, kLots 19 v3, kLives 22 5 v4, kLives 30 5 v5] : List (List zE)).flatten) ∧ (¬ ((Lots_count v3) ≤ x4) → (((265 ≤ x4) → AW Z 0 0 151 [some (.ref 0), some (.int y1), some (.int y2), some (.int y3), some (.int x4), none] [] ([kForecast 0 5 19 22 30 (Forecast_tally_s v0 m_tally0), kTown 5 13 v1, kLaws 13 v2, kLots 19 v3, kLives 22 5 v4, kLives 30 5 v5] : List (List zE)).flatten) ∧ (¬ (265 ≤ x4) → AW Z 0 0 117 [some (.ref 0), some (.int y1), some (.int y2), some (.int y3), some (.int x4), none] [.int y2, .int y1, .int x4, .ref 0] ([kForecast 0 5 19 22 30 (Forecast_tally_s v0 m_tally0), kTown 5 13 v1, kLaws 13 v2, kLots 19 v3, kLives 22 5 v4, kLives 30 5 v5] : List (List zE)).flatten))))
    refine ⟨fun c14 => ?_, fun c14 => ?_⟩
    · rw [if_pos c14] at hf
      cases hf
      refine AW.forget [false, false, false, true, false, false] ?_
      show AW Z 0 0 151 [none, none, none, some (.int y3), none, none] [] ([kForecast 0 5 19 22 30 (Forecast_tally_s v0 m_tally0), kTown 5 13 v1, kLaws 13 v2, kLots 19 v3, kLives 22 5 v4, kLives 30 5 v5] : List (List zE)).flatten
      exact hk0
    · rw [if_neg c14] at hf
      refine ⟨fun c15 => ?_, fun c15 => ?_⟩
      · rw [if_pos c15] at hf
        cases hf
        refine AW.forget [false, false, false, true, false, false] ?_
        show AW Z 0 0 151 [none, none, none, some (.int y3), none, none] [] ([kForecast 0 5 19 22 30 (Forecast_tally_s v0 m_tally0), kTown 5 13 v1, kLaws 13 v2, kLots 19 v3, kLives 22 5 v4, kLives 30 5 v5] : List (List zE)).flatten
        exact hk0
      · rw [if_neg c15] at hf
        obtain ⟨q16, h20, hf⟩ := zbind hf
        refine AW.callVc hZ hR hN (c_Forecast_heldBy N (Forecast_tally_s v0 m_tally0) v1 v2 v3 v4 v5 x4 y1 y2 q16 h20) zMX1_heldBy_ok rfl rfl zK_BorrowedLives_Forecast_140 zV_X1_heldBy rfl [5, 8, 6, 3, 8, 8] [0, 1, 2, 3, 4, 5] [0, 1, 2, 3, 4, 5, 6, 7, 8, 9, 10, 11, 12, 13, 14, 15, 16, 17, 18, 19, 20, 21, 22, 23, 24, 25, 26, 27, 28, 29, 30, 31, 32, 33, 34, 35, 36, 37] rfl rfl rfl (by decide) (by decide) (by omega) (by decide) (Nat.zero_le _) (Nat.zero_le _) rfl rfl rfl rfl rfl ?_
        rintro v cc ⟨rfl, rfl⟩
        refine ⟨_, rfl, rfl, ?_⟩
        show AW Z 0 0 120 [some (.ref 0), some (.int y1), some (.int y2), some (.int y3), some (.int x4), none] [.int q16] ([kForecast 0 5 19 22 30 (Forecast_tally_s v0 m_tally0), kTown 5 13 v1, kLaws 13 v2, kLots 19 v3, kLives 22 5 v4, kLives 30 5 v5] : List (List zE)).flatten
        refine AW.run hZ hRm [92] 400 ?_
        show (((q16 < 0) → AW Z 0 0 92 [some (.ref 0), some (.int y1), some (.int y2), some (.int y3), some (.int (x4 + 1)), some (.int q16)] [] ([kForecast 0 5 19 22 30 (Forecast_tally_s v0 m_tally0), kTown 5 13 v1, kLaws 13 v2, kLots 19 v3, kLives 22 5 v4, kLives 30 5 v5] : List (List zE)).flatten) ∧ (¬ (q16 < 0) → (((10000 ≤ q16) → AW Z 0 0 92 [some (.ref 0), some (.int y1), some (.int y2), some (.int y3), some (.int (x4 + 1)), some (.int q16)] [] ([kForecast 0 5 19 22 30 (Forecast_tally_s v0 m_tally0), kTown 5 13 v1, kLaws 13 v2, kLots 19 v3, kLives 22 5 v4, kLives 30 5 v5] : List (List zE)).flatten) ∧ (¬ (10000 ≤ q16) → (¬ (q16 < 0 ∨ 10000 ≤ Int32.toNatClampNeg q16) ∧ AW Z 0 0 92 [some (.ref 0), some (.int y1), some (.int y2), some (.int y3), some (.int (x4 + 1)), some (.int q16)] [] ([kForecast 0 5 19 22 30 (Forecast_tally_s v0 (upd m_tally0 (Int32.toNatClampNeg q16) 0)), kTown 5 13 v1, kLaws 13 v2, kLots 19 v3, kLives 22 5 v4, kLives 30 5 v5] : List (List zE)).flatten)))))
        refine ⟨fun c17 => ?_, fun c17 => ?_⟩
        · rw [if_pos c17] at hf
          refine AW.forget [true, true, true, true, true, false] ?_
          show AW Z 0 0 92 [some (.ref 0), some (.int y1), some (.int y2), some (.int y3), some (.int (x4 + 1)), none] [] ([kForecast 0 5 19 22 30 (Forecast_tally_s v0 m_tally0), kTown 5 13 v1, kLaws 13 v2, kLots 19 v3, kLives 22 5 v4, kLives 30 5 v5] : List (List zE)).flatten
          exact ih v0 v1 v2 v3 v4 v5 y1 y2 y3 (x4 + 1) m_tally0 q hf hk0
        · rw [if_neg c17] at hf
          refine ⟨fun c18 => ?_, fun c18 => ?_⟩
          · rw [if_pos c18] at hf
            refine AW.forget [true, true, true, true, true, false] ?_
            show AW Z 0 0 92 [some (.ref 0), some (.int y1), some (.int y2), some (.int y3), some (.int (x4 + 1)), none] [] ([kForecast 0 5 19 22 30 (Forecast_tally_s v0 m_tally0), kTown 5 13 v1, kLaws 13 v2, kLots 19 v3, kLives 22 5 v4, kLives 30 5 v5] : List (List zE)).flatten
            exact ih v0 v1 v2 v3 v4 v5 y1 y2 y3 (x4 + 1) m_tally0 q hf hk0
          · rw [if_neg c18] at hf
            obtain ⟨b19, hf⟩ := zneed hf
            refine ⟨b19, ?_⟩
            refine AW.forget [true, true, true, true, true, false] ?_
            show AW Z 0 0 92 [some (.ref 0), some (.int y1), some (.int y2), some (.int y3), some (.int (x4 + 1)), none] [] ([kForecast 0 5 19 22 30 (Forecast_tally_s v0 (upd m_tally0 (Int32.toNatClampNeg q16) 0)), kTown 5 13 v1, kLaws 13 v2, kLots 19 v3, kLives 22 5 v4, kLives 30 5 v5] : List (List zE)).flatten
            exact ih v0 v1 v2 v3 v4 v5 y1 y2 y3 (x4 + 1) (upd m_tally0 (Int32.toNatClampNeg q16) 0) q hf hk0
set_option maxRecDepth 20000 in
set_option maxHeartbeats 4000000 in
theorem c_Forecast_mostAlike (N : Nat) (v0 : VForecast) (v1 : VTown) (v2 : VLaws) (v3 : VLots) (v4 : VLives) (v5 : VLives) (a1 : Int32) (a2 : Int32) (R : Int32 × (Nat → Int32)) (hf : f_Forecast_mostAlike N v0 v1 v2 v3 v4 v5 a1 a2 = some R) : Ct zMX1_mostAlike 2 0 0 0 [.ref 0, .int a1, .int a2] ([kForecast 0 5 19 22 30 v0, kTown 5 13 v1, kLaws 13 v2, kLots 19 v3, kLives 22 5 v4, kLives 30 5 v5] : List (List zE)).flatten (fun v cc => v = some (.int R.1) ∧ cc = ([kForecast 0 5 19 22 30 (Forecast_tally_s v0 R.2), kTown 5 13 v1, kLaws 13 v2, kLots 19 v3, kLives 22 5 v4, kLives 30 5 v5] : List (List zE)).flatten) := by
  refine Ct.of zMX1_mostAlike_ok (by decide) (Nat.le_of_ble_eq_true rfl) ?_
  intro Z hZ hR hN hE
  have hRm : zRoom Z 0 0 := zRoom0 Z
  unfold f_Forecast_mostAlike at hf
  show AW Z 0 0 0 [some (.ref 0), some (.int a1), some (.int a2), none, none, none] [] ([kForecast 0 5 19 22 30 v0, kTown 5 13 v1, kLaws 13 v2, kLots 19 v3, kLives 22 5 v4, kLives 30 5 v5] : List (List zE)).flatten
  refine AW.run hZ hRm [5] 400 ?_
  show AW Z 0 0 5 [some (.ref 0), some (.int a1), some (.int a2), some (.int 0), some (.int 0), none] [] ([kForecast 0 5 19 22 30 v0, kTown 5 13 v1, kLaws 13 v2, kLots 19 v3, kLives 22 5 v4, kLives 30 5 v5] : List (List zE)).flatten
  obtain ⟨q12, h13, hf⟩ := zbind hf
  refine c_Forecast_mostAlike_L5 hZ hR (by omega) hN hRm N N v0 v1 v2 v3 v4 v5 a1 a2 0 0 (Forecast_tally v0) q12 h13 ?_
  show AW Z 0 0 89 [some (.ref 0), some (.int a1), some (.int a2), some (.int q12.1), none, none] [] ([kForecast 0 5 19 22 30 (Forecast_tally_s v0 q12.2), kTown 5 13 v1, kLaws 13 v2, kLots 19 v3, kLives 22 5 v4, kLives 30 5 v5] : List (List zE)).flatten
  refine AW.run hZ hRm [92] 400 ?_
  show AW Z 0 0 92 [some (.ref 0), some (.int a1), some (.int a2), some (.int q12.1), some (.int 0), none] [] ([kForecast 0 5 19 22 30 (Forecast_tally_s v0 q12.2), kTown 5 13 v1, kLaws 13 v2, kLots 19 v3, kLives 22 5 v4, kLives 30 5 v5] : List (List zE)).flatten
  obtain ⟨q21, h22, hf⟩ := zbind hf
  refine c_Forecast_mostAlike_L92 hZ hR (by omega) hN hRm N N (Forecast_tally_s v0 q12.2) v1 v2 v3 v4 v5 a1 a2 q12.1 0 q12.2 q21 h22 ?_
  show AW Z 0 0 151 [none, none, none, some (.int q12.1), none, none] [] ([kForecast 0 5 19 22 30 (Forecast_tally_s v0 q21), kTown 5 13 v1, kLaws 13 v2, kLots 19 v3, kLives 22 5 v4, kLives 30 5 v5] : List (List zE)).flatten
  refine AW.run hZ hRm [152] 400 ?_
  show AW Z 0 0 152 [none, none, none, some (.int q12.1), none, none] [.int q12.1] ([kForecast 0 5 19 22 30 (Forecast_tally_s v0 q21), kTown 5 13 v1, kLaws 13 v2, kLots 19 v3, kLives 22 5 v4, kLives 30 5 v5] : List (List zE)).flatten
  cases hf
  exact AW.iret hZ hE rfl rfl rfl rfl (Nat.le_refl 0) (Nat.le_refl 0) rfl ⟨rfl, rfl⟩
def f_Forecast_bestQuestion_L22 (N : Nat) : Nat → VForecast → VTown → VLaws → VLots → VLives → VLives → Int32 → Int32 → Int32 → Int32 → (Nat → Int32) → Option (Int32 × Int32 × (Nat → Int32))
  | 0, _, _, _, _, _, _, _, _, _, _, _ => none
  | fuel + 1, v0, v1, v2, v3, v4, v5, y4, x2, x3, x5, m_tally0 => (if (7 < x5) then (some (x2, x3, m_tally0)) else ((f_Forecast_mostAlike N (Forecast_tally_s v0 m_tally0) v1 v2 v3 v4 v5 y4 x5).bind (fun q3 => (f_Forecast_bestQuestion_L22 N fuel v0 v1 v2 v3 v4 v5 y4 (if (x2 ≤ q3.1) then x2 else q3.1) (if (x2 ≤ q3.1) then x3 else ((y4 * 8) + x5)) (x5 + 1) q3.2))))
def f_Forecast_bestQuestion_L7 (N : Nat) : Nat → VForecast → VTown → VLaws → VLots → VLives → VLives → Int32 → Int32 → Int32 → (Nat → Int32) → Option (Int32 × (Nat → Int32))
  | 0, _, _, _, _, _, _, _, _, _, _ => none
  | fuel + 1, v0, v1, v2, v3, v4, v5, x2, x3, x4, m_tally0 => (if ((Town_people v1) ≤ x4) then (some (x3, m_tally0)) else ((f_Forecast_bestQuestion_L22 N N (Forecast_tally_s v0 m_tally0) v1 v2 v3 v4 v5 x4 x2 x3 1 m_tally0).bind (fun q7 => (f_Forecast_bestQuestion_L7 N fuel v0 v1 v2 v3 v4 v5 q7.1 q7.2.1 (x4 + 1) q7.2.2))))
def f_Forecast_bestQuestion (N : Nat) (v0 : VForecast) (v1 : VTown) (v2 : VLaws) (v3 : VLots) (v4 : VLives) (v5 : VLives) (a1 : Int32) : Option (Int32 × (Nat → Int32)) := ((f_Forecast_bestQuestion_L7 N N v0 v1 v2 v3 v4 v5 a1 (-1) 0 (Forecast_tally v0)).bind (fun q9 => (some (q9.1, q9.2))))
set_option maxRecDepth 20000 in
set_option maxHeartbeats 4000000 in
theorem c_Forecast_bestQuestion_L22 {Z : zCtx} {D n0w nf mcw msw : Nat} (hZ : zOk Z zMX1_bestQuestion) (hR : zCan Z D mcw msw) (hDd : 3 ≤ D) (hN : zNew Z n0w nf) (hRm : zRoom Z 0 0) (N : Nat) : ∀ (fuel : Nat) (v0 : VForecast) (v1 : VTown) (v2 : VLaws) (v3 : VLots) (v4 : VLives) (v5 : VLives) (y4 : Int32) (x2 : Int32) (x3 : Int32) (x5 : Int32) (m_tally0 : (Nat → Int32)) (q : (Int32 × Int32 × (Nat → Int32))), f_Forecast_bestQuestion_L22 N fuel v0 v1 v2 v3 v4 v5 y4 x2 x3 x5 m_tally0 = some q → (AW Z 0 0 63 [some (.ref 0), none, some (.int q.1), some (.int q.2.1), some (.int y4), none, none] [] ([kForecast 0 5 19 22 30 (Forecast_tally_s v0 q.2.2), kTown 5 13 v1, kLaws 13 v2, kLots 19 v3, kLives 22 5 v4, kLives 30 5 v5] : List (List zE)).flatten) → AW Z 0 0 22 [some (.ref 0), none, some (.int x2), some (.int x3), some (.int y4), some (.int x5), none] [] ([kForecast 0 5 19 22 30 (Forecast_tally_s v0 m_tally0), kTown 5 13 v1, kLaws 13 v2, kLots 19 v3, kLives 22 5 v4, kLives 30 5 v5] : List (List zE)).flatten := by
  intro fuel
  induction fuel with
  | zero =>
    intro v0 v1 v2 v3 v4 v5 y4 x2 x3 x5 m_tally0 q hf hk0
    simp [f_Forecast_bestQuestion_L22] at hf
  | succ fuel ih =>
    intro v0 v1 v2 v3 v4 v5 y4 x2 x3 x5 m_tally0 q hf hk0
    rw [f_Forecast_bestQuestion_L22] at hf
    refine AW.run hZ hRm [34, 63] 400 ?_
    show (((7 < x5) → AW Z 0 0 63 [some (.ref 0), none, some (.int x2), some (.int x3), some (.int y4), some (.int x5), none] [] ([kForecast 0 5 19 22 30 (Forecast_tally_s v0 m_tally0), kTown 5 13 v1, kLaws 13 v2, kLots 19 v3, kLives 22 5 v4, kLives 30 5 v5] : List (List zE)).flatten) ∧ (¬ (7 < x5) → AW Z 0 0 34 [some (.ref 0), none, some (.int x2), some (.int x3), some (.int y4), some (.int x5), none] [.int x5, .int y4, .ref 0] ([kForecast 0 5 19 22 30 (Forecast_tally_s v0 m_tally0), kTown 5 13 v1, kLaws 13 v2, kLots 19 v3, kLives 22 5 v4, kLives 30 5 v5] : List (List zE)).flatten))
    refine ⟨fun c2 => ?_, fun c2 => ?_⟩
    · rw [if_pos c2] at hf
      cases hf
      refine AW.forget [true, false, true, true, true, false, false] ?_
      show AW Z 0 0 63 [some (.ref 0), none, some (.int x2), some (.int x3), some (.int y4), none, none] [] ([kForecast 0 5 19 22 30 (Forecast_tally_s v0 m_tally0), kTown 5 13 v1, kLaws 13 v2, kLots 19 v3, kLives 22 5 v4, kLives 30 5 v5] : List (List zE)).flatten
      exact hk0
    · rw [if_neg c2] at hf
      obtain ⟨q3, h6, hf⟩ := zbind hf
      refine AW.callVc hZ hR hN (c_Forecast_mostAlike N (Forecast_tally_s v0 m_tally0) v1 v2 v3 v4 v5 y4 x5 q3 h6) zMX1_mostAlike_ok rfl rfl zK_BorrowedLives_Forecast_154 zV_X1_mostAlike rfl [5, 8, 6, 3, 8, 8] [0, 1, 2, 3, 4, 5] [0, 1, 2, 3, 4, 5, 6, 7, 8, 9, 10, 11, 12, 13, 14, 15, 16, 17, 18, 19, 20, 21, 22, 23, 24, 25, 26, 27, 28, 29, 30, 31, 32, 33, 34, 35, 36, 37] rfl rfl rfl (by decide) (by decide) (by omega) (by decide) (Nat.zero_le _) (Nat.zero_le _) rfl rfl rfl rfl rfl ?_
      rintro v cc ⟨rfl, rfl⟩
      refine ⟨_, rfl, rfl, ?_⟩
      show AW Z 0 0 37 [some (.ref 0), none, some (.int x2), some (.int x3), some (.int y4), some (.int x5), none] [.int q3.1] ([kForecast 0 5 19 22 30 (Forecast_tally_s v0 q3.2), kTown 5 13 v1, kLaws 13 v2, kLots 19 v3, kLives 22 5 v4, kLives 30 5 v5] : List (List zE)).flatten
      refine AW.run hZ hRm [42] 400 ?_
      show AW Z 0 0 42 [some (.ref 0), none, some (.int x2), some (.int x3), some (.int y4), some (.int x5), some (.int q3.1)] [.int x2, .int q3.1] ([kForecast 0 5 19 22 30 (Forecast_tally_s v0 q3.2), kTown 5 13 v1, kLaws 13 v2, kLots 19 v3, kLives 22 5 v4, kLives 30 5 v5] : List (List zE)).flatten
      suffices H4 : AW Z 0 0 57 [some (.ref 0), none, some (.int (if (x2 ≤ q3.1) then x2 else q3.1)), some (.int (if (x2 ≤ q3.1) then x3 else ((y4 * 8) + x5))), some (.int y4), some (.int x5), none] [] ([kForecast 0 5 19 22 30 (Forecast_tally_s v0 q3.2), kTown 5 13 v1, kLaws 13 v2, kLots 19 v3, kLives 22 5 v4, kLives 30 5 v5] : List (List zE)).flatten from by
        refine AW.run hZ hRm [57] 400 ?_
        show (((x2 ≤ q3.1) → AW Z 0 0 57 [some (.ref 0), none, some (.int x2), some (.int x3), some (.int y4), some (.int x5), some (.int q3.1)] [] ([kForecast 0 5 19 22 30 (Forecast_tally_s v0 q3.2), kTown 5 13 v1, kLaws 13 v2, kLots 19 v3, kLives 22 5 v4, kLives 30 5 v5] : List (List zE)).flatten) ∧ (¬ (x2 ≤ q3.1) → AW Z 0 0 57 [some (.ref 0), none, some (.int q3.1), some (.int ((y4 * 8) + x5)), some (.int y4), some (.int x5), some (.int q3.1)] [] ([kForecast 0 5 19 22 30 (Forecast_tally_s v0 q3.2), kTown 5 13 v1, kLaws 13 v2, kLots 19 v3, kLives 22 5 v4, kLives 30 5 v5] : List (List zE)).flatten))
        refine ⟨fun c5 => ?_, fun c5 => ?_⟩
        · refine AW.forget [true, false, true, true, true, true, false] ?_
          show AW Z 0 0 57 [some (.ref 0), none, some (.int x2), some (.int x3), some (.int y4), some (.int x5), none] [] ([kForecast 0 5 19 22 30 (Forecast_tally_s v0 q3.2), kTown 5 13 v1, kLaws 13 v2, kLots 19 v3, kLives 22 5 v4, kLives 30 5 v5] : List (List zE)).flatten
          simpa only [if_pos c5] using H4
        · refine AW.forget [true, false, true, true, true, true, false] ?_
          show AW Z 0 0 57 [some (.ref 0), none, some (.int q3.1), some (.int ((y4 * 8) + x5)), some (.int y4), some (.int x5), none] [] ([kForecast 0 5 19 22 30 (Forecast_tally_s v0 q3.2), kTown 5 13 v1, kLaws 13 v2, kLots 19 v3, kLives 22 5 v4, kLives 30 5 v5] : List (List zE)).flatten
          simpa only [if_neg c5] using H4
      refine AW.run hZ hRm [22] 400 ?_
      show AW Z 0 0 22 [some (.ref 0), none, some (.int (if (x2 ≤ q3.1) then x2 else q3.1)), some (.int (if (x2 ≤ q3.1) then x3 else ((y4 * 8) + x5))), some (.int y4), some (.int (x5 + 1)), none] [] ([kForecast 0 5 19 22 30 (Forecast_tally_s v0 q3.2), kTown 5 13 v1, kLaws 13 v2, kLots 19 v3, kLives 22 5 v4, kLives 30 5 v5] : List (List zE)).flatten
      exact ih v0 v1 v2 v3 v4 v5 y4 (if (x2 ≤ q3.1) then x2 else q3.1) (if (x2 ≤ q3.1) then x3 else ((y4 * 8) + x5)) (x5 + 1) q3.2 q hf hk0
set_option maxRecDepth 20000 in
set_option maxHeartbeats 4000000 in
theorem c_Forecast_bestQuestion_L7 {Z : zCtx} {D n0w nf mcw msw : Nat} (hZ : zOk Z zMX1_bestQuestion) (hR : zCan Z D mcw msw) (hDd : 3 ≤ D) (hN : zNew Z n0w nf) (hRm : zRoom Z 0 0) (N : Nat) : ∀ (fuel : Nat) (v0 : VForecast) (v1 : VTown) (v2 : VLaws) (v3 : VLots) (v4 : VLives) (v5 : VLives) (x2 : Int32) (x3 : Int32) (x4 : Int32) (m_tally0 : (Nat → Int32)) (q : (Int32 × (Nat → Int32))), f_Forecast_bestQuestion_L7 N fuel v0 v1 v2 v3 v4 v5 x2 x3 x4 m_tally0 = some q → (AW Z 0 0 69 [none, none, none, some (.int q.1), none, none, none] [] ([kForecast 0 5 19 22 30 (Forecast_tally_s v0 q.2), kTown 5 13 v1, kLaws 13 v2, kLots 19 v3, kLives 22 5 v4, kLives 30 5 v5] : List (List zE)).flatten) → AW Z 0 0 7 [some (.ref 0), none, some (.int x2), some (.int x3), some (.int x4), none, none] [] ([kForecast 0 5 19 22 30 (Forecast_tally_s v0 m_tally0), kTown 5 13 v1, kLaws 13 v2, kLots 19 v3, kLives 22 5 v4, kLives 30 5 v5] : List (List zE)).flatten := by
  intro fuel
  induction fuel with
  | zero =>
    intro v0 v1 v2 v3 v4 v5 x2 x3 x4 m_tally0 q hf hk0
    simp [f_Forecast_bestQuestion_L7] at hf
  | succ fuel ih =>
    intro v0 v1 v2 v3 v4 v5 x2 x3 x4 m_tally0 q hf hk0
    rw [f_Forecast_bestQuestion_L7] at hf
    refine AW.run hZ hRm [22, 69] 400 ?_
    show ((((Town_people v1) ≤ x4) → AW Z 0 0 69 [some (.ref 0), none, some (.int x2), some (.int x3), some (.int x4), none, none] [] ([kForecast 0 5 19 22 30 (Forecast_tally_s v0 m_tally0), kTown 5 13 v1, kLaws 13 v2, kLots 19 v3, kLives 22 5 v4, kLives 30 5 v5] : List (List zE)).flatten) ∧ (¬ ((Town_people v1) ≤ x4) → AW Z 0 0 22 [some (.ref 0), none, some (.int x2), some (.int x3), some (.int x4), some (.int 1), none] [] ([kForecast 0 5 19 22 30 (Forecast_tally_s v0 m_tally0), kTown 5 13 v1, kLaws 13 v2, kLots 19 v3, kLives 22 5 v4, kLives 30 5 v5] : List (List zE)).flatten))
    refine ⟨fun c1 => ?_, fun c1 => ?_⟩
    · rw [if_pos c1] at hf
      cases hf
      refine AW.forget [false, false, false, true, false, false, false] ?_
      show AW Z 0 0 69 [none, none, none, some (.int x3), none, none, none] [] ([kForecast 0 5 19 22 30 (Forecast_tally_s v0 m_tally0), kTown 5 13 v1, kLaws 13 v2, kLots 19 v3, kLives 22 5 v4, kLives 30 5 v5] : List (List zE)).flatten
      exact hk0
    · rw [if_neg c1] at hf
      obtain ⟨q7, h8, hf⟩ := zbind hf
      refine c_Forecast_bestQuestion_L22 hZ hR (by omega) hN hRm N N (Forecast_tally_s v0 m_tally0) v1 v2 v3 v4 v5 x4 x2 x3 1 m_tally0 q7 h8 ?_
      show AW Z 0 0 63 [some (.ref 0), none, some (.int q7.1), some (.int q7.2.1), some (.int x4), none, none] [] ([kForecast 0 5 19 22 30 (Forecast_tally_s v0 q7.2.2), kTown 5 13 v1, kLaws 13 v2, kLots 19 v3, kLives 22 5 v4, kLives 30 5 v5] : List (List zE)).flatten
      refine AW.run hZ hRm [7] 400 ?_
      show AW Z 0 0 7 [some (.ref 0), none, some (.int q7.1), some (.int q7.2.1), some (.int (x4 + 1)), none, none] [] ([kForecast 0 5 19 22 30 (Forecast_tally_s v0 q7.2.2), kTown 5 13 v1, kLaws 13 v2, kLots 19 v3, kLives 22 5 v4, kLives 30 5 v5] : List (List zE)).flatten
      exact ih v0 v1 v2 v3 v4 v5 q7.1 q7.2.1 (x4 + 1) q7.2.2 q hf hk0
set_option maxRecDepth 20000 in
set_option maxHeartbeats 4000000 in
theorem c_Forecast_bestQuestion (N : Nat) (v0 : VForecast) (v1 : VTown) (v2 : VLaws) (v3 : VLots) (v4 : VLives) (v5 : VLives) (a1 : Int32) (R : Int32 × (Nat → Int32)) (hf : f_Forecast_bestQuestion N v0 v1 v2 v3 v4 v5 a1 = some R) : Ct zMX1_bestQuestion 3 0 0 0 [.ref 0, .int a1] ([kForecast 0 5 19 22 30 v0, kTown 5 13 v1, kLaws 13 v2, kLots 19 v3, kLives 22 5 v4, kLives 30 5 v5] : List (List zE)).flatten (fun v cc => v = some (.int R.1) ∧ cc = ([kForecast 0 5 19 22 30 (Forecast_tally_s v0 R.2), kTown 5 13 v1, kLaws 13 v2, kLots 19 v3, kLives 22 5 v4, kLives 30 5 v5] : List (List zE)).flatten) := by
  refine Ct.of zMX1_bestQuestion_ok (by decide) (Nat.le_of_ble_eq_true rfl) ?_
  intro Z hZ hR hN hE
  have hRm : zRoom Z 0 0 := zRoom0 Z
  unfold f_Forecast_bestQuestion at hf
  show AW Z 0 0 0 [some (.ref 0), some (.int a1), none, none, none, none, none] [] ([kForecast 0 5 19 22 30 v0, kTown 5 13 v1, kLaws 13 v2, kLots 19 v3, kLives 22 5 v4, kLives 30 5 v5] : List (List zE)).flatten
  refine AW.run hZ hRm [7] 400 ?_
  show AW Z 0 0 7 [some (.ref 0), some (.int a1), some (.int a1), some (.int (-1)), some (.int 0), none, none] [] ([kForecast 0 5 19 22 30 v0, kTown 5 13 v1, kLaws 13 v2, kLots 19 v3, kLives 22 5 v4, kLives 30 5 v5] : List (List zE)).flatten
  obtain ⟨q9, h10, hf⟩ := zbind hf
  refine AW.forget [true, false, true, true, true, false, false] ?_
  show AW Z 0 0 7 [some (.ref 0), none, some (.int a1), some (.int (-1)), some (.int 0), none, none] [] ([kForecast 0 5 19 22 30 v0, kTown 5 13 v1, kLaws 13 v2, kLots 19 v3, kLives 22 5 v4, kLives 30 5 v5] : List (List zE)).flatten
  refine c_Forecast_bestQuestion_L7 hZ hR (by omega) hN hRm N N v0 v1 v2 v3 v4 v5 a1 (-1) 0 (Forecast_tally v0) q9 h10 ?_
  show AW Z 0 0 69 [none, none, none, some (.int q9.1), none, none, none] [] ([kForecast 0 5 19 22 30 (Forecast_tally_s v0 q9.2), kTown 5 13 v1, kLaws 13 v2, kLots 19 v3, kLives 22 5 v4, kLives 30 5 v5] : List (List zE)).flatten
  refine AW.run hZ hRm [70] 400 ?_
  show AW Z 0 0 70 [none, none, none, some (.int q9.1), none, none, none] [.int q9.1] ([kForecast 0 5 19 22 30 (Forecast_tally_s v0 q9.2), kTown 5 13 v1, kLaws 13 v2, kLots 19 v3, kLives 22 5 v4, kLives 30 5 v5] : List (List zE)).flatten
  cases hf
  exact AW.iret hZ hE rfl rfl rfl rfl (Nat.le_refl 0) (Nat.le_refl 0) rfl ⟨rfl, rfl⟩
def f_Lives_comeBack_L2 (N : Nat) : Nat → VLives → VTown → VLaws → Int32 → (Nat → Int32) → (Nat → Int32) → Option ((Nat → Int32) × (Nat → Int32))
  | 0, _, _, _, _, _, _ => none
  | fuel + 1, v0, v1, v2, x1, m_hidden0, m_self1 => (if (6 ≤ x1) then (some (m_hidden0, m_self1)) else (if (x1 < 0 ∨ 6 ≤ Int32.toNatClampNeg x1) then none else (if (x1 < 0 ∨ 6 ≤ Int32.toNatClampNeg x1) then none else (f_Lives_comeBack_L2 N fuel v0 v1 v2 (x1 + 1) (upd m_hidden0 (Int32.toNatClampNeg x1) 0) (upd m_self1 (Int32.toNatClampNeg x1) x1)))))
def f_Lives_comeBack (N : Nat) (v0 : VLives) (v1 : VTown) (v2 : VLaws) : Option ((Nat → Int32) × (Nat → Int32) × Int32 × Int32) := ((f_Lives_comeBack_L2 N N v0 v1 v2 0 (Lives_hidden v0) (Lives_self v0)).bind (fun q4 => (some (q4.1, q4.2, 0, 0))))
set_option maxRecDepth 20000 in
set_option maxHeartbeats 4000000 in
theorem c_Lives_comeBack_L2 {Z : zCtx} {D n0w nf mcw msw : Nat} (hZ : zOk Z zMX3_comeBack) (hR : zCan Z D mcw msw) (hDd : 1 ≤ D) (hN : zNew Z n0w nf) (hRm : zRoom Z 0 0) (N : Nat) : ∀ (fuel : Nat) (v0 : VLives) (v1 : VTown) (v2 : VLaws) (x1 : Int32) (m_hidden0 : (Nat → Int32)) (m_self1 : (Nat → Int32)) (q : ((Nat → Int32) × (Nat → Int32))), f_Lives_comeBack_L2 N fuel v0 v1 v2 x1 m_hidden0 m_self1 = some q → (AW Z 0 0 28 [some (.ref 0), none] [] ([kLives 0 8 (Lives_s_hidden_self v0 q.1 q.2), kTown 8 16 v1, kLaws 16 v2] : List (List zE)).flatten) → AW Z 0 0 2 [some (.ref 0), some (.int x1)] [] ([kLives 0 8 (Lives_s_hidden_self v0 m_hidden0 m_self1), kTown 8 16 v1, kLaws 16 v2] : List (List zE)).flatten := by
  intro fuel
  induction fuel with
  | zero =>
    intro v0 v1 v2 x1 m_hidden0 m_self1 q hf hk0
    simp [f_Lives_comeBack_L2] at hf
  | succ fuel ih =>
    intro v0 v1 v2 x1 m_hidden0 m_self1 q hf hk0
    rw [f_Lives_comeBack_L2] at hf
    refine AW.run hZ hRm [2, 28] 400 ?_
    show (((6 ≤ x1) → AW Z 0 0 28 [some (.ref 0), some (.int x1)] [] ([kLives 0 8 (Lives_s_hidden_self v0 m_hidden0 m_self1), kTown 8 16 v1, kLaws 16 v2] : List (List zE)).flatten) ∧ (¬ (6 ≤ x1) → (¬ (x1 < 0 ∨ 6 ≤ Int32.toNatClampNeg x1) ∧ (¬ (x1 < 0 ∨ 6 ≤ Int32.toNatClampNeg x1) ∧ AW Z 0 0 2 [some (.ref 0), some (.int (x1 + 1))] [] ([kLives 0 8 (Lives_s_hidden_self v0 (upd m_hidden0 (Int32.toNatClampNeg x1) 0) (upd m_self1 (Int32.toNatClampNeg x1) x1)), kTown 8 16 v1, kLaws 16 v2] : List (List zE)).flatten))))
    refine ⟨fun c1 => ?_, fun c1 => ?_⟩
    · rw [if_pos c1] at hf
      cases hf
      refine AW.forget [true, false] ?_
      show AW Z 0 0 28 [some (.ref 0), none] [] ([kLives 0 8 (Lives_s_hidden_self v0 m_hidden0 m_self1), kTown 8 16 v1, kLaws 16 v2] : List (List zE)).flatten
      exact hk0
    · rw [if_neg c1] at hf
      obtain ⟨b3, hf⟩ := zneed hf
      refine ⟨b3, ?_⟩
      obtain ⟨b2, hf⟩ := zneed hf
      refine ⟨b2, ?_⟩
      exact ih v0 v1 v2 (x1 + 1) (upd m_hidden0 (Int32.toNatClampNeg x1) 0) (upd m_self1 (Int32.toNatClampNeg x1) x1) q hf hk0
set_option maxRecDepth 20000 in
set_option maxHeartbeats 4000000 in
theorem c_Lives_comeBack (N : Nat) (v0 : VLives) (v1 : VTown) (v2 : VLaws) (R : (Nat → Int32) × (Nat → Int32) × Int32 × Int32) (hf : f_Lives_comeBack N v0 v1 v2 = some R) : Ct zMX3_comeBack 1 0 0 0 [.ref 0] ([kLives 0 8 v0, kTown 8 16 v1, kLaws 16 v2] : List (List zE)).flatten (fun v cc => v = none ∧ cc = ([kLives 0 8 (Lives_s_hidden_self_away_days v0 R.1 R.2.1 R.2.2.1 R.2.2.2), kTown 8 16 v1, kLaws 16 v2] : List (List zE)).flatten) := by
  refine Ct.of zMX3_comeBack_ok (by decide) (Nat.le_of_ble_eq_true rfl) ?_
  intro Z hZ hR hN hE
  have hRm : zRoom Z 0 0 := zRoom0 Z
  unfold f_Lives_comeBack at hf
  show AW Z 0 0 0 [some (.ref 0), none] [] ([kLives 0 8 v0, kTown 8 16 v1, kLaws 16 v2] : List (List zE)).flatten
  refine AW.run hZ hRm [2] 400 ?_
  show AW Z 0 0 2 [some (.ref 0), some (.int 0)] [] ([kLives 0 8 v0, kTown 8 16 v1, kLaws 16 v2] : List (List zE)).flatten
  obtain ⟨q4, h5, hf⟩ := zbind hf
  refine c_Lives_comeBack_L2 hZ hR (by omega) hN hRm N N v0 v1 v2 0 (Lives_hidden v0) (Lives_self v0) q4 h5 ?_
  show AW Z 0 0 28 [some (.ref 0), none] [] ([kLives 0 8 (Lives_s_hidden_self v0 q4.1 q4.2), kTown 8 16 v1, kLaws 16 v2] : List (List zE)).flatten
  refine AW.run hZ hRm [38] 400 ?_
  show (((0 : Int32) = 0 ∨ (0 : Int32) = 1) ∧ AW Z 0 0 38 [some (.ref 0), none] [] ([kLives 0 8 (Lives_s_hidden_self_away_days v0 q4.1 q4.2 0 0), kTown 8 16 v1, kLaws 16 v2] : List (List zE)).flatten)
  refine ⟨(by decide), ?_⟩
  cases hf
  exact AW.vret hZ hE rfl rfl rfl (Nat.le_refl 0) (Nat.le_refl 0) rfl ⟨rfl, rfl⟩
def f_Lives_goHome (N : Nat) (v0 : VLives) (v1 : VTown) (v2 : VLaws) : Option (Int32 × (Nat → Int32) × (Nat → Int32) × Int32 × Int32 × Int32 × Int32) := (if ((Lives_away v0) = 0) then (some ((-1), (Lives_hidden v0), (Lives_self v0), (Lives_away v0), (Lives_days v0), (Lives_homes v0), (Lives_harm v0))) else ((f_Lives_harmOfAll N v0 v1 v2).bind (fun q2 => ((f_Lives_comeBack N (Lives_s_homes_harm v0 ((Lives_homes v0) + 1) ((Lives_harm v0) + q2)) v1 v2).bind (fun q3 => (some (q2, q3.1, q3.2.1, q3.2.2.1, q3.2.2.2, ((Lives_homes v0) + 1), ((Lives_harm v0) + q2))))))))
set_option maxRecDepth 20000 in
set_option maxHeartbeats 4000000 in
theorem c_Lives_goHome (N : Nat) (v0 : VLives) (v1 : VTown) (v2 : VLaws) (R : Int32 × (Nat → Int32) × (Nat → Int32) × Int32 × Int32 × Int32 × Int32) (hf : f_Lives_goHome N v0 v1 v2 = some R) : Ct zMX3_goHome 4 0 0 0 [.ref 0] ([kLives 0 8 v0, kTown 8 16 v1, kLaws 16 v2] : List (List zE)).flatten (fun v cc => v = some (.int R.1) ∧ cc = ([kLives 0 8 (Lives_s_hidden_self_away_days_homes_harm v0 R.2.1 R.2.2.1 R.2.2.2.1 R.2.2.2.2.1 R.2.2.2.2.2.1 R.2.2.2.2.2.2), kTown 8 16 v1, kLaws 16 v2] : List (List zE)).flatten) := by
  refine Ct.of zMX3_goHome_ok (by decide) (Nat.le_of_ble_eq_true rfl) ?_
  intro Z hZ hR hN hE
  have hRm : zRoom Z 0 0 := zRoom0 Z
  unfold f_Lives_goHome at hf
  show AW Z 0 0 0 [some (.ref 0), none] [] ([kLives 0 8 v0, kTown 8 16 v1, kLaws 16 v2] : List (List zE)).flatten
  refine AW.run hZ hRm [8, 10] 400 ?_
  show ((¬ ((Lives_away v0) = 0) → AW Z 0 0 10 [some (.ref 0), none] [.ref 0] ([kLives 0 8 v0, kTown 8 16 v1, kLaws 16 v2] : List (List zE)).flatten) ∧ (((Lives_away v0) = 0) → AW Z 0 0 8 [some (.ref 0), none] [.int (-1)] ([kLives 0 8 v0, kTown 8 16 v1, kLaws 16 v2] : List (List zE)).flatten))
  refine ⟨fun c1 => ?_, fun c1 => ?_⟩
  · rw [if_neg c1] at hf
    obtain ⟨q2, h5, hf⟩ := zbind hf
    refine AW.callVc hZ hR hN (c_Lives_harmOfAll N v0 v1 v2 q2 h5) zMX3_harmOfAll_ok rfl rfl zK_BorrowedLives_Lives_156 zV_X3_harmOfAll rfl [8, 8, 6] [0, 1, 2] [0, 1, 2, 3, 4, 5, 6, 7, 8, 9, 10, 11, 12, 13, 14, 15, 16, 17, 18, 19, 20, 21] rfl rfl rfl (by decide) (by decide) (by omega) (by decide) (Nat.zero_le _) (Nat.zero_le _) rfl rfl rfl rfl rfl ?_
    rintro v cc ⟨rfl, rfl⟩
    refine ⟨_, rfl, rfl, ?_⟩
    show AW Z 0 0 13 [some (.ref 0), none] [.int q2] ([kLives 0 8 v0, kTown 8 16 v1, kLaws 16 v2] : List (List zE)).flatten
    refine AW.run hZ hRm [35] 400 ?_
    show AW Z 0 0 35 [some (.ref 0), some (.int q2)] [.ref 0] ([kLives 0 8 (Lives_s_homes_harm v0 ((Lives_homes v0) + 1) ((Lives_harm v0) + q2)), kTown 8 16 v1, kLaws 16 v2] : List (List zE)).flatten
    obtain ⟨q3, h4, hf⟩ := zbind hf
    refine AW.callVc hZ hR hN (c_Lives_comeBack N (Lives_s_homes_harm v0 ((Lives_homes v0) + 1) ((Lives_harm v0) + q2)) v1 v2 q3 h4) zMX3_comeBack_ok rfl rfl zK_BorrowedLives_Lives_67 zV_X3_comeBack rfl [8, 8, 6] [0, 1, 2] [0, 1, 2, 3, 4, 5, 6, 7, 8, 9, 10, 11, 12, 13, 14, 15, 16, 17, 18, 19, 20, 21] rfl rfl rfl (by decide) (by decide) (by omega) (by decide) (Nat.zero_le _) (Nat.zero_le _) rfl rfl rfl rfl rfl ?_
    rintro v cc ⟨rfl, rfl⟩
    refine ⟨_, rfl, rfl, ?_⟩
    show AW Z 0 0 38 [some (.ref 0), some (.int q2)] [] ([kLives 0 8 (Lives_s_hidden_self_away_days_homes_harm v0 q3.1 q3.2.1 q3.2.2.1 q3.2.2.2 ((Lives_homes v0) + 1) ((Lives_harm v0) + q2)), kTown 8 16 v1, kLaws 16 v2] : List (List zE)).flatten
    refine AW.run hZ hRm [39] 400 ?_
    show AW Z 0 0 39 [some (.ref 0), some (.int q2)] [.int q2] ([kLives 0 8 (Lives_s_hidden_self_away_days_homes_harm v0 q3.1 q3.2.1 q3.2.2.1 q3.2.2.2 ((Lives_homes v0) + 1) ((Lives_harm v0) + q2)), kTown 8 16 v1, kLaws 16 v2] : List (List zE)).flatten
    cases hf
    exact AW.iret hZ hE rfl rfl rfl rfl (Nat.le_refl 0) (Nat.le_refl 0) rfl ⟨rfl, rfl⟩
  · rw [if_pos c1] at hf
    cases hf
    exact AW.iret hZ hE rfl rfl rfl rfl (Nat.le_refl 0) (Nat.le_refl 0) rfl ⟨rfl, rfl⟩
def f_Lots_nextDraw (N : Nat) (a0 : Int64) : Option (Int64) := (some (((a0 * 1103515245) + 12345) &&& 2147483647))
set_option maxRecDepth 20000 in
set_option maxHeartbeats 4000000 in
theorem c_Lots_nextDraw (N : Nat) (a0 : Int64) (R : Int64) (hf : f_Lots_nextDraw N a0 = some R) : Ct zMX4_nextDraw 1 0 0 0 [.long a0] ([] : List (List zE)).flatten (fun v cc => v = some (.long R) ∧ cc = ([] : List (List zE)).flatten) := by
  refine Ct.of zMX4_nextDraw_ok (by decide) (Nat.le_of_ble_eq_true rfl) ?_
  intro Z hZ hR hN hE
  have hRm : zRoom Z 0 0 := zRoom0 Z
  unfold f_Lots_nextDraw at hf
  show AW Z 0 0 0 [some (.long a0), none] [] ([] : List (List zE)).flatten
  refine AW.run hZ hRm [13] 400 ?_
  show AW Z 0 0 13 [some (.long a0), none] [.long (((a0 * 1103515245) + 12345) &&& 2147483647)] ([] : List (List zE)).flatten
  cases hf
  exact AW.lret hZ hE rfl rfl rfl (Nat.le_refl 0) (Nat.le_refl 0) rfl ⟨rfl, rfl⟩
def f_Lots_drawBelow (N : Nat) (a0 : Int64) (a2 : Int32) : Option (Int32) := (if (a2 ≤ 0) then (some 0) else (if ((Int32.toInt64 a2) = 0) then none else (some (Int64.toInt32 ((a0 / 65536) - (a0 / 65536) / (Int32.toInt64 a2) * (Int32.toInt64 a2))))))
set_option maxRecDepth 20000 in
set_option maxHeartbeats 4000000 in
theorem c_Lots_drawBelow (N : Nat) (a0 : Int64) (a2 : Int32) (R : Int32) (hf : f_Lots_drawBelow N a0 a2 = some R) : Ct zMX4_drawBelow 1 0 0 0 [.long a0, .int a2] ([] : List (List zE)).flatten (fun v cc => v = some (.int R) ∧ cc = ([] : List (List zE)).flatten) := by
  refine Ct.of zMX4_drawBelow_ok (by decide) (Nat.le_of_ble_eq_true rfl) ?_
  intro Z hZ hR hN hE
  have hRm : zRoom Z 0 0 := zRoom0 Z
  unfold f_Lots_drawBelow at hf
  show AW Z 0 0 0 [some (.long a0), none, some (.int a2)] [] ([] : List (List zE)).flatten
  refine AW.run hZ hRm [17] 400 ?_
  show (((a2 ≤ 0) → AW Z 0 0 17 [some (.long a0), none, some (.int a2)] [.int 0] ([] : List (List zE)).flatten) ∧ (¬ (a2 ≤ 0) → (¬ ((65536 : Int64) = 0) ∧ (¬ ((Int32.toInt64 a2) = 0) ∧ AW Z 0 0 17 [some (.long a0), none, some (.int a2)] [.int (Int64.toInt32 ((a0 / 65536) - (a0 / 65536) / (Int32.toInt64 a2) * (Int32.toInt64 a2)))] ([] : List (List zE)).flatten))))
  refine ⟨fun c1 => ?_, fun c1 => ?_⟩
  · rw [if_pos c1] at hf
    cases hf
    exact AW.iret hZ hE rfl rfl rfl rfl (Nat.le_refl 0) (Nat.le_refl 0) rfl ⟨rfl, rfl⟩
  · rw [if_neg c1] at hf
    refine ⟨(by decide), ?_⟩
    obtain ⟨b2, hf⟩ := zneed hf
    refine ⟨b2, ?_⟩
    cases hf
    exact AW.iret hZ hE rfl rfl rfl rfl (Nat.le_refl 0) (Nat.le_refl 0) rfl ⟨rfl, rfl⟩
def f_Forecast_hideByDraws_L5 (N : Nat) : Nat → VForecast → VTown → VLaws → VLots → VLives → VLives → Int64 → Int32 → (Nat → Int32) → Option (Int64 × (Nat → Int32))
  | 0, _, _, _, _, _, _, _, _, _ => none
  | fuel + 1, v0, v1, v2, v3, v4, v5, x3, x5, m_hidden0 => (if ((Town_people v1) ≤ x5) then (some (x3, m_hidden0)) else (if (6 ≤ x5) then (some (x3, m_hidden0)) else ((f_Lots_nextDraw N x3).bind (fun q3 => ((f_Lots_drawBelow N q3 3).bind (fun q4 => (if (q4 = 0) then (if (x5 < 0 ∨ 6 ≤ Int32.toNatClampNeg x5) then none else (if (((Lives_purse v5) (Int32.toNatClampNeg x5)) < 20) then (f_Forecast_hideByDraws_L5 N fuel v0 v1 v2 v3 v4 v5 q3 (x5 + 1) m_hidden0) else (if (x5 < 0 ∨ 6 ≤ Int32.toNatClampNeg x5) then none else (f_Forecast_hideByDraws_L5 N fuel v0 v1 v2 v3 v4 v5 q3 (x5 + 1) (upd m_hidden0 (Int32.toNatClampNeg x5) 20))))) else (f_Forecast_hideByDraws_L5 N fuel v0 v1 v2 v3 v4 v5 q3 (x5 + 1) m_hidden0))))))))
def f_Forecast_hideByDraws (N : Nat) (v0 : VForecast) (v1 : VTown) (v2 : VLaws) (v3 : VLots) (v4 : VLives) (v5 : VLives) (a1 : Int64) : Option (Int64 × (Nat → Int32)) := ((f_Forecast_hideByDraws_L5 N N v0 v1 v2 v3 v4 v5 a1 0 (Lives_hidden v5)).bind (fun q11 => (some (q11.1, q11.2))))
set_option maxRecDepth 20000 in
set_option maxHeartbeats 4000000 in
theorem c_Forecast_hideByDraws_L5 {Z : zCtx} {D n0w nf mcw msw : Nat} (hZ : zOk Z zMX1_hideByDraws) (hR : zCan Z D mcw msw) (hDd : 2 ≤ D) (hN : zNew Z n0w nf) (hRm : zRoom Z 0 0) (N : Nat) : ∀ (fuel : Nat) (v0 : VForecast) (v1 : VTown) (v2 : VLaws) (v3 : VLots) (v4 : VLives) (v5 : VLives) (x3 : Int64) (x5 : Int32) (m_hidden0 : (Nat → Int32)) (q : (Int64 × (Nat → Int32))), f_Forecast_hideByDraws_L5 N fuel v0 v1 v2 v3 v4 v5 x3 x5 m_hidden0 = some q → (AW Z 0 0 70 [none, none, none, some (.long q.1), none, none] [] ([kForecast 0 5 19 22 30 v0, kTown 5 13 v1, kLaws 13 v2, kLots 19 v3, kLives 22 5 v4, kLives 30 5 (Lives_hidden_s v5 q.2)] : List (List zE)).flatten) → AW Z 0 0 5 [some (.ref 0), none, none, some (.long x3), none, some (.int x5)] [] ([kForecast 0 5 19 22 30 v0, kTown 5 13 v1, kLaws 13 v2, kLots 19 v3, kLives 22 5 v4, kLives 30 5 (Lives_hidden_s v5 m_hidden0)] : List (List zE)).flatten := by
  intro fuel
  induction fuel with
  | zero =>
    intro v0 v1 v2 v3 v4 v5 x3 x5 m_hidden0 q hf hk0
    simp [f_Forecast_hideByDraws_L5] at hf
  | succ fuel ih =>
    intro v0 v1 v2 v3 v4 v5 x3 x5 m_hidden0 q hf hk0
    rw [f_Forecast_hideByDraws_L5] at hf
    refine AW.run hZ hRm [25, 70] 400 ?_
    show ((((Town_people v1) ≤ x5) → AW Z 0 0 70 [some (.ref 0), none, none, some (.long x3), none, some (.int x5)] [] ([kForecast 0 5 19 22 30 v0, kTown 5 13 v1, kLaws 13 v2, kLots 19 v3, kLives 22 5 v4, kLives 30 5 (Lives_hidden_s v5 m_hidden0)] : List (List zE)).flatten) ∧ (¬ ((Town_people v1) ≤ x5) → (((6 ≤ x5) → AW Z 0 0 70 [some (.ref 0), none, none, some (.long x3), none, some (.int x5)] [] ([kForecast 0 5 19 22 30 v0, kTown 5 13 v1, kLaws 13 v2, kLots 19 v3, kLives 22 5 v4, kLives 30 5 (Lives_hidden_s v5 m_hidden0)] : List (List zE)).flatten) ∧ (¬ (6 ≤ x5) → AW Z 0 0 25 [some (.ref 0), none, none, some (.long x3), none, some (.int x5)] [.long x3] ([kForecast 0 5 19 22 30 v0, kTown 5 13 v1, kLaws 13 v2, kLots 19 v3, kLives 22 5 v4, kLives 30 5 (Lives_hidden_s v5 m_hidden0)] : List (List zE)).flatten))))
    refine ⟨fun c1 => ?_, fun c1 => ?_⟩
    · rw [if_pos c1] at hf
      cases hf
      refine AW.forget [false, false, false, true, false, false] ?_
      show AW Z 0 0 70 [none, none, none, some (.long x3), none, none] [] ([kForecast 0 5 19 22 30 v0, kTown 5 13 v1, kLaws 13 v2, kLots 19 v3, kLives 22 5 v4, kLives 30 5 (Lives_hidden_s v5 m_hidden0)] : List (List zE)).flatten
      exact hk0
    · rw [if_neg c1] at hf
      refine ⟨fun c2 => ?_, fun c2 => ?_⟩
      · rw [if_pos c2] at hf
        cases hf
        refine AW.forget [false, false, false, true, false, false] ?_
        show AW Z 0 0 70 [none, none, none, some (.long x3), none, none] [] ([kForecast 0 5 19 22 30 v0, kTown 5 13 v1, kLaws 13 v2, kLots 19 v3, kLives 22 5 v4, kLives 30 5 (Lives_hidden_s v5 m_hidden0)] : List (List zE)).flatten
        exact hk0
      · rw [if_neg c2] at hf
        obtain ⟨q3, h10, hf⟩ := zbind hf
        refine AW.callSc hZ hR hN (c_Lots_nextDraw N x3 q3 h10) zMX4_nextDraw_ok rfl rfl zK_BorrowedLives_Forecast_169 zV_X4_nextDraw rfl [5, 8, 6, 3, 8, 8] [] [] rfl rfl rfl (by decide) (by decide) (by omega) (by decide) (Nat.zero_le _) (Nat.zero_le _) rfl rfl ?_
        rintro v cc ⟨rfl, rfl⟩
        refine ⟨_, rfl, rfl, ?_⟩
        show AW Z 0 0 28 [some (.ref 0), none, none, some (.long x3), none, some (.int x5)] [.long q3] ([kForecast 0 5 19 22 30 v0, kTown 5 13 v1, kLaws 13 v2, kLots 19 v3, kLives 22 5 v4, kLives 30 5 (Lives_hidden_s v5 m_hidden0)] : List (List zE)).flatten
        refine AW.run hZ hRm [31] 400 ?_
        show AW Z 0 0 31 [some (.ref 0), none, none, some (.long q3), none, some (.int x5)] [.int 3, .long q3] ([kForecast 0 5 19 22 30 v0, kTown 5 13 v1, kLaws 13 v2, kLots 19 v3, kLives 22 5 v4, kLives 30 5 (Lives_hidden_s v5 m_hidden0)] : List (List zE)).flatten
        obtain ⟨q4, h9, hf⟩ := zbind hf
        refine AW.callSc hZ hR hN (c_Lots_drawBelow N q3 3 q4 h9) zMX4_drawBelow_ok rfl rfl zK_BorrowedLives_Forecast_172 zV_X4_drawBelow rfl [5, 8, 6, 3, 8, 8] [] [] rfl rfl rfl (by decide) (by decide) (by omega) (by decide) (Nat.zero_le _) (Nat.zero_le _) rfl rfl ?_
        rintro v cc ⟨rfl, rfl⟩
        refine ⟨_, rfl, rfl, ?_⟩
        show AW Z 0 0 34 [some (.ref 0), none, none, some (.long q3), none, some (.int x5)] [.int q4] ([kForecast 0 5 19 22 30 v0, kTown 5 13 v1, kLaws 13 v2, kLots 19 v3, kLives 22 5 v4, kLives 30 5 (Lives_hidden_s v5 m_hidden0)] : List (List zE)).flatten
        refine AW.run hZ hRm [5] 400 ?_
        show ((¬ (q4 = 0) → AW Z 0 0 5 [some (.ref 0), none, none, some (.long q3), none, some (.int (x5 + 1))] [] ([kForecast 0 5 19 22 30 v0, kTown 5 13 v1, kLaws 13 v2, kLots 19 v3, kLives 22 5 v4, kLives 30 5 (Lives_hidden_s v5 m_hidden0)] : List (List zE)).flatten) ∧ ((q4 = 0) → (¬ (x5 < 0 ∨ 6 ≤ Int32.toNatClampNeg x5) ∧ (((((Lives_purse v5) (Int32.toNatClampNeg x5)) < 20) → AW Z 0 0 5 [some (.ref 0), none, none, some (.long q3), none, some (.int (x5 + 1))] [] ([kForecast 0 5 19 22 30 v0, kTown 5 13 v1, kLaws 13 v2, kLots 19 v3, kLives 22 5 v4, kLives 30 5 (Lives_hidden_s v5 m_hidden0)] : List (List zE)).flatten) ∧ (¬ (((Lives_purse v5) (Int32.toNatClampNeg x5)) < 20) → (¬ (x5 < 0 ∨ 6 ≤ Int32.toNatClampNeg x5) ∧ AW Z 0 0 5 [some (.ref 0), none, none, some (.long q3), none, some (.int (x5 + 1))] [] ([kForecast 0 5 19 22 30 v0, kTown 5 13 v1, kLaws 13 v2, kLots 19 v3, kLives 22 5 v4, kLives 30 5 (Lives_hidden_s v5 (upd m_hidden0 (Int32.toNatClampNeg x5) 20))] : List (List zE)).flatten))))))
        refine ⟨fun c5 => ?_, fun c5 => ?_⟩
        · rw [if_neg c5] at hf
          exact ih v0 v1 v2 v3 v4 v5 q3 (x5 + 1) m_hidden0 q hf hk0
        · rw [if_pos c5] at hf
          obtain ⟨b8, hf⟩ := zneed hf
          refine ⟨b8, ?_⟩
          refine ⟨fun c6 => ?_, fun c6 => ?_⟩
          · rw [if_pos c6] at hf
            exact ih v0 v1 v2 v3 v4 v5 q3 (x5 + 1) m_hidden0 q hf hk0
          · rw [if_neg c6] at hf
            obtain ⟨b7, hf⟩ := zneed hf
            refine ⟨b7, ?_⟩
            exact ih v0 v1 v2 v3 v4 v5 q3 (x5 + 1) (upd m_hidden0 (Int32.toNatClampNeg x5) 20) q hf hk0
set_option maxRecDepth 20000 in
set_option maxHeartbeats 4000000 in
theorem c_Forecast_hideByDraws (N : Nat) (v0 : VForecast) (v1 : VTown) (v2 : VLaws) (v3 : VLots) (v4 : VLives) (v5 : VLives) (a1 : Int64) (R : Int64 × (Nat → Int32)) (hf : f_Forecast_hideByDraws N v0 v1 v2 v3 v4 v5 a1 = some R) : Ct zMX1_hideByDraws 2 0 0 0 [.ref 0, .long a1] ([kForecast 0 5 19 22 30 v0, kTown 5 13 v1, kLaws 13 v2, kLots 19 v3, kLives 22 5 v4, kLives 30 5 v5] : List (List zE)).flatten (fun v cc => v = some (.long R.1) ∧ cc = ([kForecast 0 5 19 22 30 v0, kTown 5 13 v1, kLaws 13 v2, kLots 19 v3, kLives 22 5 v4, kLives 30 5 (Lives_hidden_s v5 R.2)] : List (List zE)).flatten) := by
  refine Ct.of zMX1_hideByDraws_ok (by decide) (Nat.le_of_ble_eq_true rfl) ?_
  intro Z hZ hR hN hE
  have hRm : zRoom Z 0 0 := zRoom0 Z
  unfold f_Forecast_hideByDraws at hf
  show AW Z 0 0 0 [some (.ref 0), some (.long a1), none, none, none, none] [] ([kForecast 0 5 19 22 30 v0, kTown 5 13 v1, kLaws 13 v2, kLots 19 v3, kLives 22 5 v4, kLives 30 5 v5] : List (List zE)).flatten
  refine AW.run hZ hRm [5] 400 ?_
  show AW Z 0 0 5 [some (.ref 0), some (.long a1), none, some (.long a1), none, some (.int 0)] [] ([kForecast 0 5 19 22 30 v0, kTown 5 13 v1, kLaws 13 v2, kLots 19 v3, kLives 22 5 v4, kLives 30 5 v5] : List (List zE)).flatten
  obtain ⟨q11, h12, hf⟩ := zbind hf
  refine AW.forget [true, false, false, true, false, true] ?_
  show AW Z 0 0 5 [some (.ref 0), none, none, some (.long a1), none, some (.int 0)] [] ([kForecast 0 5 19 22 30 v0, kTown 5 13 v1, kLaws 13 v2, kLots 19 v3, kLives 22 5 v4, kLives 30 5 v5] : List (List zE)).flatten
  refine c_Forecast_hideByDraws_L5 hZ hR (by omega) hN hRm N N v0 v1 v2 v3 v4 v5 a1 0 (Lives_hidden v5) q11 h12 ?_
  show AW Z 0 0 70 [none, none, none, some (.long q11.1), none, none] [] ([kForecast 0 5 19 22 30 v0, kTown 5 13 v1, kLaws 13 v2, kLots 19 v3, kLives 22 5 v4, kLives 30 5 (Lives_hidden_s v5 q11.2)] : List (List zE)).flatten
  refine AW.run hZ hRm [71] 400 ?_
  show AW Z 0 0 71 [none, none, none, some (.long q11.1), none, none] [.long q11.1] ([kForecast 0 5 19 22 30 v0, kTown 5 13 v1, kLaws 13 v2, kLots 19 v3, kLives 22 5 v4, kLives 30 5 (Lives_hidden_s v5 q11.2)] : List (List zE)).flatten
  cases hf
  exact AW.lret hZ hE rfl rfl rfl (Nat.le_refl 0) (Nat.le_refl 0) rfl ⟨rfl, rfl⟩
def f_Lives_goodOf (N : Nat) (v0 : VLives) (v1 : VTown) (v2 : VLaws) (a1 : Int32) : Option (Int32) := (if ((Lives_away v0) = 0) then (some 0) else ((f_Town_has N v1 v2 a1).bind (fun q2 => (if (q2 = 0) then (some 0) else (if (a1 < 0 ∨ 6 ≤ Int32.toNatClampNeg a1) then none else (if (a1 < 0 ∨ 6 ≤ Int32.toNatClampNeg a1) then none else (if (a1 < 0 ∨ 6 ≤ Int32.toNatClampNeg a1) then none else (if (a1 < 0 ∨ 6 ≤ Int32.toNatClampNeg a1) then none else (if (a1 < 0 ∨ 6 ≤ Int32.toNatClampNeg a1) then none else (some ((if 0 < ((((Lives_purse v0) (Int32.toNatClampNeg a1)) - ((Lives_debt v0) (Int32.toNatClampNeg a1))) - ((Lives_worthThen v0) (Int32.toNatClampNeg a1))) then ((((Lives_purse v0) (Int32.toNatClampNeg a1)) - ((Lives_debt v0) (Int32.toNatClampNeg a1))) - ((Lives_worthThen v0) (Int32.toNatClampNeg a1))) else 0) + (5 * (if 0 < (((Lives_home v0) (Int32.toNatClampNeg a1)) - ((Lives_homeThen v0) (Int32.toNatClampNeg a1))) then (((Lives_home v0) (Int32.toNatClampNeg a1)) - ((Lives_homeThen v0) (Int32.toNatClampNeg a1))) else 0)))))))))))))
set_option maxRecDepth 20000 in
set_option maxHeartbeats 4000000 in
theorem c_Lives_goodOf (N : Nat) (v0 : VLives) (v1 : VTown) (v2 : VLaws) (a1 : Int32) (R : Int32) (hf : f_Lives_goodOf N v0 v1 v2 a1 = some R) : Ct zMX3_goodOf 2 0 0 0 [.ref 0, .int a1] ([kLives 0 8 v0, kTown 8 16 v1, kLaws 16 v2] : List (List zE)).flatten (fun v cc => v = some (.int R) ∧ cc = ([kLives 0 8 v0, kTown 8 16 v1, kLaws 16 v2] : List (List zE)).flatten) := by
  refine Ct.of zMX3_goodOf_ok (by decide) (Nat.le_of_ble_eq_true rfl) ?_
  intro Z hZ hR hN hE
  have hRm : zRoom Z 0 0 := zRoom0 Z
  unfold f_Lives_goodOf at hf
  show AW Z 0 0 0 [some (.ref 0), some (.int a1)] [] ([kLives 0 8 v0, kTown 8 16 v1, kLaws 16 v2] : List (List zE)).flatten
  refine AW.run hZ hRm [12, 19] 400 ?_
  show ((((Lives_away v0) = 0) → AW Z 0 0 19 [some (.ref 0), some (.int a1)] [.int 0] ([kLives 0 8 v0, kTown 8 16 v1, kLaws 16 v2] : List (List zE)).flatten) ∧ (¬ ((Lives_away v0) = 0) → AW Z 0 0 12 [some (.ref 0), some (.int a1)] [.int a1, .ref 8] ([kLives 0 8 v0, kTown 8 16 v1, kLaws 16 v2] : List (List zE)).flatten))
  refine ⟨fun c1 => ?_, fun c1 => ?_⟩
  · rw [if_pos c1] at hf
    cases hf
    exact AW.iret hZ hE rfl rfl rfl rfl (Nat.le_refl 0) (Nat.le_refl 0) rfl ⟨rfl, rfl⟩
  · rw [if_neg c1] at hf
    obtain ⟨q2, h9, hf⟩ := zbind hf
    refine AW.callVc hZ hR hN (c_Town_has N v1 v2 a1 q2 h9) zMX8_has_ok rfl rfl zK_BorrowedLives_Lives_70 zV_X8_has rfl [8, 8, 6] [1, 2] [8, 9, 10, 11, 12, 13, 14, 15, 16, 17, 18, 19, 20, 21] rfl rfl rfl (by decide) (by decide) (by omega) (by decide) (Nat.zero_le _) (Nat.zero_le _) rfl rfl rfl rfl rfl ?_
    rintro v cc ⟨rfl, rfl⟩
    refine ⟨_, rfl, rfl, ?_⟩
    show AW Z 0 0 15 [some (.ref 0), some (.int a1)] [.int q2] ([kLives 0 8 v0, kTown 8 16 v1, kLaws 16 v2] : List (List zE)).flatten
    refine AW.run hZ hRm [19, 64] 400 ?_
    show ((¬ (q2 = 0) → (¬ (a1 < 0 ∨ 6 ≤ Int32.toNatClampNeg a1) ∧ (¬ (a1 < 0 ∨ 6 ≤ Int32.toNatClampNeg a1) ∧ (¬ (a1 < 0 ∨ 6 ≤ Int32.toNatClampNeg a1) ∧ (¬ (a1 < 0 ∨ 6 ≤ Int32.toNatClampNeg a1) ∧ (¬ (a1 < 0 ∨ 6 ≤ Int32.toNatClampNeg a1) ∧ AW Z 0 0 64 [some (.ref 0), some (.int a1)] [.int ((if 0 < ((((Lives_purse v0) (Int32.toNatClampNeg a1)) - ((Lives_debt v0) (Int32.toNatClampNeg a1))) - ((Lives_worthThen v0) (Int32.toNatClampNeg a1))) then ((((Lives_purse v0) (Int32.toNatClampNeg a1)) - ((Lives_debt v0) (Int32.toNatClampNeg a1))) - ((Lives_worthThen v0) (Int32.toNatClampNeg a1))) else 0) + (5 * (if 0 < (((Lives_home v0) (Int32.toNatClampNeg a1)) - ((Lives_homeThen v0) (Int32.toNatClampNeg a1))) then (((Lives_home v0) (Int32.toNatClampNeg a1)) - ((Lives_homeThen v0) (Int32.toNatClampNeg a1))) else 0)))] ([kLives 0 8 v0, kTown 8 16 v1, kLaws 16 v2] : List (List zE)).flatten)))))) ∧ ((q2 = 0) → AW Z 0 0 19 [some (.ref 0), some (.int a1)] [.int 0] ([kLives 0 8 v0, kTown 8 16 v1, kLaws 16 v2] : List (List zE)).flatten))
    refine ⟨fun c3 => ?_, fun c3 => ?_⟩
    · rw [if_neg c3] at hf
      obtain ⟨b8, hf⟩ := zneed hf
      refine ⟨b8, ?_⟩
      obtain ⟨b7, hf⟩ := zneed hf
      refine ⟨b7, ?_⟩
      obtain ⟨b6, hf⟩ := zneed hf
      refine ⟨b6, ?_⟩
      obtain ⟨b5, hf⟩ := zneed hf
      refine ⟨b5, ?_⟩
      obtain ⟨b4, hf⟩ := zneed hf
      refine ⟨b4, ?_⟩
      cases hf
      exact AW.iret hZ hE rfl rfl rfl rfl (Nat.le_refl 0) (Nat.le_refl 0) rfl ⟨rfl, rfl⟩
    · rw [if_pos c3] at hf
      cases hf
      exact AW.iret hZ hE rfl rfl rfl rfl (Nat.le_refl 0) (Nat.le_refl 0) rfl ⟨rfl, rfl⟩
