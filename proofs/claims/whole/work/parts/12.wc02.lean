def f_Deeds_seek_L10 (N : Nat) : Nat → VDeeds → VLives → VTown → VLaws → Int32 → Int32 → Int32 → Int32 → Int32 → Int32 → Int32 → (Nat → Int32) → (Nat → Int32) → Option (Int32 × Int32 × (Nat → Int32) × (Nat → Int32))
  | 0, _, _, _, _, _, _, _, _, _, _, _, _, _ => none
  | fuel + 1, v0, v1, v2, v3, y2, y3, y4, y5, x6, m_bestGood0, m_bestRow1, m_facts2, m_stack3 => (if (y5 ≤ x6) then (some (m_bestGood0, m_bestRow1, m_facts2, m_stack3)) else ((f_Deeds_goodBy N v1 v2 (Laws_s_facts_stack v3 m_facts2 m_stack3) x6 y2 y3 y4).bind (fun q3 => (zlet ((if (x6 = 0) then q3.1 else (if (q3.1 ≤ m_bestGood0) then m_bestGood0 else q3.1)) : Int32) (fun z7 => (zlet ((if (x6 = 0) then x6 else (if (q3.1 ≤ m_bestGood0) then m_bestRow1 else x6)) : Int32) (fun z8 => (f_Deeds_seek_L10 N fuel v0 v1 v2 v3 y2 y3 y4 y5 (x6 + 1) z7 z8 q3.2.1 q3.2.2))))))))
def f_Deeds_seek (N : Nat) (v0 : VDeeds) (v1 : VLives) (v2 : VTown) (v3 : VLaws) (a2 : Int32) (a3 : Int32) (a4 : Int32) : Option (Int32 × Int32 × (Nat → Int32) × (Nat → Int32)) := ((f_Deeds_rowsOf N a4).bind (fun q1 => ((f_Deeds_seek_L10 N N v0 v1 v2 v3 a2 a3 a4 q1 0 (Deeds_bestGood v0) (Deeds_bestRow v0) (Laws_facts v3) (Laws_stack v3)).bind (fun q10 => (some (q10.1, q10.2.1, q10.2.2.1, q10.2.2.2))))))
set_option maxRecDepth 20000 in
set_option maxHeartbeats 4000000 in
theorem c_Deeds_seek_L10 {Z : zCtx} {D n0w nf mcw msw : Nat} (hZ : zOk Z zMX0_seek) (hR : zCan Z D mcw msw) (hDd : 4 ≤ D) (hN : zNew Z n0w nf) (hRm : zRoom Z 0 0) (N : Nat) : ∀ (fuel : Nat) (v0 : VDeeds) (v1 : VLives) (v2 : VTown) (v3 : VLaws) (y2 : Int32) (y3 : Int32) (y4 : Int32) (y5 : Int32) (x6 : Int32) (m_bestGood0 : Int32) (m_bestRow1 : Int32) (m_facts2 : (Nat → Int32)) (m_stack3 : (Nat → Int32)) (q : (Int32 × Int32 × (Nat → Int32) × (Nat → Int32))), f_Deeds_seek_L10 N fuel v0 v1 v2 v3 y2 y3 y4 y5 x6 m_bestGood0 m_bestRow1 m_facts2 m_stack3 = some q → (AW Z 0 0 61 [none, none, none, none, none, none, none, none] [] ([kDeeds 0 (Deeds_s_bestGood_bestRow v0 q.1 q.2.1), kLives 1 9 v1, kTown 9 17 v2, kLaws 17 (Laws_s_facts_stack v3 q.2.2.1 q.2.2.2)] : List (List zE)).flatten) → AW Z 0 0 10 [some (.ref 0), some (.ref 1), some (.int y2), some (.int y3), some (.int y4), some (.int y5), some (.int x6), none] [] ([kDeeds 0 (Deeds_s_bestGood_bestRow v0 m_bestGood0 m_bestRow1), kLives 1 9 v1, kTown 9 17 v2, kLaws 17 (Laws_s_facts_stack v3 m_facts2 m_stack3)] : List (List zE)).flatten := by
  intro fuel
  induction fuel with
  | zero =>
    intro v0 v1 v2 v3 y2 y3 y4 y5 x6 m_bestGood0 m_bestRow1 m_facts2 m_stack3 q hf hk0
    simp [f_Deeds_seek_L10] at hf
  | succ fuel ih =>
    intro v0 v1 v2 v3 y2 y3 y4 y5 x6 m_bestGood0 m_bestRow1 m_facts2 m_stack3 q hf hk0
    rw [f_Deeds_seek_L10] at hf
    refine AW.run hZ hRm [24, 61] 400 ?_
    show (((y5 ≤ x6) → AW Z 0 0 61 [some (.ref 0), some (.ref 1), some (.int y2), some (.int y3), some (.int y4), some (.int y5), some (.int x6), none] [] ([kDeeds 0 (Deeds_s_bestGood_bestRow v0 m_bestGood0 m_bestRow1), kLives 1 9 v1, kTown 9 17 v2, kLaws 17 (Laws_s_facts_stack v3 m_facts2 m_stack3)] : List (List zE)).flatten) ∧ (¬ (y5 ≤ x6) → AW Z 0 0 24 [some (.ref 0), some (.ref 1), some (.int y2), some (.int y3), some (.int y4), some (.int y5), some (.int x6), none] [.int y4, .int y3, .int y2, .ref 1, .int x6] ([kDeeds 0 (Deeds_s_bestGood_bestRow v0 m_bestGood0 m_bestRow1), kLives 1 9 v1, kTown 9 17 v2, kLaws 17 (Laws_s_facts_stack v3 m_facts2 m_stack3)] : List (List zE)).flatten))
    refine ⟨fun c2 => ?_, fun c2 => ?_⟩
    · rw [if_pos c2] at hf
      cases hf
      refine AW.forget [false, false, false, false, false, false, false, false] ?_
      show AW Z 0 0 61 [none, none, none, none, none, none, none, none] [] ([kDeeds 0 (Deeds_s_bestGood_bestRow v0 m_bestGood0 m_bestRow1), kLives 1 9 v1, kTown 9 17 v2, kLaws 17 (Laws_s_facts_stack v3 m_facts2 m_stack3)] : List (List zE)).flatten
      exact hk0
    · rw [if_neg c2] at hf
      obtain ⟨q3, h9, hf⟩ := zbind hf
      refine AW.callSc hZ hR hN (c_Deeds_goodBy N v1 v2 (Laws_s_facts_stack v3 m_facts2 m_stack3) x6 y2 y3 y4 q3 h9) zMX0_goodBy_ok rfl rfl zK_BorrowedLives_Deeds_22 zV_X0_goodBy rfl [1, 8, 8, 6] [1, 2, 3] [1, 2, 3, 4, 5, 6, 7, 8, 9, 10, 11, 12, 13, 14, 15, 16, 17, 18, 19, 20, 21, 22] rfl rfl rfl (by decide) (by decide) (by omega) (by decide) (Nat.zero_le _) (Nat.zero_le _) rfl rfl ?_
      rintro v cc ⟨rfl, rfl⟩
      refine ⟨_, rfl, rfl, ?_⟩
      show AW Z 0 0 27 [some (.ref 0), some (.ref 1), some (.int y2), some (.int y3), some (.int y4), some (.int y5), some (.int x6), none] [.int q3.1] ([kDeeds 0 (Deeds_s_bestGood_bestRow v0 m_bestGood0 m_bestRow1), kLives 1 9 v1, kTown 9 17 v2, kLaws 17 (Laws_s_facts_stack v3 q3.2.1 q3.2.2)] : List (List zE)).flatten
      refine AW.run hZ hRm [31] 400 ?_
      show AW Z 0 0 31 [some (.ref 0), some (.ref 1), some (.int y2), some (.int y3), some (.int y4), some (.int y5), some (.int x6), some (.int q3.1)] [.int x6] ([kDeeds 0 (Deeds_s_bestGood_bestRow v0 m_bestGood0 m_bestRow1), kLives 1 9 v1, kTown 9 17 v2, kLaws 17 (Laws_s_facts_stack v3 q3.2.1 q3.2.2)] : List (List zE)).flatten
      suffices H4 : AW Z 0 0 55 [some (.ref 0), some (.ref 1), some (.int y2), some (.int y3), some (.int y4), some (.int y5), some (.int x6), none] [] ([kDeeds 0 (Deeds_s_bestGood_bestRow v0 (if (x6 = 0) then q3.1 else (if (q3.1 ≤ m_bestGood0) then m_bestGood0 else q3.1)) (if (x6 = 0) then x6 else (if (q3.1 ≤ m_bestGood0) then m_bestRow1 else x6))), kLives 1 9 v1, kTown 9 17 v2, kLaws 17 (Laws_s_facts_stack v3 q3.2.1 q3.2.2)] : List (List zE)).flatten from by
        refine AW.run hZ hRm [55] 400 ?_
        show (((x6 = 0) → AW Z 0 0 55 [some (.ref 0), some (.ref 1), some (.int y2), some (.int y3), some (.int y4), some (.int y5), some (.int x6), some (.int q3.1)] [] ([kDeeds 0 (Deeds_s_bestGood_bestRow v0 q3.1 x6), kLives 1 9 v1, kTown 9 17 v2, kLaws 17 (Laws_s_facts_stack v3 q3.2.1 q3.2.2)] : List (List zE)).flatten) ∧ (¬ (x6 = 0) → (((q3.1 ≤ m_bestGood0) → AW Z 0 0 55 [some (.ref 0), some (.ref 1), some (.int y2), some (.int y3), some (.int y4), some (.int y5), some (.int x6), some (.int q3.1)] [] ([kDeeds 0 (Deeds_s_bestGood_bestRow v0 m_bestGood0 m_bestRow1), kLives 1 9 v1, kTown 9 17 v2, kLaws 17 (Laws_s_facts_stack v3 q3.2.1 q3.2.2)] : List (List zE)).flatten) ∧ (¬ (q3.1 ≤ m_bestGood0) → AW Z 0 0 55 [some (.ref 0), some (.ref 1), some (.int y2), some (.int y3), some (.int y4), some (.int y5), some (.int x6), some (.int q3.1)] [] ([kDeeds 0 (Deeds_s_bestGood_bestRow v0 q3.1 x6), kLives 1 9 v1, kTown 9 17 v2, kLaws 17 (Laws_s_facts_stack v3 q3.2.1 q3.2.2)] : List (List zE)).flatten))))
        refine ⟨fun c5 => ?_, fun c5 => ?_⟩
        · refine AW.forget [true, true, true, true, true, true, true, false] ?_
          show AW Z 0 0 55 [some (.ref 0), some (.ref 1), some (.int y2), some (.int y3), some (.int y4), some (.int y5), some (.int x6), none] [] ([kDeeds 0 (Deeds_s_bestGood_bestRow v0 q3.1 x6), kLives 1 9 v1, kTown 9 17 v2, kLaws 17 (Laws_s_facts_stack v3 q3.2.1 q3.2.2)] : List (List zE)).flatten
          simpa only [if_pos c5] using H4
        · refine ⟨fun c6 => ?_, fun c6 => ?_⟩
          · refine AW.forget [true, true, true, true, true, true, true, false] ?_
            show AW Z 0 0 55 [some (.ref 0), some (.ref 1), some (.int y2), some (.int y3), some (.int y4), some (.int y5), some (.int x6), none] [] ([kDeeds 0 (Deeds_s_bestGood_bestRow v0 m_bestGood0 m_bestRow1), kLives 1 9 v1, kTown 9 17 v2, kLaws 17 (Laws_s_facts_stack v3 q3.2.1 q3.2.2)] : List (List zE)).flatten
            simpa only [if_neg c5, if_pos c6] using H4
          · refine AW.forget [true, true, true, true, true, true, true, false] ?_
            show AW Z 0 0 55 [some (.ref 0), some (.ref 1), some (.int y2), some (.int y3), some (.int y4), some (.int y5), some (.int x6), none] [] ([kDeeds 0 (Deeds_s_bestGood_bestRow v0 q3.1 x6), kLives 1 9 v1, kTown 9 17 v2, kLaws 17 (Laws_s_facts_stack v3 q3.2.1 q3.2.2)] : List (List zE)).flatten
            simpa only [if_neg c5, if_neg c6] using H4
      replace hf := zlet_gen hf
      generalize ((if (x6 = 0) then q3.1 else (if (q3.1 ≤ m_bestGood0) then m_bestGood0 else q3.1)) : Int32) = z7 at hf ⊢
      replace hf := zlet_gen hf
      generalize ((if (x6 = 0) then x6 else (if (q3.1 ≤ m_bestGood0) then m_bestRow1 else x6)) : Int32) = z8 at hf ⊢
      refine AW.run hZ hRm [10] 400 ?_
      show AW Z 0 0 10 [some (.ref 0), some (.ref 1), some (.int y2), some (.int y3), some (.int y4), some (.int y5), some (.int (x6 + 1)), none] [] ([kDeeds 0 (Deeds_s_bestGood_bestRow v0 z7 z8), kLives 1 9 v1, kTown 9 17 v2, kLaws 17 (Laws_s_facts_stack v3 q3.2.1 q3.2.2)] : List (List zE)).flatten
      exact ih v0 v1 v2 v3 y2 y3 y4 y5 (x6 + 1) z7 z8 q3.2.1 q3.2.2 q hf hk0
set_option maxRecDepth 20000 in
set_option maxHeartbeats 4000000 in
theorem c_Deeds_seek (N : Nat) (v0 : VDeeds) (v1 : VLives) (v2 : VTown) (v3 : VLaws) (a2 : Int32) (a3 : Int32) (a4 : Int32) (R : Int32 × Int32 × (Nat → Int32) × (Nat → Int32)) (hf : f_Deeds_seek N v0 v1 v2 v3 a2 a3 a4 = some R) : Ct zMX0_seek 4 0 0 0 [.ref 0, .ref 1, .int a2, .int a3, .int a4] ([kDeeds 0 v0, kLives 1 9 v1, kTown 9 17 v2, kLaws 17 v3] : List (List zE)).flatten (fun v cc => v = none ∧ cc = ([kDeeds 0 (Deeds_s_bestGood_bestRow v0 R.1 R.2.1), kLives 1 9 v1, kTown 9 17 v2, kLaws 17 (Laws_s_facts_stack v3 R.2.2.1 R.2.2.2)] : List (List zE)).flatten) := by
  refine Ct.of zMX0_seek_ok (by decide) (Nat.le_of_ble_eq_true rfl) ?_
  intro Z hZ hR hN hE
  have hRm : zRoom Z 0 0 := zRoom0 Z
  unfold f_Deeds_seek at hf
  show AW Z 0 0 0 [some (.ref 0), some (.ref 1), some (.int a2), some (.int a3), some (.int a4), none, none, none] [] ([kDeeds 0 v0, kLives 1 9 v1, kTown 9 17 v2, kLaws 17 v3] : List (List zE)).flatten
  refine AW.run hZ hRm [2] 400 ?_
  show AW Z 0 0 2 [some (.ref 0), some (.ref 1), some (.int a2), some (.int a3), some (.int a4), none, none, none] [.int a4] ([kDeeds 0 v0, kLives 1 9 v1, kTown 9 17 v2, kLaws 17 v3] : List (List zE)).flatten
  obtain ⟨q1, h12, hf⟩ := zbind hf
  refine AW.callSc hZ hR hN (c_Deeds_rowsOf N a4 q1 h12) zMX0_rowsOf_ok rfl rfl zK_BorrowedLives_Deeds_18 zV_X0_rowsOf rfl [1, 8, 8, 6] [] [] rfl rfl rfl (by decide) (by decide) (by omega) (by decide) (Nat.zero_le _) (Nat.zero_le _) rfl rfl ?_
  rintro v cc ⟨rfl, rfl⟩
  refine ⟨_, rfl, rfl, ?_⟩
  show AW Z 0 0 5 [some (.ref 0), some (.ref 1), some (.int a2), some (.int a3), some (.int a4), none, none, none] [.int q1] ([kDeeds 0 v0, kLives 1 9 v1, kTown 9 17 v2, kLaws 17 v3] : List (List zE)).flatten
  refine AW.run hZ hRm [10] 400 ?_
  show AW Z 0 0 10 [some (.ref 0), some (.ref 1), some (.int a2), some (.int a3), some (.int a4), some (.int q1), some (.int 0), none] [] ([kDeeds 0 v0, kLives 1 9 v1, kTown 9 17 v2, kLaws 17 v3] : List (List zE)).flatten
  obtain ⟨q10, h11, hf⟩ := zbind hf
  refine c_Deeds_seek_L10 hZ hR (by omega) hN hRm N N v0 v1 v2 v3 a2 a3 a4 q1 0 (Deeds_bestGood v0) (Deeds_bestRow v0) (Laws_facts v3) (Laws_stack v3) q10 h11 ?_
  show AW Z 0 0 61 [none, none, none, none, none, none, none, none] [] ([kDeeds 0 (Deeds_s_bestGood_bestRow v0 q10.1 q10.2.1), kLives 1 9 v1, kTown 9 17 v2, kLaws 17 (Laws_s_facts_stack v3 q10.2.2.1 q10.2.2.2)] : List (List zE)).flatten
  cases hf
  exact AW.vret hZ hE rfl rfl rfl (Nat.le_refl 0) (Nat.le_refl 0) rfl ⟨rfl, rfl⟩
def f_Deeds_deedOf (N : Nat) (v0 : VDeeds) (a1 : Int32) (a2 : Int32) : Option (Int32) := ((f_Deeds_deedIn N (Deeds_bestRow v0) a1 a2).bind (fun q1 => (some q1)))
set_option maxRecDepth 20000 in
set_option maxHeartbeats 4000000 in
theorem c_Deeds_deedOf (N : Nat) (v0 : VDeeds) (a1 : Int32) (a2 : Int32) (R : Int32) (hf : f_Deeds_deedOf N v0 a1 a2 = some R) : Ct zMX0_deedOf 3 0 0 0 [.ref 0, .int a1, .int a2] ([kDeeds 0 v0] : List (List zE)).flatten (fun v cc => v = some (.int R) ∧ cc = ([kDeeds 0 v0] : List (List zE)).flatten) := by
  refine Ct.of zMX0_deedOf_ok (by decide) (Nat.le_of_ble_eq_true rfl) ?_
  intro Z hZ hR hN hE
  have hRm : zRoom Z 0 0 := zRoom0 Z
  unfold f_Deeds_deedOf at hf
  show AW Z 0 0 0 [some (.ref 0), some (.int a1), some (.int a2)] [] ([kDeeds 0 v0] : List (List zE)).flatten
  refine AW.run hZ hRm [6] 400 ?_
  show AW Z 0 0 6 [some (.ref 0), some (.int a1), some (.int a2)] [.int a2, .int a1, .int (Deeds_bestRow v0)] ([kDeeds 0 v0] : List (List zE)).flatten
  obtain ⟨q1, h2, hf⟩ := zbind hf
  refine AW.callSc hZ hR hN (c_Deeds_deedIn N (Deeds_bestRow v0) a1 a2 q1 h2) zMX0_deedIn_ok rfl rfl zK_BorrowedLives_Deeds_26 zV_X0_deedIn rfl [1] [] [] rfl rfl rfl (by decide) (by decide) (by omega) (by decide) (Nat.zero_le _) (Nat.zero_le _) rfl rfl ?_
  rintro v cc ⟨rfl, rfl⟩
  refine ⟨_, rfl, rfl, ?_⟩
  show AW Z 0 0 9 [some (.ref 0), some (.int a1), some (.int a2)] [.int q1] ([kDeeds 0 v0] : List (List zE)).flatten
  cases hf
  exact AW.iret hZ hE rfl rfl rfl rfl (Nat.le_refl 0) (Nat.le_refl 0) rfl ⟨rfl, rfl⟩
def f_Forecast_forget (N : Nat) (v0 : VForecast) (v1 : VTown) (v2 : VLaws) (v3 : VLots) (v4 : VLives) (v5 : VLives) : Option (Int32 × Int32) := (some (0, (-1)))
set_option maxRecDepth 20000 in
set_option maxHeartbeats 4000000 in
theorem c_Forecast_forget (N : Nat) (v0 : VForecast) (v1 : VTown) (v2 : VLaws) (v3 : VLots) (v4 : VLives) (v5 : VLives) (R : Int32 × Int32) (hf : f_Forecast_forget N v0 v1 v2 v3 v4 v5 = some R) : Ct zMX1_forget 1 0 0 0 [.ref 0] ([kForecast 0 5 19 22 30 v0, kTown 5 13 v1, kLaws 13 v2, kLots 19 v3, kLives 22 5 v4, kLives 30 5 v5] : List (List zE)).flatten (fun v cc => v = none ∧ cc = ([kForecast 0 5 19 22 30 (Forecast_s_ready_prepared v0 R.1 R.2), kTown 5 13 v1, kLaws 13 v2, kLots 19 v3, kLives 22 5 v4, kLives 30 5 v5] : List (List zE)).flatten) := by
  refine Ct.of zMX1_forget_ok (by decide) (Nat.le_of_ble_eq_true rfl) ?_
  intro Z hZ hR hN hE
  have hRm : zRoom Z 0 0 := zRoom0 Z
  unfold f_Forecast_forget at hf
  show AW Z 0 0 0 [some (.ref 0)] [] ([kForecast 0 5 19 22 30 v0, kTown 5 13 v1, kLaws 13 v2, kLots 19 v3, kLives 22 5 v4, kLives 30 5 v5] : List (List zE)).flatten
  refine AW.run hZ hRm [10] 400 ?_
  show (((0 : Int32) = 0 ∨ (0 : Int32) = 1) ∧ AW Z 0 0 10 [some (.ref 0)] [] ([kForecast 0 5 19 22 30 (Forecast_s_ready_prepared v0 0 (-1)), kTown 5 13 v1, kLaws 13 v2, kLots 19 v3, kLives 22 5 v4, kLives 30 5 v5] : List (List zE)).flatten)
  refine ⟨(by decide), ?_⟩
  cases hf
  exact AW.vret hZ hE rfl rfl rfl (Nat.le_refl 0) (Nat.le_refl 0) rfl ⟨rfl, rfl⟩
def f_Lives_copyFrom (N : Nat) (v0 : VLives) (v1 : VTown) (v2 : VLaws) (v3 : VLives) : Option ((Nat → Int32) × (Nat → Int32) × (Nat → Int32) × (Nat → Int32) × (Nat → Int32) × (Nat → Int32) × (Nat → Int32) × Int32 × Int32 × Int32 × Int32) := (if ((Lives_away v3) = 0 ∨ (Lives_away v3) = 1) then (some ((va_cpy (Lives_purse v3) (Lives_purse v0) (Int32.toNatClampNeg 0) (Int32.toNatClampNeg 0) (Int32.toNatClampNeg 6)), (va_cpy (Lives_debt v3) (Lives_debt v0) (Int32.toNatClampNeg 0) (Int32.toNatClampNeg 0) (Int32.toNatClampNeg 6)), (va_cpy (Lives_home v3) (Lives_home v0) (Int32.toNatClampNeg 0) (Int32.toNatClampNeg 0) (Int32.toNatClampNeg 6)), (va_cpy (Lives_hidden v3) (Lives_hidden v0) (Int32.toNatClampNeg 0) (Int32.toNatClampNeg 0) (Int32.toNatClampNeg 6)), (va_cpy (Lives_self v3) (Lives_self v0) (Int32.toNatClampNeg 0) (Int32.toNatClampNeg 0) (Int32.toNatClampNeg 6)), (va_cpy (Lives_worthThen v3) (Lives_worthThen v0) (Int32.toNatClampNeg 0) (Int32.toNatClampNeg 0) (Int32.toNatClampNeg 6)), (va_cpy (Lives_homeThen v3) (Lives_homeThen v0) (Int32.toNatClampNeg 0) (Int32.toNatClampNeg 0) (Int32.toNatClampNeg 6)), (Lives_away v3), (Lives_days v3), (Lives_homes v3), (Lives_harm v3))) else none)
set_option maxRecDepth 20000 in
set_option maxHeartbeats 4000000 in
theorem c_Lives_copyFrom (N : Nat) (v0 : VLives) (v1 : VTown) (v2 : VLaws) (v3 : VLives) (R : (Nat → Int32) × (Nat → Int32) × (Nat → Int32) × (Nat → Int32) × (Nat → Int32) × (Nat → Int32) × (Nat → Int32) × Int32 × Int32 × Int32 × Int32) (hf : f_Lives_copyFrom N v0 v1 v2 v3 = some R) : Ct zMX3_copyFrom 2 0 0 0 [.ref 0, .ref 22] ([kLives 0 8 v0, kTown 8 16 v1, kLaws 16 v2, kLives 22 8 v3] : List (List zE)).flatten (fun v cc => v = none ∧ cc = ([kLives 0 8 (Lives_s_purse_debt_home_hidden_self_worthThen_homeThen_away_days_homes_harm v0 R.1 R.2.1 R.2.2.1 R.2.2.2.1 R.2.2.2.2.1 R.2.2.2.2.2.1 R.2.2.2.2.2.2.1 R.2.2.2.2.2.2.2.1 R.2.2.2.2.2.2.2.2.1 R.2.2.2.2.2.2.2.2.2.1 R.2.2.2.2.2.2.2.2.2.2), kTown 8 16 v1, kLaws 16 v2, kLives 22 8 v3] : List (List zE)).flatten) := by
  refine Ct.of zMX3_copyFrom_ok (by decide) (Nat.le_of_ble_eq_true rfl) ?_
  intro Z hZ hR hN hE
  have hRm : zRoom Z 0 0 := zRoom0 Z
  unfold f_Lives_copyFrom at hf
  show AW Z 0 0 0 [some (.ref 0), some (.ref 22)] [] ([kLives 0 8 v0, kTown 8 16 v1, kLaws 16 v2, kLives 22 8 v3] : List (List zE)).flatten
  refine AW.run hZ hRm [137] 400 ?_
  show ((zcpyOk 0 0 6 6 6) ∧ ((zcpyOk 0 0 6 6 6) ∧ ((zcpyOk 0 0 6 6 6) ∧ ((zcpyOk 0 0 6 6 6) ∧ ((zcpyOk 0 0 6 6 6) ∧ ((zcpyOk 0 0 6 6 6) ∧ ((zcpyOk 0 0 6 6 6) ∧ (((Lives_away v3) = 0 ∨ (Lives_away v3) = 1) ∧ AW Z 0 0 137 [some (.ref 0), some (.ref 22)] [] ([kLives 0 8 (Lives_s_purse_debt_home_hidden_self_worthThen_homeThen_away_days_homes_harm v0 (va_cpy (Lives_purse v3) (Lives_purse v0) (Int32.toNatClampNeg 0) (Int32.toNatClampNeg 0) (Int32.toNatClampNeg 6)) (va_cpy (Lives_debt v3) (Lives_debt v0) (Int32.toNatClampNeg 0) (Int32.toNatClampNeg 0) (Int32.toNatClampNeg 6)) (va_cpy (Lives_home v3) (Lives_home v0) (Int32.toNatClampNeg 0) (Int32.toNatClampNeg 0) (Int32.toNatClampNeg 6)) (va_cpy (Lives_hidden v3) (Lives_hidden v0) (Int32.toNatClampNeg 0) (Int32.toNatClampNeg 0) (Int32.toNatClampNeg 6)) (va_cpy (Lives_self v3) (Lives_self v0) (Int32.toNatClampNeg 0) (Int32.toNatClampNeg 0) (Int32.toNatClampNeg 6)) (va_cpy (Lives_worthThen v3) (Lives_worthThen v0) (Int32.toNatClampNeg 0) (Int32.toNatClampNeg 0) (Int32.toNatClampNeg 6)) (va_cpy (Lives_homeThen v3) (Lives_homeThen v0) (Int32.toNatClampNeg 0) (Int32.toNatClampNeg 0) (Int32.toNatClampNeg 6)) (Lives_away v3) (Lives_days v3) (Lives_homes v3) (Lives_harm v3)), kTown 8 16 v1, kLaws 16 v2, kLives 22 8 v3] : List (List zE)).flatten))))))))
  refine ⟨(by unfold zcpyOk; decide), ?_⟩
  refine ⟨(by unfold zcpyOk; decide), ?_⟩
  refine ⟨(by unfold zcpyOk; decide), ?_⟩
  refine ⟨(by unfold zcpyOk; decide), ?_⟩
  refine ⟨(by unfold zcpyOk; decide), ?_⟩
  refine ⟨(by unfold zcpyOk; decide), ?_⟩
  refine ⟨(by unfold zcpyOk; decide), ?_⟩
  obtain ⟨b1, hf⟩ := zneedP hf
  refine ⟨b1, ?_⟩
  cases hf
  exact AW.vret hZ hE rfl rfl rfl (Nat.le_refl 0) (Nat.le_refl 0) rfl ⟨rfl, rfl⟩
def f_Lots_selfIn (N : Nat) (v0 : VLots) (a1 : Int32) (a2 : Int32) : Option (Int32) := (zlet ((if (a1 < 0) then 0 else (if ((Lots_count v0) ≤ a1) then 0 else (if (265 ≤ a1) then 0 else (if (a2 < 0) then 0 else (if (6 ≤ a2) then 0 else 1))))) : Int32) (fun z7 => (if (z7 = 0) then (some (-1)) else (if (((a1 * 6) + a2) < 0 ∨ 1590 ≤ Int32.toNatClampNeg ((a1 * 6) + a2)) then none else (some ((Lots_selves v0) (Int32.toNatClampNeg ((a1 * 6) + a2))))))))
set_option maxRecDepth 20000 in
set_option maxHeartbeats 4000000 in
theorem c_Lots_selfIn (N : Nat) (v0 : VLots) (a1 : Int32) (a2 : Int32) (R : Int32) (hf : f_Lots_selfIn N v0 a1 a2 = some R) : Ct zMX4_selfIn 1 0 0 0 [.ref 0, .int a1, .int a2] ([kLots 0 v0] : List (List zE)).flatten (fun v cc => v = some (.int R) ∧ cc = ([kLots 0 v0] : List (List zE)).flatten) := by
  refine Ct.of zMX4_selfIn_ok (by decide) (Nat.le_of_ble_eq_true rfl) ?_
  intro Z hZ hR hN hE
  have hRm : zRoom Z 0 0 := zRoom0 Z
  unfold f_Lots_selfIn at hf
  show AW Z 0 0 0 [some (.ref 0), some (.int a1), some (.int a2), none] [] ([kLots 0 v0] : List (List zE)).flatten
  refine AW.run hZ hRm [1] 400 ?_
  show AW Z 0 0 1 [some (.ref 0), some (.int a1), some (.int a2), none] [.int a1] ([kLots 0 v0] : List (List zE)).flatten
  suffices H1 : AW Z 0 0 34 [some (.ref 0), some (.int a1), some (.int a2), none] [.int (if (a1 < 0) then 0 else (if ((Lots_count v0) ≤ a1) then 0 else (if (265 ≤ a1) then 0 else (if (a2 < 0) then 0 else (if (6 ≤ a2) then 0 else 1)))))] ([kLots 0 v0] : List (List zE)).flatten from by
    refine AW.run hZ hRm [34] 400 ?_
    show (((a1 < 0) → AW Z 0 0 34 [some (.ref 0), some (.int a1), some (.int a2), none] [.int 0] ([kLots 0 v0] : List (List zE)).flatten) ∧ (¬ (a1 < 0) → ((((Lots_count v0) ≤ a1) → AW Z 0 0 34 [some (.ref 0), some (.int a1), some (.int a2), none] [.int 0] ([kLots 0 v0] : List (List zE)).flatten) ∧ (¬ ((Lots_count v0) ≤ a1) → (((265 ≤ a1) → AW Z 0 0 34 [some (.ref 0), some (.int a1), some (.int a2), none] [.int 0] ([kLots 0 v0] : List (List zE)).flatten) ∧ (¬ (265 ≤ a1) → (((a2 < 0) → AW Z 0 0 34 [some (.ref 0), some (.int a1), some (.int a2), none] [.int 0] ([kLots 0 v0] : List (List zE)).flatten) ∧ (¬ (a2 < 0) → (((6 ≤ a2) → AW Z 0 0 34 [some (.ref 0), some (.int a1), some (.int a2), none] [.int 0] ([kLots 0 v0] : List (List zE)).flatten) ∧ (¬ (6 ≤ a2) → AW Z 0 0 34 [some (.ref 0), some (.int a1), some (.int a2), none] [.int 1] ([kLots 0 v0] : List (List zE)).flatten))))))))))
    refine ⟨fun c2 => ?_, fun c2 => ?_⟩
    · simpa only [if_pos c2] using H1
    · refine ⟨fun c3 => ?_, fun c3 => ?_⟩
      · simpa only [if_neg c2, if_pos c3] using H1
      · refine ⟨fun c4 => ?_, fun c4 => ?_⟩
        · simpa only [if_neg c2, if_neg c3, if_pos c4] using H1
        · refine ⟨fun c5 => ?_, fun c5 => ?_⟩
          · simpa only [if_neg c2, if_neg c3, if_neg c4, if_pos c5] using H1
          · refine ⟨fun c6 => ?_, fun c6 => ?_⟩
            · simpa only [if_neg c2, if_neg c3, if_neg c4, if_neg c5, if_pos c6] using H1
            · simpa only [if_neg c2, if_neg c3, if_neg c4, if_neg c5, if_neg c6] using H1
  replace hf := zlet_gen hf
  generalize ((if (a1 < 0) then 0 else (if ((Lots_count v0) ≤ a1) then 0 else (if (265 ≤ a1) then 0 else (if (a2 < 0) then 0 else (if (6 ≤ a2) then 0 else 1))))) : Int32) = z7 at hf ⊢
  refine AW.run hZ hRm [54] 400 ?_
  show (((z7 = 0) → AW Z 0 0 54 [some (.ref 0), some (.int a1), some (.int a2), some (.int z7)] [.int (-1)] ([kLots 0 v0] : List (List zE)).flatten) ∧ (¬ (z7 = 0) → (¬ (((a1 * 6) + a2) < 0 ∨ 1590 ≤ Int32.toNatClampNeg ((a1 * 6) + a2)) ∧ AW Z 0 0 54 [some (.ref 0), some (.int a1), some (.int a2), some (.int z7)] [.int ((Lots_selves v0) (Int32.toNatClampNeg ((a1 * 6) + a2)))] ([kLots 0 v0] : List (List zE)).flatten)))
  refine ⟨fun c8 => ?_, fun c8 => ?_⟩
  · rw [if_pos c8] at hf
    cases hf
    exact AW.iret hZ hE rfl rfl rfl rfl (Nat.le_refl 0) (Nat.le_refl 0) rfl ⟨rfl, rfl⟩
  · rw [if_neg c8] at hf
    obtain ⟨b9, hf⟩ := zneed hf
    refine ⟨b9, ?_⟩
    cases hf
    exact AW.iret hZ hE rfl rfl rfl rfl (Nat.le_refl 0) (Nat.le_refl 0) rfl ⟨rfl, rfl⟩
def f_Lives_goAway_L2 (N : Nat) : Nat → VLives → VTown → VLaws → VLots → Int32 → Int32 → (Nat → Int32) → (Nat → Int32) → (Nat → Int32) → Option ((Nat → Int32) × (Nat → Int32) × (Nat → Int32))
  | 0, _, _, _, _, _, _, _, _, _ => none
  | fuel + 1, v0, v1, v2, v3, y2, x3, m_self0, m_worthThen1, m_homeThen2 => (if (6 ≤ x3) then (some (m_self0, m_worthThen1, m_homeThen2)) else ((f_Lots_selfIn N v3 y2 x3).bind (fun q2 => (if (x3 < 0 ∨ 6 ≤ Int32.toNatClampNeg x3) then none else (if (x3 < 0 ∨ 6 ≤ Int32.toNatClampNeg x3) then none else (if (x3 < 0 ∨ 6 ≤ Int32.toNatClampNeg x3) then none else (if (x3 < 0 ∨ 6 ≤ Int32.toNatClampNeg x3) then none else (if (x3 < 0 ∨ 6 ≤ Int32.toNatClampNeg x3) then none else (if (x3 < 0 ∨ 6 ≤ Int32.toNatClampNeg x3) then none else (f_Lives_goAway_L2 N fuel v0 v1 v2 v3 y2 (x3 + 1) (upd m_self0 (Int32.toNatClampNeg x3) q2) (upd m_worthThen1 (Int32.toNatClampNeg x3) (((Lives_purse v0) (Int32.toNatClampNeg x3)) - ((Lives_debt v0) (Int32.toNatClampNeg x3)))) (upd m_homeThen2 (Int32.toNatClampNeg x3) ((Lives_home v0) (Int32.toNatClampNeg x3)))))))))))))
def f_Lives_goAway (N : Nat) (v0 : VLives) (v1 : VTown) (v2 : VLaws) (v3 : VLots) (a2 : Int32) : Option ((Nat → Int32) × (Nat → Int32) × (Nat → Int32) × Int32 × Int32) := ((f_Lives_goAway_L2 N N v0 v1 v2 v3 a2 0 (Lives_self v0) (Lives_worthThen v0) (Lives_homeThen v0)).bind (fun q10 => (some (q10.1, q10.2.1, q10.2.2, 1, 0))))
set_option maxRecDepth 20000 in
set_option maxHeartbeats 4000000 in
theorem c_Lives_goAway_L2 {Z : zCtx} {D n0w nf mcw msw : Nat} (hZ : zOk Z zMX3_goAway) (hR : zCan Z D mcw msw) (hDd : 2 ≤ D) (hN : zNew Z n0w nf) (hRm : zRoom Z 0 0) (N : Nat) : ∀ (fuel : Nat) (v0 : VLives) (v1 : VTown) (v2 : VLaws) (v3 : VLots) (y2 : Int32) (x3 : Int32) (m_self0 : (Nat → Int32)) (m_worthThen1 : (Nat → Int32)) (m_homeThen2 : (Nat → Int32)) (q : ((Nat → Int32) × (Nat → Int32) × (Nat → Int32))), f_Lives_goAway_L2 N fuel v0 v1 v2 v3 y2 x3 m_self0 m_worthThen1 m_homeThen2 = some q → (AW Z 0 0 57 [some (.ref 0), none, none, none] [] ([kLives 0 8 (Lives_s_self_worthThen_homeThen v0 q.1 q.2.1 q.2.2), kTown 8 16 v1, kLaws 16 v2, kLots 22 v3] : List (List zE)).flatten) → AW Z 0 0 2 [some (.ref 0), some (.ref 22), some (.int y2), some (.int x3)] [] ([kLives 0 8 (Lives_s_self_worthThen_homeThen v0 m_self0 m_worthThen1 m_homeThen2), kTown 8 16 v1, kLaws 16 v2, kLots 22 v3] : List (List zE)).flatten := by
  intro fuel
  induction fuel with
  | zero =>
    intro v0 v1 v2 v3 y2 x3 m_self0 m_worthThen1 m_homeThen2 q hf hk0
    simp [f_Lives_goAway_L2] at hf
  | succ fuel ih =>
    intro v0 v1 v2 v3 y2 x3 m_self0 m_worthThen1 m_homeThen2 q hf hk0
    rw [f_Lives_goAway_L2] at hf
    refine AW.run hZ hRm [16, 57] 400 ?_
    show (((6 ≤ x3) → AW Z 0 0 57 [some (.ref 0), some (.ref 22), some (.int y2), some (.int x3)] [] ([kLives 0 8 (Lives_s_self_worthThen_homeThen v0 m_self0 m_worthThen1 m_homeThen2), kTown 8 16 v1, kLaws 16 v2, kLots 22 v3] : List (List zE)).flatten) ∧ (¬ (6 ≤ x3) → AW Z 0 0 16 [some (.ref 0), some (.ref 22), some (.int y2), some (.int x3)] [.int x3, .int y2, .ref 22, .int x3, .ref 5] ([kLives 0 8 (Lives_s_self_worthThen_homeThen v0 m_self0 m_worthThen1 m_homeThen2), kTown 8 16 v1, kLaws 16 v2, kLots 22 v3] : List (List zE)).flatten))
    refine ⟨fun c1 => ?_, fun c1 => ?_⟩
    · rw [if_pos c1] at hf
      cases hf
      refine AW.forget [true, false, false, false] ?_
      show AW Z 0 0 57 [some (.ref 0), none, none, none] [] ([kLives 0 8 (Lives_s_self_worthThen_homeThen v0 m_self0 m_worthThen1 m_homeThen2), kTown 8 16 v1, kLaws 16 v2, kLots 22 v3] : List (List zE)).flatten
      exact hk0
    · rw [if_neg c1] at hf
      obtain ⟨q2, h9, hf⟩ := zbind hf
      refine AW.callVc hZ hR hN (c_Lots_selfIn N v3 y2 x3 q2 h9) zMX4_selfIn_ok rfl rfl zK_BorrowedLives_Lives_91 zV_X4_selfIn rfl [8, 8, 6, 3] [3] [22, 23, 24] rfl rfl rfl (by decide) (by decide) (by omega) (by decide) (Nat.zero_le _) (Nat.zero_le _) rfl rfl rfl rfl rfl ?_
      rintro v cc ⟨rfl, rfl⟩
      refine ⟨_, rfl, rfl, ?_⟩
      show AW Z 0 0 19 [some (.ref 0), some (.ref 22), some (.int y2), some (.int x3)] [.int q2, .int x3, .ref 5] ([kLives 0 8 (Lives_s_self_worthThen_homeThen v0 m_self0 m_worthThen1 m_homeThen2), kTown 8 16 v1, kLaws 16 v2, kLots 22 v3] : List (List zE)).flatten
      refine AW.run hZ hRm [2] 400 ?_
      show (¬ (x3 < 0 ∨ 6 ≤ Int32.toNatClampNeg x3) ∧ (¬ (x3 < 0 ∨ 6 ≤ Int32.toNatClampNeg x3) ∧ (¬ (x3 < 0 ∨ 6 ≤ Int32.toNatClampNeg x3) ∧ (¬ (x3 < 0 ∨ 6 ≤ Int32.toNatClampNeg x3) ∧ (¬ (x3 < 0 ∨ 6 ≤ Int32.toNatClampNeg x3) ∧ (¬ (x3 < 0 ∨ 6 ≤ Int32.toNatClampNeg x3) ∧ AW Z 0 0 2 [some (.ref 0), some (.ref 22), some (.int y2), some (.int (x3 + 1))] [] ([kLives 0 8 (Lives_s_self_worthThen_homeThen v0 (upd m_self0 (Int32.toNatClampNeg x3) q2) (upd m_worthThen1 (Int32.toNatClampNeg x3) (((Lives_purse v0) (Int32.toNatClampNeg x3)) - ((Lives_debt v0) (Int32.toNatClampNeg x3)))) (upd m_homeThen2 (Int32.toNatClampNeg x3) ((Lives_home v0) (Int32.toNatClampNeg x3)))), kTown 8 16 v1, kLaws 16 v2, kLots 22 v3] : List (List zE)).flatten))))))
      obtain ⟨b8, hf⟩ := zneed hf
      refine ⟨b8, ?_⟩
      obtain ⟨b7, hf⟩ := zneed hf
      refine ⟨b7, ?_⟩
      obtain ⟨b6, hf⟩ := zneed hf
      refine ⟨b6, ?_⟩
      obtain ⟨b5, hf⟩ := zneed hf
      refine ⟨b5, ?_⟩
      obtain ⟨b4, hf⟩ := zneed hf
      refine ⟨b4, ?_⟩
      obtain ⟨b3, hf⟩ := zneed hf
      refine ⟨b3, ?_⟩
      exact ih v0 v1 v2 v3 y2 (x3 + 1) (upd m_self0 (Int32.toNatClampNeg x3) q2) (upd m_worthThen1 (Int32.toNatClampNeg x3) (((Lives_purse v0) (Int32.toNatClampNeg x3)) - ((Lives_debt v0) (Int32.toNatClampNeg x3)))) (upd m_homeThen2 (Int32.toNatClampNeg x3) ((Lives_home v0) (Int32.toNatClampNeg x3))) q hf hk0
set_option maxRecDepth 20000 in
set_option maxHeartbeats 4000000 in
theorem c_Lives_goAway (N : Nat) (v0 : VLives) (v1 : VTown) (v2 : VLaws) (v3 : VLots) (a2 : Int32) (R : (Nat → Int32) × (Nat → Int32) × (Nat → Int32) × Int32 × Int32) (hf : f_Lives_goAway N v0 v1 v2 v3 a2 = some R) : Ct zMX3_goAway 2 0 0 0 [.ref 0, .ref 22, .int a2] ([kLives 0 8 v0, kTown 8 16 v1, kLaws 16 v2, kLots 22 v3] : List (List zE)).flatten (fun v cc => v = none ∧ cc = ([kLives 0 8 (Lives_s_self_worthThen_homeThen_away_days v0 R.1 R.2.1 R.2.2.1 R.2.2.2.1 R.2.2.2.2), kTown 8 16 v1, kLaws 16 v2, kLots 22 v3] : List (List zE)).flatten) := by
  refine Ct.of zMX3_goAway_ok (by decide) (Nat.le_of_ble_eq_true rfl) ?_
  intro Z hZ hR hN hE
  have hRm : zRoom Z 0 0 := zRoom0 Z
  unfold f_Lives_goAway at hf
  show AW Z 0 0 0 [some (.ref 0), some (.ref 22), some (.int a2), none] [] ([kLives 0 8 v0, kTown 8 16 v1, kLaws 16 v2, kLots 22 v3] : List (List zE)).flatten
  refine AW.run hZ hRm [2] 400 ?_
  show AW Z 0 0 2 [some (.ref 0), some (.ref 22), some (.int a2), some (.int 0)] [] ([kLives 0 8 v0, kTown 8 16 v1, kLaws 16 v2, kLots 22 v3] : List (List zE)).flatten
  obtain ⟨q10, h11, hf⟩ := zbind hf
  refine c_Lives_goAway_L2 hZ hR (by omega) hN hRm N N v0 v1 v2 v3 a2 0 (Lives_self v0) (Lives_worthThen v0) (Lives_homeThen v0) q10 h11 ?_
  show AW Z 0 0 57 [some (.ref 0), none, none, none] [] ([kLives 0 8 (Lives_s_self_worthThen_homeThen v0 q10.1 q10.2.1 q10.2.2), kTown 8 16 v1, kLaws 16 v2, kLots 22 v3] : List (List zE)).flatten
  refine AW.run hZ hRm [67] 400 ?_
  show (((1 : Int32) = 0 ∨ (1 : Int32) = 1) ∧ AW Z 0 0 67 [some (.ref 0), none, none, none] [] ([kLives 0 8 (Lives_s_self_worthThen_homeThen_away_days v0 q10.1 q10.2.1 q10.2.2 1 0), kTown 8 16 v1, kLaws 16 v2, kLots 22 v3] : List (List zE)).flatten)
  refine ⟨(by decide), ?_⟩
  cases hf
  exact AW.vret hZ hE rfl rfl rfl (Nat.le_refl 0) (Nat.le_refl 0) rfl ⟨rfl, rfl⟩
def f_Lives_openMoney (N : Nat) (v0 : VLives) (v1 : VTown) (v2 : VLaws) (a1 : Int32) : Option (Int32) := ((f_Town_has N v1 v2 a1).bind (fun q1 => (if (q1 = 0) then (some 0) else (if (a1 < 0 ∨ 6 ≤ Int32.toNatClampNeg a1) then none else (if (a1 < 0 ∨ 6 ≤ Int32.toNatClampNeg a1) then none else (some (if 0 < (((Lives_purse v0) (Int32.toNatClampNeg a1)) - ((Lives_hidden v0) (Int32.toNatClampNeg a1))) then (((Lives_purse v0) (Int32.toNatClampNeg a1)) - ((Lives_hidden v0) (Int32.toNatClampNeg a1))) else 0)))))))
set_option maxRecDepth 20000 in
set_option maxHeartbeats 4000000 in
theorem c_Lives_openMoney (N : Nat) (v0 : VLives) (v1 : VTown) (v2 : VLaws) (a1 : Int32) (R : Int32) (hf : f_Lives_openMoney N v0 v1 v2 a1 = some R) : Ct zMX3_openMoney 2 0 0 0 [.ref 0, .int a1] ([kLives 0 8 v0, kTown 8 16 v1, kLaws 16 v2] : List (List zE)).flatten (fun v cc => v = some (.int R) ∧ cc = ([kLives 0 8 v0, kTown 8 16 v1, kLaws 16 v2] : List (List zE)).flatten) := by
  refine Ct.of zMX3_openMoney_ok (by decide) (Nat.le_of_ble_eq_true rfl) ?_
  intro Z hZ hR hN hE
  have hRm : zRoom Z 0 0 := zRoom0 Z
  unfold f_Lives_openMoney at hf
  show AW Z 0 0 0 [some (.ref 0), some (.int a1)] [] ([kLives 0 8 v0, kTown 8 16 v1, kLaws 16 v2] : List (List zE)).flatten
  refine AW.run hZ hRm [5] 400 ?_
  show AW Z 0 0 5 [some (.ref 0), some (.int a1)] [.int a1, .ref 8] ([kLives 0 8 v0, kTown 8 16 v1, kLaws 16 v2] : List (List zE)).flatten
  obtain ⟨q1, h5, hf⟩ := zbind hf
  refine AW.callVc hZ hR hN (c_Town_has N v1 v2 a1 q1 h5) zMX8_has_ok rfl rfl zK_BorrowedLives_Lives_70 zV_X8_has rfl [8, 8, 6] [1, 2] [8, 9, 10, 11, 12, 13, 14, 15, 16, 17, 18, 19, 20, 21] rfl rfl rfl (by decide) (by decide) (by omega) (by decide) (Nat.zero_le _) (Nat.zero_le _) rfl rfl rfl rfl rfl ?_
  rintro v cc ⟨rfl, rfl⟩
  refine ⟨_, rfl, rfl, ?_⟩
  show AW Z 0 0 8 [some (.ref 0), some (.int a1)] [.int q1] ([kLives 0 8 v0, kTown 8 16 v1, kLaws 16 v2] : List (List zE)).flatten
  refine AW.run hZ hRm [32] 400 ?_
  show (((q1 = 0) → AW Z 0 0 32 [some (.ref 0), some (.int a1)] [.int 0] ([kLives 0 8 v0, kTown 8 16 v1, kLaws 16 v2] : List (List zE)).flatten) ∧ (¬ (q1 = 0) → (¬ (a1 < 0 ∨ 6 ≤ Int32.toNatClampNeg a1) ∧ (¬ (a1 < 0 ∨ 6 ≤ Int32.toNatClampNeg a1) ∧ AW Z 0 0 32 [some (.ref 0), some (.int a1)] [.int (if 0 < (((Lives_purse v0) (Int32.toNatClampNeg a1)) - ((Lives_hidden v0) (Int32.toNatClampNeg a1))) then (((Lives_purse v0) (Int32.toNatClampNeg a1)) - ((Lives_hidden v0) (Int32.toNatClampNeg a1))) else 0)] ([kLives 0 8 v0, kTown 8 16 v1, kLaws 16 v2] : List (List zE)).flatten))))
  refine ⟨fun c2 => ?_, fun c2 => ?_⟩
  · rw [if_pos c2] at hf
    cases hf
    exact AW.iret hZ hE rfl rfl rfl rfl (Nat.le_refl 0) (Nat.le_refl 0) rfl ⟨rfl, rfl⟩
  · rw [if_neg c2] at hf
    obtain ⟨b4, hf⟩ := zneed hf
    refine ⟨b4, ?_⟩
    obtain ⟨b3, hf⟩ := zneed hf
    refine ⟨b3, ?_⟩
    cases hf
    exact AW.iret hZ hE rfl rfl rfl rfl (Nat.le_refl 0) (Nat.le_refl 0) rfl ⟨rfl, rfl⟩
def f_Lives_gain (N : Nat) (v0 : VLives) (v1 : VTown) (v2 : VLaws) (a1 : Int32) (a2 : Int32) : Option ((Nat → Int32)) := ((f_Town_has N v1 v2 a1).bind (fun q1 => (if (q1 = 0) then (some (Lives_purse v0)) else (if (a1 < 0 ∨ 6 ≤ Int32.toNatClampNeg a1) then none else (if (a1 < 0 ∨ 6 ≤ Int32.toNatClampNeg a1) then none else (some (upd (Lives_purse v0) (Int32.toNatClampNeg a1) (if (((Lives_purse v0) (Int32.toNatClampNeg a1)) + a2) < 9999 then (((Lives_purse v0) (Int32.toNatClampNeg a1)) + a2) else 9999))))))))
set_option maxRecDepth 20000 in
set_option maxHeartbeats 4000000 in
theorem c_Lives_gain (N : Nat) (v0 : VLives) (v1 : VTown) (v2 : VLaws) (a1 : Int32) (a2 : Int32) (R : (Nat → Int32)) (hf : f_Lives_gain N v0 v1 v2 a1 a2 = some R) : Ct zMX3_gain 2 0 0 0 [.ref 0, .int a1, .int a2] ([kLives 0 8 v0, kTown 8 16 v1, kLaws 16 v2] : List (List zE)).flatten (fun v cc => v = none ∧ cc = ([kLives 0 8 (Lives_purse_s v0 R), kTown 8 16 v1, kLaws 16 v2] : List (List zE)).flatten) := by
  refine Ct.of zMX3_gain_ok (by decide) (Nat.le_of_ble_eq_true rfl) ?_
  intro Z hZ hR hN hE
  have hRm : zRoom Z 0 0 := zRoom0 Z
  unfold f_Lives_gain at hf
  show AW Z 0 0 0 [some (.ref 0), some (.int a1), some (.int a2)] [] ([kLives 0 8 v0, kTown 8 16 v1, kLaws 16 v2] : List (List zE)).flatten
  refine AW.run hZ hRm [5] 400 ?_
  show AW Z 0 0 5 [some (.ref 0), some (.int a1), some (.int a2)] [.int a1, .ref 8] ([kLives 0 8 v0, kTown 8 16 v1, kLaws 16 v2] : List (List zE)).flatten
  obtain ⟨q1, h5, hf⟩ := zbind hf
  refine AW.callVc hZ hR hN (c_Town_has N v1 v2 a1 q1 h5) zMX8_has_ok rfl rfl zK_BorrowedLives_Lives_70 zV_X8_has rfl [8, 8, 6] [1, 2] [8, 9, 10, 11, 12, 13, 14, 15, 16, 17, 18, 19, 20, 21] rfl rfl rfl (by decide) (by decide) (by omega) (by decide) (Nat.zero_le _) (Nat.zero_le _) rfl rfl rfl rfl rfl ?_
  rintro v cc ⟨rfl, rfl⟩
  refine ⟨_, rfl, rfl, ?_⟩
  show AW Z 0 0 8 [some (.ref 0), some (.int a1), some (.int a2)] [.int q1] ([kLives 0 8 v0, kTown 8 16 v1, kLaws 16 v2] : List (List zE)).flatten
  refine AW.run hZ hRm [31] 400 ?_
  show (((q1 = 0) → AW Z 0 0 31 [some (.ref 0), some (.int a1), some (.int a2)] [] ([kLives 0 8 v0, kTown 8 16 v1, kLaws 16 v2] : List (List zE)).flatten) ∧ (¬ (q1 = 0) → (¬ (a1 < 0 ∨ 6 ≤ Int32.toNatClampNeg a1) ∧ (¬ (a1 < 0 ∨ 6 ≤ Int32.toNatClampNeg a1) ∧ AW Z 0 0 31 [some (.ref 0), some (.int a1), some (.int a2)] [] ([kLives 0 8 (Lives_purse_s v0 (upd (Lives_purse v0) (Int32.toNatClampNeg a1) (if (((Lives_purse v0) (Int32.toNatClampNeg a1)) + a2) < 9999 then (((Lives_purse v0) (Int32.toNatClampNeg a1)) + a2) else 9999))), kTown 8 16 v1, kLaws 16 v2] : List (List zE)).flatten))))
  refine ⟨fun c2 => ?_, fun c2 => ?_⟩
  · rw [if_pos c2] at hf
    cases hf
    exact AW.vret hZ hE rfl rfl rfl (Nat.le_refl 0) (Nat.le_refl 0) rfl ⟨rfl, rfl⟩
  · rw [if_neg c2] at hf
    obtain ⟨b4, hf⟩ := zneed hf
    refine ⟨b4, ?_⟩
    obtain ⟨b3, hf⟩ := zneed hf
    refine ⟨b3, ?_⟩
    cases hf
    exact AW.vret hZ hE rfl rfl rfl (Nat.le_refl 0) (Nat.le_refl 0) rfl ⟨rfl, rfl⟩
def f_Lives_poorestBut_L4 (N : Nat) : Nat → VLives → VTown → VLaws → Int32 → Int32 → Int32 → Option (Int32)
  | 0, _, _, _, _, _, _ => none
  | fuel + 1, v0, v1, v2, y1, x2, x3 => (if ((Town_people v1) ≤ x3) then (some x2) else (if (6 ≤ x3) then (some x2) else (if (x3 = y1) then (f_Lives_poorestBut_L4 N fuel v0 v1 v2 y1 x2 (x3 + 1)) else (if (x2 = (-1)) then (f_Lives_poorestBut_L4 N fuel v0 v1 v2 y1 x3 (x3 + 1)) else (if (x3 < 0 ∨ 6 ≤ Int32.toNatClampNeg x3) then none else (if (x2 < 0 ∨ 6 ≤ Int32.toNatClampNeg x2) then none else (zlet ((if (((Lives_purse v0) (Int32.toNatClampNeg x2)) ≤ ((Lives_purse v0) (Int32.toNatClampNeg x3))) then x2 else x3) : Int32) (fun z7 => (f_Lives_poorestBut_L4 N fuel v0 v1 v2 y1 z7 (x3 + 1))))))))))
def f_Lives_poorestBut (N : Nat) (v0 : VLives) (v1 : VTown) (v2 : VLaws) (a1 : Int32) : Option (Int32) := ((f_Lives_poorestBut_L4 N N v0 v1 v2 a1 (-1) 0).bind (fun q10 => (some q10)))
set_option maxRecDepth 20000 in
set_option maxHeartbeats 4000000 in
theorem c_Lives_poorestBut_L4 {Z : zCtx} {D n0w nf mcw msw : Nat} (hZ : zOk Z zMX3_poorestBut) (hR : zCan Z D mcw msw) (hDd : 1 ≤ D) (hN : zNew Z n0w nf) (hRm : zRoom Z 0 0) (N : Nat) : ∀ (fuel : Nat) (v0 : VLives) (v1 : VTown) (v2 : VLaws) (y1 : Int32) (x2 : Int32) (x3 : Int32) (q : (Int32)), f_Lives_poorestBut_L4 N fuel v0 v1 v2 y1 x2 x3 = some q → (AW Z 0 0 54 [none, none, some (.int q), none] [] ([kLives 0 8 v0, kTown 8 16 v1, kLaws 16 v2] : List (List zE)).flatten) → AW Z 0 0 4 [some (.ref 0), some (.int y1), some (.int x2), some (.int x3)] [] ([kLives 0 8 v0, kTown 8 16 v1, kLaws 16 v2] : List (List zE)).flatten := by
  intro fuel
  induction fuel with
  | zero =>
    intro v0 v1 v2 y1 x2 x3 q hf hk0
    simp [f_Lives_poorestBut_L4] at hf
  | succ fuel ih =>
    intro v0 v1 v2 y1 x2 x3 q hf hk0
    rw [f_Lives_poorestBut_L4] at hf
    refine AW.run hZ hRm [4, 43, 54] 400 ?_
    show ((((Town_people v1) ≤ x3) → AW Z 0 0 54 [some (.ref 0), some (.int y1), some (.int x2), some (.int x3)] [] ([kLives 0 8 v0, kTown 8 16 v1, kLaws 16 v2] : List (List zE)).flatten) ∧ (¬ ((Town_people v1) ≤ x3) → (((6 ≤ x3) → AW Z 0 0 54 [some (.ref 0), some (.int y1), some (.int x2), some (.int x3)] [] ([kLives 0 8 v0, kTown 8 16 v1, kLaws 16 v2] : List (List zE)).flatten) ∧ (¬ (6 ≤ x3) → (((x3 = y1) → AW Z 0 0 4 [some (.ref 0), some (.int y1), some (.int x2), some (.int (x3 + 1))] [] ([kLives 0 8 v0, kTown 8 16 v1, kLaws 16 v2] : List (List zE)).flatten) ∧ (¬ (x3 = y1) → (((x2 = (-1)) → AW Z 0 0 4 [some (.ref 0), some (.int y1), some (.int x3), some (.int (x3 + 1))] [] ([kLives 0 8 v0, kTown 8 16 v1, kLaws 16 v2] : List (List zE)).flatten) ∧ (¬ (x2 = (-1)) → (¬ (x3 < 0 ∨ 6 ≤ Int32.toNatClampNeg x3) ∧ (¬ (x2 < 0 ∨ 6 ≤ Int32.toNatClampNeg x2) ∧ AW Z 0 0 43 [some (.ref 0), some (.int y1), some (.int x2), some (.int x3)] [.int ((Lives_purse v0) (Int32.toNatClampNeg x2)), .int ((Lives_purse v0) (Int32.toNatClampNeg x3))] ([kLives 0 8 v0, kTown 8 16 v1, kLaws 16 v2] : List (List zE)).flatten))))))))))
    refine ⟨fun c1 => ?_, fun c1 => ?_⟩
    · rw [if_pos c1] at hf
      cases hf
      refine AW.forget [false, false, true, false] ?_
      show AW Z 0 0 54 [none, none, some (.int x2), none] [] ([kLives 0 8 v0, kTown 8 16 v1, kLaws 16 v2] : List (List zE)).flatten
      exact hk0
    · rw [if_neg c1] at hf
      refine ⟨fun c2 => ?_, fun c2 => ?_⟩
      · rw [if_pos c2] at hf
        cases hf
        refine AW.forget [false, false, true, false] ?_
        show AW Z 0 0 54 [none, none, some (.int x2), none] [] ([kLives 0 8 v0, kTown 8 16 v1, kLaws 16 v2] : List (List zE)).flatten
        exact hk0
      · rw [if_neg c2] at hf
        refine ⟨fun c3 => ?_, fun c3 => ?_⟩
        · rw [if_pos c3] at hf
          exact ih v0 v1 v2 y1 x2 (x3 + 1) q hf hk0
        · rw [if_neg c3] at hf
          refine ⟨fun c4 => ?_, fun c4 => ?_⟩
          · rw [if_pos c4] at hf
            exact ih v0 v1 v2 y1 x3 (x3 + 1) q hf hk0
          · rw [if_neg c4] at hf
            obtain ⟨b9, hf⟩ := zneed hf
            refine ⟨b9, ?_⟩
            obtain ⟨b8, hf⟩ := zneed hf
            refine ⟨b8, ?_⟩
            suffices H5 : AW Z 0 0 48 [some (.ref 0), some (.int y1), some (.int (if (((Lives_purse v0) (Int32.toNatClampNeg x2)) ≤ ((Lives_purse v0) (Int32.toNatClampNeg x3))) then x2 else x3)), some (.int x3)] [] ([kLives 0 8 v0, kTown 8 16 v1, kLaws 16 v2] : List (List zE)).flatten from by
              refine AW.run hZ hRm [48] 400 ?_
              show (((((Lives_purse v0) (Int32.toNatClampNeg x2)) ≤ ((Lives_purse v0) (Int32.toNatClampNeg x3))) → AW Z 0 0 48 [some (.ref 0), some (.int y1), some (.int x2), some (.int x3)] [] ([kLives 0 8 v0, kTown 8 16 v1, kLaws 16 v2] : List (List zE)).flatten) ∧ (¬ (((Lives_purse v0) (Int32.toNatClampNeg x2)) ≤ ((Lives_purse v0) (Int32.toNatClampNeg x3))) → AW Z 0 0 48 [some (.ref 0), some (.int y1), some (.int x3), some (.int x3)] [] ([kLives 0 8 v0, kTown 8 16 v1, kLaws 16 v2] : List (List zE)).flatten))
              refine ⟨fun c6 => ?_, fun c6 => ?_⟩
              · simpa only [if_pos c6] using H5
              · simpa only [if_neg c6] using H5
            replace hf := zlet_gen hf
            generalize ((if (((Lives_purse v0) (Int32.toNatClampNeg x2)) ≤ ((Lives_purse v0) (Int32.toNatClampNeg x3))) then x2 else x3) : Int32) = z7 at hf ⊢
            refine AW.run hZ hRm [4] 400 ?_
            show AW Z 0 0 4 [some (.ref 0), some (.int y1), some (.int z7), some (.int (x3 + 1))] [] ([kLives 0 8 v0, kTown 8 16 v1, kLaws 16 v2] : List (List zE)).flatten
            exact ih v0 v1 v2 y1 z7 (x3 + 1) q hf hk0
set_option maxRecDepth 20000 in
set_option maxHeartbeats 4000000 in
theorem c_Lives_poorestBut (N : Nat) (v0 : VLives) (v1 : VTown) (v2 : VLaws) (a1 : Int32) (R : Int32) (hf : f_Lives_poorestBut N v0 v1 v2 a1 = some R) : Ct zMX3_poorestBut 1 0 0 0 [.ref 0, .int a1] ([kLives 0 8 v0, kTown 8 16 v1, kLaws 16 v2] : List (List zE)).flatten (fun v cc => v = some (.int R) ∧ cc = ([kLives 0 8 v0, kTown 8 16 v1, kLaws 16 v2] : List (List zE)).flatten) := by
  refine Ct.of zMX3_poorestBut_ok (by decide) (Nat.le_of_ble_eq_true rfl) ?_
  intro Z hZ hR hN hE
  have hRm : zRoom Z 0 0 := zRoom0 Z
  unfold f_Lives_poorestBut at hf
  show AW Z 0 0 0 [some (.ref 0), some (.int a1), none, none] [] ([kLives 0 8 v0, kTown 8 16 v1, kLaws 16 v2] : List (List zE)).flatten
  refine AW.run hZ hRm [4] 400 ?_
  show AW Z 0 0 4 [some (.ref 0), some (.int a1), some (.int (-1)), some (.int 0)] [] ([kLives 0 8 v0, kTown 8 16 v1, kLaws 16 v2] : List (List zE)).flatten
  obtain ⟨q10, h11, hf⟩ := zbind hf
  refine c_Lives_poorestBut_L4 hZ hR (by omega) hN hRm N N v0 v1 v2 a1 (-1) 0 q10 h11 ?_
  show AW Z 0 0 54 [none, none, some (.int q10), none] [] ([kLives 0 8 v0, kTown 8 16 v1, kLaws 16 v2] : List (List zE)).flatten
  refine AW.run hZ hRm [55] 400 ?_
  show AW Z 0 0 55 [none, none, some (.int q10), none] [.int q10] ([kLives 0 8 v0, kTown 8 16 v1, kLaws 16 v2] : List (List zE)).flatten
  cases hf
  exact AW.iret hZ hE rfl rfl rfl rfl (Nat.le_refl 0) (Nat.le_refl 0) rfl ⟨rfl, rfl⟩
