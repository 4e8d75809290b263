def f_R_weekBy_L20 (N : Nat) : Nat → VR → Int32 → (Nat → Int32) → (Nat → Int32) → (Nat → Int32) → Option ((Nat → Int32) × (Nat → Int32) × (Nat → Int32))
  | 0, _, _, _, _, _ => none
  | fuel + 1, v0, x2, m_facts0, m_pile1, m_state2 => (if (7 ≤ x2) then (some (m_facts0, m_pile1, m_state2)) else ((f_R_passes N (R_s_facts_pile_state v0 m_facts0 m_pile1 m_state2) 1584).bind (fun q4 => (f_R_weekBy_L20 N fuel v0 (x2 + 1) q4.1 q4.2.1 q4.2.2))))
def f_R_weekBy (N : Nat) (v0 : VR) (a1 : Int32) : Option ((Nat → Int32) × (Nat → Int32) × (Nat → Int32)) := ((f_R_copies N v0 0 1584 46).bind (fun q1 => ((f_R_leaves N (R_state_s v0 q1) 1584 a1).bind (fun q2 => ((f_R_weekBy_L20 N N (R_state_s v0 q2) 0 (R_facts v0) (R_pile v0) q2).bind (fun q6 => (some (q6.1, q6.2.1, q6.2.2))))))))
set_option maxRecDepth 20000 in
set_option maxHeartbeats 4000000 in
theorem c_R_weekBy_L20 {Z : zCtx} {D n0w nf mcw msw : Nat} (hZ : zOk Z zMX12_weekBy) (hR : zCan Z D mcw msw) (hDd : 5 ≤ D) (hN : zNew Z n0w nf) (hRm : zRoom Z 0 0) (N : Nat) : ∀ (fuel : Nat) (v0 : VR) (x2 : Int32) (m_facts0 : (Nat → Int32)) (m_pile1 : (Nat → Int32)) (m_state2 : (Nat → Int32)) (q : ((Nat → Int32) × (Nat → Int32) × (Nat → Int32))), f_R_weekBy_L20 N fuel v0 x2 m_facts0 m_pile1 m_state2 = some q → (AW Z 0 0 39 [none, none, none] [] ([kR 0 (R_s_facts_pile_state v0 q.1 q.2.1 q.2.2)] : List (List zE)).flatten) → AW Z 0 0 20 [some (.ref 0), none, some (.int x2)] [] ([kR 0 (R_s_facts_pile_state v0 m_facts0 m_pile1 m_state2)] : List (List zE)).flatten := by
  intro fuel
  induction fuel with
  | zero =>
    intro v0 x2 m_facts0 m_pile1 m_state2 q hf hk0
    simp [f_R_weekBy_L20] at hf
  | succ fuel ih =>
    intro v0 x2 m_facts0 m_pile1 m_state2 q hf hk0
    rw [f_R_weekBy_L20] at hf
    refine AW.run hZ hRm [30, 39] 400 ?_
    show (((7 ≤ x2) → AW Z 0 0 39 [some (.ref 0), none, some (.int x2)] [] ([kR 0 (R_s_facts_pile_state v0 m_facts0 m_pile1 m_state2)] : List (List zE)).flatten) ∧ (¬ (7 ≤ x2) → AW Z 0 0 30 [some (.ref 0), none, some (.int x2)] [.int 1584, .ref 0] ([kR 0 (R_s_facts_pile_state v0 m_facts0 m_pile1 m_state2)] : List (List zE)).flatten))
    refine ⟨fun c3 => ?_, fun c3 => ?_⟩
    · rw [if_pos c3] at hf
      cases hf
      refine AW.forget [false, false, false] ?_
      show AW Z 0 0 39 [none, none, none] [] ([kR 0 (R_s_facts_pile_state v0 m_facts0 m_pile1 m_state2)] : List (List zE)).flatten
      exact hk0
    · rw [if_neg c3] at hf
      obtain ⟨q4, h5, hf⟩ := zbind hf
      refine AW.callVc hZ hR hN (c_R_passes N (R_s_facts_pile_state v0 m_facts0 m_pile1 m_state2) 1584 q4 h5) zMX12_passes_ok rfl rfl zK_BorrowedLivesModel_402 zV_X12_passes rfl [25] [0] [0, 1, 2, 3, 4, 5, 6, 7, 8, 9, 10, 11, 12, 13, 14, 15, 16, 17, 18, 19, 20, 21, 22, 23, 24] rfl rfl rfl (by decide) (by decide) (by omega) (by decide) (Nat.zero_le _) (Nat.zero_le _) rfl rfl rfl rfl rfl ?_
      rintro v cc ⟨rfl, rfl⟩
      refine ⟨_, rfl, rfl, ?_⟩
      show AW Z 0 0 33 [some (.ref 0), none, some (.int x2)] [] ([kR 0 (R_s_facts_pile_state v0 q4.1 q4.2.1 q4.2.2)] : List (List zE)).flatten
      refine AW.run hZ hRm [20] 400 ?_
      show AW Z 0 0 20 [some (.ref 0), none, some (.int (x2 + 1))] [] ([kR 0 (R_s_facts_pile_state v0 q4.1 q4.2.1 q4.2.2)] : List (List zE)).flatten
      exact ih v0 (x2 + 1) q4.1 q4.2.1 q4.2.2 q hf hk0
set_option maxRecDepth 20000 in
set_option maxHeartbeats 4000000 in
theorem c_R_weekBy (N : Nat) (v0 : VR) (a1 : Int32) (R : (Nat → Int32) × (Nat → Int32) × (Nat → Int32)) (hf : f_R_weekBy N v0 a1 = some R) : Ct zMX12_weekBy 5 0 0 0 [.ref 0, .int a1] ([kR 0 v0] : List (List zE)).flatten (fun v cc => v = none ∧ cc = ([kR 0 (R_s_facts_pile_state v0 R.1 R.2.1 R.2.2)] : List (List zE)).flatten) := by
  refine Ct.of zMX12_weekBy_ok (by decide) (Nat.le_of_ble_eq_true rfl) ?_
  intro Z hZ hR hN hE
  have hRm : zRoom Z 0 0 := zRoom0 Z
  unfold f_R_weekBy at hf
  show AW Z 0 0 0 [some (.ref 0), some (.int a1), none] [] ([kR 0 v0] : List (List zE)).flatten
  refine AW.run hZ hRm [7] 400 ?_
  show AW Z 0 0 7 [some (.ref 0), some (.int a1), none] [.int 46, .int 1584, .int 0, .ref 0] ([kR 0 v0] : List (List zE)).flatten
  obtain ⟨q1, h9, hf⟩ := zbind hf
  refine AW.callVc hZ hR hN (c_R_copies N v0 0 1584 46 q1 h9) zMX12_copies_ok rfl rfl zK_BorrowedLivesModel_309 zV_X12_copies rfl [25] [0] [0, 1, 2, 3, 4, 5, 6, 7, 8, 9, 10, 11, 12, 13, 14, 15, 16, 17, 18, 19, 20, 21, 22, 23, 24] rfl rfl rfl (by decide) (by decide) (by omega) (by decide) (Nat.zero_le _) (Nat.zero_le _) rfl rfl rfl rfl rfl ?_
  rintro v cc ⟨rfl, rfl⟩
  refine ⟨_, rfl, rfl, ?_⟩
  show AW Z 0 0 10 [some (.ref 0), some (.int a1), none] [] ([kR 0 (R_state_s v0 q1)] : List (List zE)).flatten
  refine AW.run hZ hRm [15] 400 ?_
  show AW Z 0 0 15 [some (.ref 0), some (.int a1), none] [.int a1, .int 1584, .ref 0] ([kR 0 (R_state_s v0 q1)] : List (List zE)).flatten
  obtain ⟨q2, h8, hf⟩ := zbind hf
  refine AW.callVc hZ hR hN (c_R_leaves N (R_state_s v0 q1) 1584 a1 q2 h8) zMX12_leaves_ok rfl rfl zK_BorrowedLivesModel_387 zV_X12_leaves rfl [25] [0] [0, 1, 2, 3, 4, 5, 6, 7, 8, 9, 10, 11, 12, 13, 14, 15, 16, 17, 18, 19, 20, 21, 22, 23, 24] rfl rfl rfl (by decide) (by decide) (by omega) (by decide) (Nat.zero_le _) (Nat.zero_le _) rfl rfl rfl rfl rfl ?_
  rintro v cc ⟨rfl, rfl⟩
  refine ⟨_, rfl, rfl, ?_⟩
  show AW Z 0 0 18 [some (.ref 0), some (.int a1), none] [] ([kR 0 (R_state_s v0 q2)] : List (List zE)).flatten
  refine AW.run hZ hRm [20] 400 ?_
  show AW Z 0 0 20 [some (.ref 0), some (.int a1), some (.int 0)] [] ([kR 0 (R_state_s v0 q2)] : List (List zE)).flatten
  obtain ⟨q6, h7, hf⟩ := zbind hf
  refine AW.forget [true, false, true] ?_
  show AW Z 0 0 20 [some (.ref 0), none, some (.int 0)] [] ([kR 0 (R_state_s v0 q2)] : List (List zE)).flatten
  refine c_R_weekBy_L20 hZ hR (by omega) hN hRm N N (R_state_s v0 q2) 0 (R_facts v0) (R_pile v0) q2 q6 h7 ?_
  show AW Z 0 0 39 [none, none, none] [] ([kR 0 (R_s_facts_pile_state v0 q6.1 q6.2.1 q6.2.2)] : List (List zE)).flatten
  cases hf
  exact AW.vret hZ hE rfl rfl rfl (Nat.le_refl 0) (Nat.le_refl 0) rfl ⟨rfl, rfl⟩
def f_R_lots (N : Nat) (v0 : VR) : Option (Int32 × Int32) := (some ((R_lotsMany v0), 0))
set_option maxRecDepth 20000 in
set_option maxHeartbeats 4000000 in
theorem c_R_lots (N : Nat) (v0 : VR) (R : Int32 × Int32) (hf : f_R_lots N v0 = some R) : Ct zMX12_lots 1 0 0 0 [.ref 0] ([kR 0 v0] : List (List zE)).flatten (fun v cc => v = some (.int R.1) ∧ cc = ([kR 0 (R_thrown_s v0 R.2)] : List (List zE)).flatten) := by
  refine Ct.of zMX12_lots_ok (by decide) (Nat.le_of_ble_eq_true rfl) ?_
  intro Z hZ hR hN hE
  have hRm : zRoom Z 0 0 := zRoom0 Z
  unfold f_R_lots at hf
  show AW Z 0 0 0 [some (.ref 0)] [] ([kR 0 v0] : List (List zE)).flatten
  refine AW.run hZ hRm [9] 400 ?_
  show AW Z 0 0 9 [some (.ref 0)] [.int (R_lotsMany v0)] ([kR 0 (R_thrown_s v0 0)] : List (List zE)).flatten
  cases hf
  exact AW.iret hZ hE rfl rfl rfl rfl (Nat.le_refl 0) (Nat.le_refl 0) rfl ⟨rfl, rfl⟩
def f_R_odds_L35 (N : Nat) : Nat → VR → Int32 → Int32 → Int32 → Int32 → Option (Int32)
  | 0, _, _, _, _, _ => none
  | fuel + 1, v0, y1, y2, x3, x4 => (if ((R_lotsMany v0) ≤ x4) then (some x3) else ((f_R_selfOf N v0 x4 y2).bind (fun q7 => (f_R_odds_L35 N fuel v0 y1 y2 (x3 + (if (q7 = y1) then 1 else 0)) (x4 + 1)))))
def f_R_odds (N : Nat) (v0 : VR) (a1 : Int32) (a2 : Int32) : Option (Int32 × Int32) := ((f_R_isPerson N (R_thrown_s v0 0) a1).bind (fun q1 => (if (q1 = 0) then (some ((-1), 0)) else ((f_R_isPerson N (R_thrown_s v0 0) a2).bind (fun q3 => (if (q3 = 0) then (some ((-1), 0)) else (if ((R_lotsMany v0) = 0) then (some ((-1), 0)) else ((f_R_odds_L35 N N (R_thrown_s v0 0) a1 a2 0 0).bind (fun q11 => (if ((R_lotsMany v0) = 0) then none else (some (((q11 * 1000000) / (R_lotsMany v0)), 0))))))))))))
set_option maxRecDepth 20000 in
set_option maxHeartbeats 4000000 in
theorem c_R_odds_L35 {Z : zCtx} {D n0w nf mcw msw : Nat} (hZ : zOk Z zMX12_odds) (hR : zCan Z D mcw msw) (hDd : 3 ≤ D) (hN : zNew Z n0w nf) (hRm : zRoom Z 0 0) (N : Nat) : ∀ (fuel : Nat) (v0 : VR) (y1 : Int32) (y2 : Int32) (x3 : Int32) (x4 : Int32) (q : (Int32)), f_R_odds_L35 N fuel v0 y1 y2 x3 x4 = some q → (AW Z 0 0 69 [some (.ref 0), none, none, some (.int q), none] [] ([kR 0 v0] : List (List zE)).flatten) → AW Z 0 0 35 [some (.ref 0), some (.int y1), some (.int y2), some (.int x3), some (.int x4)] [] ([kR 0 v0] : List (List zE)).flatten := by
  intro fuel
  induction fuel with
  | zero =>
    intro v0 y1 y2 x3 x4 q hf hk0
    simp [f_R_odds_L35] at hf
  | succ fuel ih =>
    intro v0 y1 y2 x3 x4 q hf hk0
    rw [f_R_odds_L35] at hf
    refine AW.run hZ hRm [49, 69] 400 ?_
    show ((((R_lotsMany v0) ≤ x4) → AW Z 0 0 69 [some (.ref 0), some (.int y1), some (.int y2), some (.int x3), some (.int x4)] [] ([kR 0 v0] : List (List zE)).flatten) ∧ (¬ ((R_lotsMany v0) ≤ x4) → AW Z 0 0 49 [some (.ref 0), some (.int y1), some (.int y2), some (.int x3), some (.int x4)] [.int y2, .int x4, .ref 0, .int x3] ([kR 0 v0] : List (List zE)).flatten))
    refine ⟨fun c6 => ?_, fun c6 => ?_⟩
    · rw [if_pos c6] at hf
      cases hf
      refine AW.forget [true, false, false, true, false] ?_
      show AW Z 0 0 69 [some (.ref 0), none, none, some (.int x3), none] [] ([kR 0 v0] : List (List zE)).flatten
      exact hk0
    · rw [if_neg c6] at hf
      obtain ⟨q7, h10, hf⟩ := zbind hf
      refine AW.callVc hZ hR hN (c_R_selfOf N v0 x4 y2 q7 h10) zMX12_selfOf_ok rfl rfl zK_BorrowedLivesModel_346 zV_X12_selfOf rfl [25] [0] [0, 1, 2, 3, 4, 5, 6, 7, 8, 9, 10, 11, 12, 13, 14, 15, 16, 17, 18, 19, 20, 21, 22, 23, 24] rfl rfl rfl (by decide) (by decide) (by omega) (by decide) (Nat.zero_le _) (Nat.zero_le _) rfl rfl rfl rfl rfl ?_
      rintro v cc ⟨rfl, rfl⟩
      refine ⟨_, rfl, rfl, ?_⟩
      show AW Z 0 0 52 [some (.ref 0), some (.int y1), some (.int y2), some (.int x3), some (.int x4)] [.int q7, .int x3] ([kR 0 v0] : List (List zE)).flatten
      refine AW.run hZ hRm [53] 400 ?_
      show AW Z 0 0 53 [some (.ref 0), some (.int y1), some (.int y2), some (.int x3), some (.int x4)] [.int y1, .int q7, .int x3] ([kR 0 v0] : List (List zE)).flatten
      suffices H8 : AW Z 0 0 61 [some (.ref 0), some (.int y1), some (.int y2), none, some (.int x4)] [.int (if (q7 = y1) then 1 else 0), .int x3] ([kR 0 v0] : List (List zE)).flatten from by
        refine AW.run hZ hRm [61] 400 ?_
        show ((¬ (q7 = y1) → AW Z 0 0 61 [some (.ref 0), some (.int y1), some (.int y2), some (.int x3), some (.int x4)] [.int 0, .int x3] ([kR 0 v0] : List (List zE)).flatten) ∧ ((q7 = y1) → AW Z 0 0 61 [some (.ref 0), some (.int y1), some (.int y2), some (.int x3), some (.int x4)] [.int 1, .int x3] ([kR 0 v0] : List (List zE)).flatten))
        refine ⟨fun c9 => ?_, fun c9 => ?_⟩
        · refine AW.forget [true, true, true, false, true] ?_
          show AW Z 0 0 61 [some (.ref 0), some (.int y1), some (.int y2), none, some (.int x4)] [.int 0, .int x3] ([kR 0 v0] : List (List zE)).flatten
          simpa only [if_neg c9] using H8
        · refine AW.forget [true, true, true, false, true] ?_
          show AW Z 0 0 61 [some (.ref 0), some (.int y1), some (.int y2), none, some (.int x4)] [.int 1, .int x3] ([kR 0 v0] : List (List zE)).flatten
          simpa only [if_pos c9] using H8
      refine AW.run hZ hRm [35] 400 ?_
      show AW Z 0 0 35 [some (.ref 0), some (.int y1), some (.int y2), some (.int (x3 + (if (q7 = y1) then 1 else 0))), some (.int (x4 + 1))] [] ([kR 0 v0] : List (List zE)).flatten
      exact ih v0 y1 y2 (x3 + (if (q7 = y1) then 1 else 0)) (x4 + 1) q hf hk0
set_option maxRecDepth 20000 in
set_option maxHeartbeats 4000000 in
theorem c_R_odds (N : Nat) (v0 : VR) (a1 : Int32) (a2 : Int32) (R : Int32 × Int32) (hf : f_R_odds N v0 a1 a2 = some R) : Ct zMX12_odds 3 0 0 0 [.ref 0, .int a1, .int a2] ([kR 0 v0] : List (List zE)).flatten (fun v cc => v = some (.int R.1) ∧ cc = ([kR 0 (R_thrown_s v0 R.2)] : List (List zE)).flatten) := by
  refine Ct.of zMX12_odds_ok (by decide) (Nat.le_of_ble_eq_true rfl) ?_
  intro Z hZ hR hN hE
  have hRm : zRoom Z 0 0 := zRoom0 Z
  unfold f_R_odds at hf
  show AW Z 0 0 0 [some (.ref 0), some (.int a1), some (.int a2), none, none] [] ([kR 0 v0] : List (List zE)).flatten
  refine AW.run hZ hRm [7] 400 ?_
  show AW Z 0 0 7 [some (.ref 0), some (.int a1), some (.int a2), none, none] [.int a1, .ref 0] ([kR 0 (R_thrown_s v0 0)] : List (List zE)).flatten
  obtain ⟨q1, h15, hf⟩ := zbind hf
  refine AW.callVc hZ hR hN (c_R_isPerson N (R_thrown_s v0 0) a1 q1 h15) zMX12_isPerson_ok rfl rfl zK_BorrowedLivesModel_356 zV_X12_isPerson rfl [25] [0] [0, 1, 2, 3, 4, 5, 6, 7, 8, 9, 10, 11, 12, 13, 14, 15, 16, 17, 18, 19, 20, 21, 22, 23, 24] rfl rfl rfl (by decide) (by decide) (by omega) (by decide) (Nat.zero_le _) (Nat.zero_le _) rfl rfl rfl rfl rfl ?_
  rintro v cc ⟨rfl, rfl⟩
  refine ⟨_, rfl, rfl, ?_⟩
  show AW Z 0 0 10 [some (.ref 0), some (.int a1), some (.int a2), none, none] [.int q1] ([kR 0 (R_thrown_s v0 0)] : List (List zE)).flatten
  refine AW.run hZ hRm [15, 29] 400 ?_
  show (((q1 = 0) → AW Z 0 0 29 [some (.ref 0), some (.int a1), some (.int a2), none, none] [.int (-1)] ([kR 0 (R_thrown_s v0 0)] : List (List zE)).flatten) ∧ (¬ (q1 = 0) → AW Z 0 0 15 [some (.ref 0), some (.int a1), some (.int a2), none, none] [.int a2, .ref 0] ([kR 0 (R_thrown_s v0 0)] : List (List zE)).flatten))
  refine ⟨fun c2 => ?_, fun c2 => ?_⟩
  · rw [if_pos c2] at hf
    cases hf
    exact AW.iret hZ hE rfl rfl rfl rfl (Nat.le_refl 0) (Nat.le_refl 0) rfl ⟨rfl, rfl⟩
  · rw [if_neg c2] at hf
    obtain ⟨q3, h14, hf⟩ := zbind hf
    refine AW.callVc hZ hR hN (c_R_isPerson N (R_thrown_s v0 0) a2 q3 h14) zMX12_isPerson_ok rfl rfl zK_BorrowedLivesModel_356 zV_X12_isPerson rfl [25] [0] [0, 1, 2, 3, 4, 5, 6, 7, 8, 9, 10, 11, 12, 13, 14, 15, 16, 17, 18, 19, 20, 21, 22, 23, 24] rfl rfl rfl (by decide) (by decide) (by omega) (by decide) (Nat.zero_le _) (Nat.zero_le _) rfl rfl rfl rfl rfl ?_
    rintro v cc ⟨rfl, rfl⟩
    refine ⟨_, rfl, rfl, ?_⟩
    show AW Z 0 0 18 [some (.ref 0), some (.int a1), some (.int a2), none, none] [.int q3] ([kR 0 (R_thrown_s v0 0)] : List (List zE)).flatten
    refine AW.run hZ hRm [29, 35] 400 ?_
    show (((q3 = 0) → AW Z 0 0 29 [some (.ref 0), some (.int a1), some (.int a2), none, none] [.int (-1)] ([kR 0 (R_thrown_s v0 0)] : List (List zE)).flatten) ∧ (¬ (q3 = 0) → ((¬ ((R_lotsMany v0) = 0) → AW Z 0 0 35 [some (.ref 0), some (.int a1), some (.int a2), some (.int 0), some (.int 0)] [] ([kR 0 (R_thrown_s v0 0)] : List (List zE)).flatten) ∧ (((R_lotsMany v0) = 0) → AW Z 0 0 29 [some (.ref 0), some (.int a1), some (.int a2), none, none] [.int (-1)] ([kR 0 (R_thrown_s v0 0)] : List (List zE)).flatten))))
    refine ⟨fun c4 => ?_, fun c4 => ?_⟩
    · rw [if_pos c4] at hf
      cases hf
      exact AW.iret hZ hE rfl rfl rfl rfl (Nat.le_refl 0) (Nat.le_refl 0) rfl ⟨rfl, rfl⟩
    · rw [if_neg c4] at hf
      refine ⟨fun c5 => ?_, fun c5 => ?_⟩
      · rw [if_neg c5] at hf
        obtain ⟨q11, h12, hf⟩ := zbind hf
        refine c_R_odds_L35 hZ hR (by omega) hN hRm N N (R_thrown_s v0 0) a1 a2 0 0 q11 h12 ?_
        show AW Z 0 0 69 [some (.ref 0), none, none, some (.int q11), none] [] ([kR 0 (R_thrown_s v0 0)] : List (List zE)).flatten
        refine AW.run hZ hRm [79] 400 ?_
        show (¬ ((R_lotsMany v0) = 0) ∧ AW Z 0 0 79 [some (.ref 0), none, none, some (.int q11), none] [.int ((q11 * 1000000) / (R_lotsMany v0))] ([kR 0 (R_thrown_s v0 0)] : List (List zE)).flatten)
        obtain ⟨b13, hf⟩ := zneed hf
        refine ⟨b13, ?_⟩
        cases hf
        exact AW.iret hZ hE rfl rfl rfl rfl (Nat.le_refl 0) (Nat.le_refl 0) rfl ⟨rfl, rfl⟩
      · rw [if_pos c5] at hf
        cases hf
        exact AW.iret hZ hE rfl rfl rfl rfl (Nat.le_refl 0) (Nat.le_refl 0) rfl ⟨rfl, rfl⟩
def f_R_least_L35 (N : Nat) : Nat → VR → Int32 → Int32 → Int32 → Int32 → (Nat → Int32) → (Nat → Int32) → (Nat → Int32) → Option (Int32 × Int32 × (Nat → Int32) × (Nat → Int32) × (Nat → Int32))
  | 0, _, _, _, _, _, _, _, _ => none
  | fuel + 1, v0, y1, x2, x3, x4, m_facts0, m_pile1, m_state2 => (if ((R_lotsMany v0) ≤ x4) then (some (x2, x3, m_facts0, m_pile1, m_state2)) else ((f_R_weekBy N (R_s_facts_pile_state v0 m_facts0 m_pile1 m_state2) x4).bind (fun q4 => ((f_R_allHarm N (R_s_facts_pile_state v0 q4.1 q4.2.1 q4.2.2) 1584 0).bind (fun q5 => (f_R_least_L35 N fuel v0 y1 (if (x3 < 0) then x4 else (if (x3 ≤ q5) then x2 else x4)) (if (x3 < 0) then q5 else (if (x3 ≤ q5) then x3 else q5)) (x4 + 1) q4.1 q4.2.1 q4.2.2))))))
def f_R_least (N : Nat) (v0 : VR) (a1 : Int32) : Option (Int32 × Int32 × (Nat → Int32) × (Nat → Int32) × (Nat → Int32)) := (if (a1 = (-1)) then (if ((R_lotsMany v0) = 0) then (some ((-2), 0, (R_facts v0), (R_pile v0), (R_state v0))) else ((f_R_least_L35 N N (R_thrown_s v0 0) a1 0 (-1) 0 (R_facts v0) (R_pile v0) (R_state v0)).bind (fun q14 => (if (0 ≤ a1) then ((f_R_selfOf N (R_s_thrown_facts_pile_state v0 0 q14.2.2.1 q14.2.2.2.1 q14.2.2.2.2) q14.1 a1).bind (fun q17 => (some (q17, 0, q14.2.2.1, q14.2.2.2.1, q14.2.2.2.2)))) else (some (q14.2.1, 0, q14.2.2.1, q14.2.2.2.1, q14.2.2.2.2)))))) else ((f_R_isPerson N (R_thrown_s v0 0) a1).bind (fun q19 => (if (q19 = 0) then (some ((-2), 0, (R_facts v0), (R_pile v0), (R_state v0))) else (if ((R_lotsMany v0) = 0) then (some ((-2), 0, (R_facts v0), (R_pile v0), (R_state v0))) else ((f_R_least_L35 N N (R_thrown_s v0 0) a1 0 (-1) 0 (R_facts v0) (R_pile v0) (R_state v0)).bind (fun q22 => (if (0 ≤ a1) then ((f_R_selfOf N (R_s_thrown_facts_pile_state v0 0 q22.2.2.1 q22.2.2.2.1 q22.2.2.2.2) q22.1 a1).bind (fun q25 => (some (q25, 0, q22.2.2.1, q22.2.2.2.1, q22.2.2.2.2)))) else (some (q22.2.1, 0, q22.2.2.1, q22.2.2.2.1, q22.2.2.2.2))))))))))
set_option maxRecDepth 20000 in
set_option maxHeartbeats 4000000 in
theorem c_R_least_L35 {Z : zCtx} {D n0w nf mcw msw : Nat} (hZ : zOk Z zMX12_least) (hR : zCan Z D mcw msw) (hDd : 6 ≤ D) (hN : zNew Z n0w nf) (hRm : zRoom Z 0 0) (N : Nat) : ∀ (fuel : Nat) (v0 : VR) (y1 : Int32) (x2 : Int32) (x3 : Int32) (x4 : Int32) (m_facts0 : (Nat → Int32)) (m_pile1 : (Nat → Int32)) (m_state2 : (Nat → Int32)) (q : (Int32 × Int32 × (Nat → Int32) × (Nat → Int32) × (Nat → Int32))), f_R_least_L35 N fuel v0 y1 x2 x3 x4 m_facts0 m_pile1 m_state2 = some q → (AW Z 0 0 100 [some (.ref 0), some (.int y1), some (.int q.1), some (.int q.2.1), none, none] [] ([kR 0 (R_s_facts_pile_state v0 q.2.2.1 q.2.2.2.1 q.2.2.2.2)] : List (List zE)).flatten) → AW Z 0 0 35 [some (.ref 0), some (.int y1), some (.int x2), some (.int x3), some (.int x4), none] [] ([kR 0 (R_s_facts_pile_state v0 m_facts0 m_pile1 m_state2)] : List (List zE)).flatten := by
  intro fuel
  induction fuel with
  | zero =>
    intro v0 y1 x2 x3 x4 m_facts0 m_pile1 m_state2 q hf hk0
    simp [f_R_least_L35] at hf
  | succ fuel ih =>
    intro v0 y1 x2 x3 x4 m_facts0 m_pile1 m_state2 q hf hk0
    rw [f_R_least_L35] at hf
    refine AW.run hZ hRm [47, 100] 400 ?_
    show ((((R_lotsMany v0) ≤ x4) → AW Z 0 0 100 [some (.ref 0), some (.int y1), some (.int x2), some (.int x3), some (.int x4), none] [] ([kR 0 (R_s_facts_pile_state v0 m_facts0 m_pile1 m_state2)] : List (List zE)).flatten) ∧ (¬ ((R_lotsMany v0) ≤ x4) → AW Z 0 0 47 [some (.ref 0), some (.int y1), some (.int x2), some (.int x3), some (.int x4), none] [.int x4, .ref 0] ([kR 0 (R_s_facts_pile_state v0 m_facts0 m_pile1 m_state2)] : List (List zE)).flatten))
    refine ⟨fun c3 => ?_, fun c3 => ?_⟩
    · rw [if_pos c3] at hf
      cases hf
      refine AW.forget [true, true, true, true, false, false] ?_
      show AW Z 0 0 100 [some (.ref 0), some (.int y1), some (.int x2), some (.int x3), none, none] [] ([kR 0 (R_s_facts_pile_state v0 m_facts0 m_pile1 m_state2)] : List (List zE)).flatten
      exact hk0
    · rw [if_neg c3] at hf
      obtain ⟨q4, h13, hf⟩ := zbind hf
      refine AW.callVc hZ hR hN (c_R_weekBy N (R_s_facts_pile_state v0 m_facts0 m_pile1 m_state2) x4 q4 h13) zMX12_weekBy_ok rfl rfl zK_BorrowedLivesModel_415 zV_X12_weekBy rfl [25] [0] [0, 1, 2, 3, 4, 5, 6, 7, 8, 9, 10, 11, 12, 13, 14, 15, 16, 17, 18, 19, 20, 21, 22, 23, 24] rfl rfl rfl (by decide) (by decide) (by omega) (by decide) (Nat.zero_le _) (Nat.zero_le _) rfl rfl rfl rfl rfl ?_
      rintro v cc ⟨rfl, rfl⟩
      refine ⟨_, rfl, rfl, ?_⟩
      show AW Z 0 0 50 [some (.ref 0), some (.int y1), some (.int x2), some (.int x3), some (.int x4), none] [] ([kR 0 (R_s_facts_pile_state v0 q4.1 q4.2.1 q4.2.2)] : List (List zE)).flatten
      refine AW.run hZ hRm [55] 400 ?_
      show AW Z 0 0 55 [some (.ref 0), some (.int y1), some (.int x2), some (.int x3), some (.int x4), none] [.int 0, .int 1584, .ref 0] ([kR 0 (R_s_facts_pile_state v0 q4.1 q4.2.1 q4.2.2)] : List (List zE)).flatten
      obtain ⟨q5, h12, hf⟩ := zbind hf
      refine AW.callVc hZ hR hN (c_R_allHarm N (R_s_facts_pile_state v0 q4.1 q4.2.1 q4.2.2) 1584 0 q5 h12) zMX12_allHarm_ok rfl rfl zK_BorrowedLivesModel_352 zV_X12_allHarm rfl [25] [0] [0, 1, 2, 3, 4, 5, 6, 7, 8, 9, 10, 11, 12, 13, 14, 15, 16, 17, 18, 19, 20, 21, 22, 23, 24] rfl rfl rfl (by decide) (by decide) (by omega) (by decide) (Nat.zero_le _) (Nat.zero_le _) rfl rfl rfl rfl rfl ?_
      rintro v cc ⟨rfl, rfl⟩
      refine ⟨_, rfl, rfl, ?_⟩
      show AW Z 0 0 58 [some (.ref 0), some (.int y1), some (.int x2), some (.int x3), some (.int x4), none] [.int q5] ([kR 0 (R_s_facts_pile_state v0 q4.1 q4.2.1 q4.2.2)] : List (List zE)).flatten
      refine AW.run hZ hRm [61] 400 ?_
      show AW Z 0 0 61 [some (.ref 0), some (.int y1), some (.int x2), some (.int x3), some (.int x4), some (.int q5)] [.int x3] ([kR 0 (R_s_facts_pile_state v0 q4.1 q4.2.1 q4.2.2)] : List (List zE)).flatten
      suffices H6 : AW Z 0 0 76 [some (.ref 0), some (.int y1), none, some (.int x3), some (.int x4), some (.int q5)] [.int (if (x3 < 0) then x4 else (if (x3 ≤ q5) then x2 else x4))] ([kR 0 (R_s_facts_pile_state v0 q4.1 q4.2.1 q4.2.2)] : List (List zE)).flatten from by
        refine AW.run hZ hRm [76] 400 ?_
        show (((x3 < 0) → AW Z 0 0 76 [some (.ref 0), some (.int y1), some (.int x2), some (.int x3), some (.int x4), some (.int q5)] [.int x4] ([kR 0 (R_s_facts_pile_state v0 q4.1 q4.2.1 q4.2.2)] : List (List zE)).flatten) ∧ (¬ (x3 < 0) → (((x3 ≤ q5) → AW Z 0 0 76 [some (.ref 0), some (.int y1), some (.int x2), some (.int x3), some (.int x4), some (.int q5)] [.int x2] ([kR 0 (R_s_facts_pile_state v0 q4.1 q4.2.1 q4.2.2)] : List (List zE)).flatten) ∧ (¬ (x3 ≤ q5) → AW Z 0 0 76 [some (.ref 0), some (.int y1), some (.int x2), some (.int x3), some (.int x4), some (.int q5)] [.int x4] ([kR 0 (R_s_facts_pile_state v0 q4.1 q4.2.1 q4.2.2)] : List (List zE)).flatten))))
        refine ⟨fun c7 => ?_, fun c7 => ?_⟩
        · refine AW.forget [true, true, false, true, true, true] ?_
          show AW Z 0 0 76 [some (.ref 0), some (.int y1), none, some (.int x3), some (.int x4), some (.int q5)] [.int x4] ([kR 0 (R_s_facts_pile_state v0 q4.1 q4.2.1 q4.2.2)] : List (List zE)).flatten
          simpa only [if_pos c7] using H6
        · refine ⟨fun c8 => ?_, fun c8 => ?_⟩
          · refine AW.forget [true, true, false, true, true, true] ?_
            show AW Z 0 0 76 [some (.ref 0), some (.int y1), none, some (.int x3), some (.int x4), some (.int q5)] [.int x2] ([kR 0 (R_s_facts_pile_state v0 q4.1 q4.2.1 q4.2.2)] : List (List zE)).flatten
            simpa only [if_neg c7, if_pos c8] using H6
          · refine AW.forget [true, true, false, true, true, true] ?_
            show AW Z 0 0 76 [some (.ref 0), some (.int y1), none, some (.int x3), some (.int x4), some (.int q5)] [.int x4] ([kR 0 (R_s_facts_pile_state v0 q4.1 q4.2.1 q4.2.2)] : List (List zE)).flatten
            simpa only [if_neg c7, if_neg c8] using H6
      refine AW.run hZ hRm [78] 400 ?_
      show AW Z 0 0 78 [some (.ref 0), some (.int y1), some (.int (if (x3 < 0) then x4 else (if (x3 ≤ q5) then x2 else x4))), some (.int x3), some (.int x4), some (.int q5)] [.int x3] ([kR 0 (R_s_facts_pile_state v0 q4.1 q4.2.1 q4.2.2)] : List (List zE)).flatten
      suffices H9 : AW Z 0 0 93 [some (.ref 0), some (.int y1), some (.int (if (x3 < 0) then x4 else (if (x3 ≤ q5) then x2 else x4))), none, some (.int x4), none] [.int (if (x3 < 0) then q5 else (if (x3 ≤ q5) then x3 else q5))] ([kR 0 (R_s_facts_pile_state v0 q4.1 q4.2.1 q4.2.2)] : List (List zE)).flatten from by
        refine AW.run hZ hRm [93] 400 ?_
        show (((x3 < 0) → AW Z 0 0 93 [some (.ref 0), some (.int y1), some (.int (if (x3 < 0) then x4 else (if (x3 ≤ q5) then x2 else x4))), some (.int x3), some (.int x4), some (.int q5)] [.int q5] ([kR 0 (R_s_facts_pile_state v0 q4.1 q4.2.1 q4.2.2)] : List (List zE)).flatten) ∧ (¬ (x3 < 0) → (((x3 ≤ q5) → AW Z 0 0 93 [some (.ref 0), some (.int y1), some (.int (if (x3 < 0) then x4 else (if (x3 ≤ q5) then x2 else x4))), some (.int x3), some (.int x4), some (.int q5)] [.int x3] ([kR 0 (R_s_facts_pile_state v0 q4.1 q4.2.1 q4.2.2)] : List (List zE)).flatten) ∧ (¬ (x3 ≤ q5) → AW Z 0 0 93 [some (.ref 0), some (.int y1), some (.int (if (x3 < 0) then x4 else (if (x3 ≤ q5) then x2 else x4))), some (.int x3), some (.int x4), some (.int q5)] [.int q5] ([kR 0 (R_s_facts_pile_state v0 q4.1 q4.2.1 q4.2.2)] : List (List zE)).flatten))))
        refine ⟨fun c10 => ?_, fun c10 => ?_⟩
        · refine AW.forget [true, true, true, false, true, false] ?_
          show AW Z 0 0 93 [some (.ref 0), some (.int y1), some (.int (if (x3 < 0) then x4 else (if (x3 ≤ q5) then x2 else x4))), none, some (.int x4), none] [.int q5] ([kR 0 (R_s_facts_pile_state v0 q4.1 q4.2.1 q4.2.2)] : List (List zE)).flatten
          simpa only [if_pos c10] using H9
        · refine ⟨fun c11 => ?_, fun c11 => ?_⟩
          · refine AW.forget [true, true, true, false, true, false] ?_
            show AW Z 0 0 93 [some (.ref 0), some (.int y1), some (.int (if (x3 < 0) then x4 else (if (x3 ≤ q5) then x2 else x4))), none, some (.int x4), none] [.int x3] ([kR 0 (R_s_facts_pile_state v0 q4.1 q4.2.1 q4.2.2)] : List (List zE)).flatten
            simpa only [if_neg c10, if_pos c11] using H9
          · refine AW.forget [true, true, true, false, true, false] ?_
            show AW Z 0 0 93 [some (.ref 0), some (.int y1), some (.int (if (x3 < 0) then x4 else (if (x3 ≤ q5) then x2 else x4))), none, some (.int x4), none] [.int q5] ([kR 0 (R_s_facts_pile_state v0 q4.1 q4.2.1 q4.2.2)] : List (List zE)).flatten
            simpa only [if_neg c10, if_neg c11] using H9
      refine AW.run hZ hRm [35] 400 ?_
      show AW Z 0 0 35 [some (.ref 0), some (.int y1), some (.int (if (x3 < 0) then x4 else (if (x3 ≤ q5) then x2 else x4))), some (.int (if (x3 < 0) then q5 else (if (x3 ≤ q5) then x3 else q5))), some (.int (x4 + 1)), none] [] ([kR 0 (R_s_facts_pile_state v0 q4.1 q4.2.1 q4.2.2)] : List (List zE)).flatten
      exact ih v0 y1 (if (x3 < 0) then x4 else (if (x3 ≤ q5) then x2 else x4)) (if (x3 < 0) then q5 else (if (x3 ≤ q5) then x3 else q5)) (x4 + 1) q4.1 q4.2.1 q4.2.2 q hf hk0
set_option maxRecDepth 20000 in
set_option maxHeartbeats 4000000 in
theorem c_R_least (N : Nat) (v0 : VR) (a1 : Int32) (R : Int32 × Int32 × (Nat → Int32) × (Nat → Int32) × (Nat → Int32)) (hf : f_R_least N v0 a1 = some R) : Ct zMX12_least 6 0 0 0 [.ref 0, .int a1] ([kR 0 v0] : List (List zE)).flatten (fun v cc => v = some (.int R.1) ∧ cc = ([kR 0 (R_s_thrown_facts_pile_state v0 R.2.1 R.2.2.1 R.2.2.2.1 R.2.2.2.2)] : List (List zE)).flatten) := by
  refine Ct.of zMX12_least_ok (by decide) (Nat.le_of_ble_eq_true rfl) ?_
  intro Z hZ hR hN hE
  have hRm : zRoom Z 0 0 := zRoom0 Z
  unfold f_R_least at hf
  show AW Z 0 0 0 [some (.ref 0), some (.int a1), none, none, none, none] [] ([kR 0 v0] : List (List zE)).flatten
  refine AW.run hZ hRm [12, 27, 35] 400 ?_
  show (((a1 = (-1)) → ((¬ ((R_lotsMany v0) = 0) → AW Z 0 0 35 [some (.ref 0), some (.int a1), some (.int 0), some (.int (-1)), some (.int 0), none] [] ([kR 0 (R_thrown_s v0 0)] : List (List zE)).flatten) ∧ (((R_lotsMany v0) = 0) → AW Z 0 0 27 [some (.ref 0), some (.int a1), none, none, none, none] [.int (-2)] ([kR 0 (R_thrown_s v0 0)] : List (List zE)).flatten))) ∧ (¬ (a1 = (-1)) → AW Z 0 0 12 [some (.ref 0), some (.int a1), none, none, none, none] [.int a1, .ref 0] ([kR 0 (R_thrown_s v0 0)] : List (List zE)).flatten))
  refine ⟨fun c1 => ?_, fun c1 => ?_⟩
  · rw [if_pos c1] at hf
    refine ⟨fun c2 => ?_, fun c2 => ?_⟩
    · rw [if_neg c2] at hf
      obtain ⟨q14, h15, hf⟩ := zbind hf
      refine c_R_least_L35 hZ hR (by omega) hN hRm N N (R_thrown_s v0 0) a1 0 (-1) 0 (R_facts v0) (R_pile v0) (R_state v0) q14 h15 ?_
      show AW Z 0 0 100 [some (.ref 0), some (.int a1), some (.int q14.1), some (.int q14.2.1), none, none] [] ([kR 0 (R_s_thrown_facts_pile_state v0 0 q14.2.2.1 q14.2.2.2.1 q14.2.2.2.2)] : List (List zE)).flatten
      refine AW.run hZ hRm [111, 114] 400 ?_
      show (((0 ≤ a1) → AW Z 0 0 111 [some (.ref 0), some (.int a1), some (.int q14.1), some (.int q14.2.1), none, none] [.int a1, .int q14.1, .ref 0] ([kR 0 (R_s_thrown_facts_pile_state v0 0 q14.2.2.1 q14.2.2.2.1 q14.2.2.2.2)] : List (List zE)).flatten) ∧ (¬ (0 ≤ a1) → AW Z 0 0 114 [some (.ref 0), some (.int a1), some (.int q14.1), some (.int q14.2.1), none, none] [.int q14.2.1] ([kR 0 (R_s_thrown_facts_pile_state v0 0 q14.2.2.1 q14.2.2.2.1 q14.2.2.2.2)] : List (List zE)).flatten))
      refine ⟨fun c16 => ?_, fun c16 => ?_⟩
      · rw [if_pos c16] at hf
        obtain ⟨q17, h18, hf⟩ := zbind hf
        refine AW.callVc hZ hR hN (c_R_selfOf N (R_s_thrown_facts_pile_state v0 0 q14.2.2.1 q14.2.2.2.1 q14.2.2.2.2) q14.1 a1 q17 h18) zMX12_selfOf_ok rfl rfl zK_BorrowedLivesModel_346 zV_X12_selfOf rfl [25] [0] [0, 1, 2, 3, 4, 5, 6, 7, 8, 9, 10, 11, 12, 13, 14, 15, 16, 17, 18, 19, 20, 21, 22, 23, 24] rfl rfl rfl (by decide) (by decide) (by omega) (by decide) (Nat.zero_le _) (Nat.zero_le _) rfl rfl rfl rfl rfl ?_
        rintro v cc ⟨rfl, rfl⟩
        refine ⟨_, rfl, rfl, ?_⟩
        show AW Z 0 0 114 [some (.ref 0), some (.int a1), some (.int q14.1), some (.int q14.2.1), none, none] [.int q17] ([kR 0 (R_s_thrown_facts_pile_state v0 0 q14.2.2.1 q14.2.2.2.1 q14.2.2.2.2)] : List (List zE)).flatten
        cases hf
        exact AW.iret hZ hE rfl rfl rfl rfl (Nat.le_refl 0) (Nat.le_refl 0) rfl ⟨rfl, rfl⟩
      · rw [if_neg c16] at hf
        cases hf
        exact AW.iret hZ hE rfl rfl rfl rfl (Nat.le_refl 0) (Nat.le_refl 0) rfl ⟨rfl, rfl⟩
    · rw [if_pos c2] at hf
      cases hf
      exact AW.iret hZ hE rfl rfl rfl rfl (Nat.le_refl 0) (Nat.le_refl 0) rfl ⟨rfl, rfl⟩
  · rw [if_neg c1] at hf
    obtain ⟨q19, h27, hf⟩ := zbind hf
    refine AW.callVc hZ hR hN (c_R_isPerson N (R_thrown_s v0 0) a1 q19 h27) zMX12_isPerson_ok rfl rfl zK_BorrowedLivesModel_356 zV_X12_isPerson rfl [25] [0] [0, 1, 2, 3, 4, 5, 6, 7, 8, 9, 10, 11, 12, 13, 14, 15, 16, 17, 18, 19, 20, 21, 22, 23, 24] rfl rfl rfl (by decide) (by decide) (by omega) (by decide) (Nat.zero_le _) (Nat.zero_le _) rfl rfl rfl rfl rfl ?_
    rintro v cc ⟨rfl, rfl⟩
    refine ⟨_, rfl, rfl, ?_⟩
    show AW Z 0 0 15 [some (.ref 0), some (.int a1), none, none, none, none] [.int q19] ([kR 0 (R_thrown_s v0 0)] : List (List zE)).flatten
    refine AW.run hZ hRm [27, 35] 400 ?_
    show (((q19 = 0) → AW Z 0 0 27 [some (.ref 0), some (.int a1), none, none, none, none] [.int (-2)] ([kR 0 (R_thrown_s v0 0)] : List (List zE)).flatten) ∧ (¬ (q19 = 0) → ((¬ ((R_lotsMany v0) = 0) → AW Z 0 0 35 [some (.ref 0), some (.int a1), some (.int 0), some (.int (-1)), some (.int 0), none] [] ([kR 0 (R_thrown_s v0 0)] : List (List zE)).flatten) ∧ (((R_lotsMany v0) = 0) → AW Z 0 0 27 [some (.ref 0), some (.int a1), none, none, none, none] [.int (-2)] ([kR 0 (R_thrown_s v0 0)] : List (List zE)).flatten))))
    refine ⟨fun c20 => ?_, fun c20 => ?_⟩
    · rw [if_pos c20] at hf
      cases hf
      exact AW.iret hZ hE rfl rfl rfl rfl (Nat.le_refl 0) (Nat.le_refl 0) rfl ⟨rfl, rfl⟩
    · rw [if_neg c20] at hf
      refine ⟨fun c21 => ?_, fun c21 => ?_⟩
      · rw [if_neg c21] at hf
        obtain ⟨q22, h23, hf⟩ := zbind hf
        refine c_R_least_L35 hZ hR (by omega) hN hRm N N (R_thrown_s v0 0) a1 0 (-1) 0 (R_facts v0) (R_pile v0) (R_state v0) q22 h23 ?_
        show AW Z 0 0 100 [some (.ref 0), some (.int a1), some (.int q22.1), some (.int q22.2.1), none, none] [] ([kR 0 (R_s_thrown_facts_pile_state v0 0 q22.2.2.1 q22.2.2.2.1 q22.2.2.2.2)] : List (List zE)).flatten
        refine AW.run hZ hRm [111, 114] 400 ?_
        show (((0 ≤ a1) → AW Z 0 0 111 [some (.ref 0), some (.int a1), some (.int q22.1), some (.int q22.2.1), none, none] [.int a1, .int q22.1, .ref 0] ([kR 0 (R_s_thrown_facts_pile_state v0 0 q22.2.2.1 q22.2.2.2.1 q22.2.2.2.2)] : List (List zE)).flatten) ∧ (¬ (0 ≤ a1) → AW Z 0 0 114 [some (.ref 0), some (.int a1), some (.int q22.1), some (.int q22.2.1), none, none] [.int q22.2.1] ([kR 0 (R_s_thrown_facts_pile_state v0 0 q22.2.2.1 q22.2.2.2.1 q22.2.2.2.2)] : List (List zE)).flatten))
        refine ⟨fun c24 => ?_, fun c24 => ?_⟩
        · rw [if_pos c24] at hf
          obtain ⟨q25, h26, hf⟩ := zbind hf
          refine AW.callVc hZ hR hN (c_R_selfOf N (R_s_thrown_facts_pile_state v0 0 q22.2.2.1 q22.2.2.2.1 q22.2.2.2.2) q22.1 a1 q25 h26) zMX12_selfOf_ok rfl rfl zK_BorrowedLivesModel_346 zV_X12_selfOf rfl [25] [0] [0, 1, 2, 3, 4, 5, 6, 7, 8, 9, 10, 11, 12, 13, 14, 15, 16, 17, 18, 19, 20, 21, 22, 23, 24] rfl rfl rfl (by decide) (by decide) (by omega) (by decide) (Nat.zero_le _) (Nat.zero_le _) rfl rfl rfl rfl rfl ?_
          rintro v cc ⟨rfl, rfl⟩
          refine ⟨_, rfl, rfl, ?_⟩
          show AW Z 0 0 114 [some (.ref 0), some (.int a1), some (.int q22.1), some (.int q22.2.1), none, none] [.int q25] ([kR 0 (R_s_thrown_facts_pile_state v0 0 q22.2.2.1 q22.2.2.2.1 q22.2.2.2.2)] : List (List zE)).flatten
          cases hf
          exact AW.iret hZ hE rfl rfl rfl rfl (Nat.le_refl 0) (Nat.le_refl 0) rfl ⟨rfl, rfl⟩
        · rw [if_neg c24] at hf
          cases hf
          exact AW.iret hZ hE rfl rfl rfl rfl (Nat.le_refl 0) (Nat.le_refl 0) rfl ⟨rfl, rfl⟩
      · rw [if_pos c21] at hf
        cases hf
        exact AW.iret hZ hE rfl rfl rfl rfl (Nat.le_refl 0) (Nat.le_refl 0) rfl ⟨rfl, rfl⟩
def f_R_prepare_L82 (N : Nat) : Nat → VR → Int32 → Int32 → Int32 → Int32 → Int64 → Int32 → Int64 → Int32 → (Nat → Int32) → (Nat → Int32) → (Nat → Int32) → Option (Int64 × (Nat → Int32) × (Nat → Int32) × (Nat → Int32))
  | 0, _, _, _, _, _, _, _, _, _, _, _, _ => none
  | fuel + 1, v0, y1, y2, y3, y4, y5, y7, x8, x10, m_facts0, m_pile1, m_state2 => (if ((R_lotsMany v0) ≤ x10) then (some (x8, m_facts0, m_pile1, m_state2)) else ((f_R_weekBy N (R_s_facts_pile_state v0 m_facts0 m_pile1 m_state2) x10).bind (fun q8 => ((f_R_harmOf N (R_s_facts_pile_state v0 q8.1 q8.2.1 q8.2.2) 1584 y1 0).bind (fun q9 => (f_R_prepare_L82 N fuel v0 y1 y2 y3 y4 y5 y7 (x8 + (Int32.toInt64 q9)) (x10 + 1) q8.1 q8.2.1 q8.2.2))))))
def f_R_prepare_L52 (N : Nat) : Nat → VR → Int32 → Int32 → Int32 → Int32 → Int64 → Int32 → (Nat → Int32) → (Nat → Int32) → (Nat → Int32) → Option (Int32 × Int64 × (Nat → Int32) × (Nat → Int32) × (Nat → Int32))
  | 0, _, _, _, _, _, _, _, _, _, _ => none
  | fuel + 1, v0, y1, y2, y3, x4, x5, x7, m_facts0, m_pile1, m_state2 => (if ((4 + y1) < 0 ∨ 1656 ≤ Int32.toNatClampNeg (4 + y1)) then none else (if ((m_state2 (Int32.toNatClampNeg (4 + y1))) < x7) then (some (x4, x5, m_facts0, m_pile1, m_state2)) else (if ((22 + y1) < 0 ∨ 1656 ≤ Int32.toNatClampNeg (22 + y1)) then none else ((f_R_prepare_L82 N N (R_s_facts_pile_state v0 m_facts0 m_pile1 (upd m_state2 (Int32.toNatClampNeg (22 + y1)) x7)) y1 y2 y3 x4 x5 x7 0 0 m_facts0 m_pile1 (upd m_state2 (Int32.toNatClampNeg (22 + y1)) x7)).bind (fun q12 => (zlet ((if ((lg_cmp x5 0) < 0) then x7 else (if (0 ≤ (lg_cmp q12.1 x5)) then x4 else x7)) : Int32) (fun z17 => (zlet ((if ((lg_cmp x5 0) < 0) then q12.1 else (if (0 ≤ (lg_cmp q12.1 x5)) then x5 else q12.1)) : Int64) (fun z21 => (f_R_prepare_L52 N fuel v0 y1 y2 y3 z17 z21 (x7 + 25) q12.2.1 q12.2.2.1 q12.2.2.2))))))))))
def f_R_prepare (N : Nat) (v0 : VR) (a1 : Int32) (a2 : Int32) : Option (Int32 × Int32 × (Nat → Int32) × (Nat → Int32) × (Nat → Int32)) := ((f_R_isPerson N (R_thrown_s v0 0) a1).bind (fun q1 => (if (q1 = 0) then (some ((-1), 0, (R_facts v0), (R_pile v0), (R_state v0))) else ((f_R_within N a2 0 1).bind (fun q3 => (if (q3 = 0) then (some ((-1), 0, (R_facts v0), (R_pile v0), (R_state v0))) else (if ((R_lotsMany v0) = 0) then (some ((-1), 0, (R_facts v0), (R_pile v0), (R_state v0))) else (if ((22 + a1) < 0 ∨ 1656 ≤ Int32.toNatClampNeg (22 + a1)) then none else ((f_R_prepare_L52 N N (R_thrown_s v0 0) a1 a2 ((R_state v0) (Int32.toNatClampNeg (22 + a1))) 0 (-1) 0 (R_facts v0) (R_pile v0) (R_state v0)).bind (fun q24 => (if ((22 + a1) < 0 ∨ 1656 ≤ Int32.toNatClampNeg (22 + a1)) then none else (if (a2 = 0) then (some (q24.1, 0, q24.2.2.1, q24.2.2.2.1, (upd q24.2.2.2.2 (Int32.toNatClampNeg (22 + a1)) ((R_state v0) (Int32.toNatClampNeg (22 + a1)))))) else (if ((Int32.toInt64 (R_lotsMany v0)) = 0) then none else (some ((Int64.toInt32 ((q24.2.1 * 1000) / (Int32.toInt64 (R_lotsMany v0)))), 0, q24.2.2.1, q24.2.2.2.1, (upd q24.2.2.2.2 (Int32.toNatClampNeg (22 + a1)) ((R_state v0) (Int32.toNatClampNeg (22 + a1)))))))))))))))))))
set_option maxRecDepth 20000 in
set_option maxHeartbeats 4000000 in
theorem c_R_prepare_L82 {Z : zCtx} {D n0w nf mcw msw : Nat} (hZ : zOk Z zMX12_prepare) (hR : zCan Z D mcw msw) (hDd : 6 ≤ D) (hN : zNew Z n0w nf) (hRm : zRoom Z 0 0) (N : Nat) : ∀ (fuel : Nat) (v0 : VR) (y1 : Int32) (y2 : Int32) (y3 : Int32) (y4 : Int32) (y5 : Int64) (y7 : Int32) (x8 : Int64) (x10 : Int32) (m_facts0 : (Nat → Int32)) (m_pile1 : (Nat → Int32)) (m_state2 : (Nat → Int32)) (q : (Int64 × (Nat → Int32) × (Nat → Int32) × (Nat → Int32))), f_R_prepare_L82 N fuel v0 y1 y2 y3 y4 y5 y7 x8 x10 m_facts0 m_pile1 m_state2 = some q → (AW Z 0 0 118 [some (.ref 0), some (.int y1), some (.int y2), some (.int y3), some (.int y4), some (.long y5), none, some (.int y7), some (.long q.1), none, none] [] ([kR 0 (R_s_facts_pile_state v0 q.2.1 q.2.2.1 q.2.2.2)] : List (List zE)).flatten) → AW Z 0 0 82 [some (.ref 0), some (.int y1), some (.int y2), some (.int y3), some (.int y4), some (.long y5), none, some (.int y7), some (.long x8), none, some (.int x10)] [] ([kR 0 (R_s_facts_pile_state v0 m_facts0 m_pile1 m_state2)] : List (List zE)).flatten := by
  intro fuel
  induction fuel with
  | zero =>
    intro v0 y1 y2 y3 y4 y5 y7 x8 x10 m_facts0 m_pile1 m_state2 q hf hk0
    simp [f_R_prepare_L82] at hf
  | succ fuel ih =>
    intro v0 y1 y2 y3 y4 y5 y7 x8 x10 m_facts0 m_pile1 m_state2 q hf hk0
    rw [f_R_prepare_L82] at hf
    refine AW.run hZ hRm [94, 118] 400 ?_
    show ((((R_lotsMany v0) ≤ x10) → AW Z 0 0 118 [some (.ref 0), some (.int y1), some (.int y2), some (.int y3), some (.int y4), some (.long y5), none, some (.int y7), some (.long x8), none, some (.int x10)] [] ([kR 0 (R_s_facts_pile_state v0 m_facts0 m_pile1 m_state2)] : List (List zE)).flatten) ∧ (¬ ((R_lotsMany v0) ≤ x10) → AW Z 0 0 94 [some (.ref 0), some (.int y1), some (.int y2), some (.int y3), some (.int y4), some (.long y5), none, some (.int y7), some (.long x8), none, some (.int x10)] [.int x10, .ref 0] ([kR 0 (R_s_facts_pile_state v0 m_facts0 m_pile1 m_state2)] : List (List zE)).flatten))
    refine ⟨fun c7 => ?_, fun c7 => ?_⟩
    · rw [if_pos c7] at hf
      cases hf
      refine AW.forget [true, true, true, true, true, true, false, true, true, false, false] ?_
      show AW Z 0 0 118 [some (.ref 0), some (.int y1), some (.int y2), some (.int y3), some (.int y4), some (.long y5), none, some (.int y7), some (.long x8), none, none] [] ([kR 0 (R_s_facts_pile_state v0 m_facts0 m_pile1 m_state2)] : List (List zE)).flatten
      exact hk0
    · rw [if_neg c7] at hf
      obtain ⟨q8, h11, hf⟩ := zbind hf
      refine AW.callVc hZ hR hN (c_R_weekBy N (R_s_facts_pile_state v0 m_facts0 m_pile1 m_state2) x10 q8 h11) zMX12_weekBy_ok rfl rfl zK_BorrowedLivesModel_415 zV_X12_weekBy rfl [25] [0] [0, 1, 2, 3, 4, 5, 6, 7, 8, 9, 10, 11, 12, 13, 14, 15, 16, 17, 18, 19, 20, 21, 22, 23, 24] rfl rfl rfl (by decide) (by decide) (by omega) (by decide) (Nat.zero_le _) (Nat.zero_le _) rfl rfl rfl rfl rfl ?_
      rintro v cc ⟨rfl, rfl⟩
      refine ⟨_, rfl, rfl, ?_⟩
      show AW Z 0 0 97 [some (.ref 0), some (.int y1), some (.int y2), some (.int y3), some (.int y4), some (.long y5), none, some (.int y7), some (.long x8), none, some (.int x10)] [] ([kR 0 (R_s_facts_pile_state v0 q8.1 q8.2.1 q8.2.2)] : List (List zE)).flatten
      refine AW.run hZ hRm [105] 400 ?_
      show AW Z 0 0 105 [some (.ref 0), some (.int y1), some (.int y2), some (.int y3), some (.int y4), some (.long y5), none, some (.int y7), some (.long x8), none, some (.int x10)] [.int 0, .int y1, .int 1584, .ref 0, .long x8] ([kR 0 (R_s_facts_pile_state v0 q8.1 q8.2.1 q8.2.2)] : List (List zE)).flatten
      obtain ⟨q9, h10, hf⟩ := zbind hf
      refine AW.callVc hZ hR hN (c_R_harmOf N (R_s_facts_pile_state v0 q8.1 q8.2.1 q8.2.2) 1584 y1 0 q9 h10) zMX12_harmOf_ok rfl rfl zK_BorrowedLivesModel_349 zV_X12_harmOf rfl [25] [0] [0, 1, 2, 3, 4, 5, 6, 7, 8, 9, 10, 11, 12, 13, 14, 15, 16, 17, 18, 19, 20, 21, 22, 23, 24] rfl rfl rfl (by decide) (by decide) (by omega) (by decide) (Nat.zero_le _) (Nat.zero_le _) rfl rfl rfl rfl rfl ?_
      rintro v cc ⟨rfl, rfl⟩
      refine ⟨_, rfl, rfl, ?_⟩
      show AW Z 0 0 108 [some (.ref 0), some (.int y1), some (.int y2), some (.int y3), some (.int y4), some (.long y5), none, some (.int y7), some (.long x8), none, some (.int x10)] [.int q9, .long x8] ([kR 0 (R_s_facts_pile_state v0 q8.1 q8.2.1 q8.2.2)] : List (List zE)).flatten
      refine AW.run hZ hRm [82] 400 ?_
      show AW Z 0 0 82 [some (.ref 0), some (.int y1), some (.int y2), some (.int y3), some (.int y4), some (.long y5), none, some (.int y7), some (.long (x8 + (Int32.toInt64 q9))), none, some (.int (x10 + 1))] [] ([kR 0 (R_s_facts_pile_state v0 q8.1 q8.2.1 q8.2.2)] : List (List zE)).flatten
      exact ih v0 y1 y2 y3 y4 y5 y7 (x8 + (Int32.toInt64 q9)) (x10 + 1) q8.1 q8.2.1 q8.2.2 q hf hk0
set_option maxRecDepth 20000 in
set_option maxHeartbeats 4000000 in
theorem c_R_prepare_L52 {Z : zCtx} {D n0w nf mcw msw : Nat} (hZ : zOk Z zMX12_prepare) (hR : zCan Z D mcw msw) (hDd : 6 ≤ D) (hN : zNew Z n0w nf) (hRm : zRoom Z 0 0) (N : Nat) : ∀ (fuel : Nat) (v0 : VR) (y1 : Int32) (y2 : Int32) (y3 : Int32) (x4 : Int32) (x5 : Int64) (x7 : Int32) (m_facts0 : (Nat → Int32)) (m_pile1 : (Nat → Int32)) (m_state2 : (Nat → Int32)) (q : (Int32 × Int64 × (Nat → Int32) × (Nat → Int32) × (Nat → Int32))), f_R_prepare_L52 N fuel v0 y1 y2 y3 x4 x5 x7 m_facts0 m_pile1 m_state2 = some q → (AW Z 0 0 172 [some (.ref 0), some (.int y1), some (.int y2), some (.int y3), some (.int q.1), some (.long q.2.1), none, none, none, none, none] [] ([kR 0 (R_s_facts_pile_state v0 q.2.2.1 q.2.2.2.1 q.2.2.2.2)] : List (List zE)).flatten) → AW Z 0 0 52 [some (.ref 0), some (.int y1), some (.int y2), some (.int y3), some (.int x4), some (.long x5), none, some (.int x7), none, none, none] [] ([kR 0 (R_s_facts_pile_state v0 m_facts0 m_pile1 m_state2)] : List (List zE)).flatten := by
  intro fuel
  induction fuel with
  | zero =>
    intro v0 y1 y2 y3 x4 x5 x7 m_facts0 m_pile1 m_state2 q hf hk0
    simp [f_R_prepare_L52] at hf
  | succ fuel ih =>
    intro v0 y1 y2 y3 x4 x5 x7 m_facts0 m_pile1 m_state2 q hf hk0
    rw [f_R_prepare_L52] at hf
    refine AW.run hZ hRm [82, 172] 400 ?_
    show (¬ ((4 + y1) < 0 ∨ 1656 ≤ Int32.toNatClampNeg (4 + y1)) ∧ ((((m_state2 (Int32.toNatClampNeg (4 + y1))) < x7) → AW Z 0 0 172 [some (.ref 0), some (.int y1), some (.int y2), some (.int y3), some (.int x4), some (.long x5), none, some (.int x7), none, none, none] [] ([kR 0 (R_s_facts_pile_state v0 m_facts0 m_pile1 m_state2)] : List (List zE)).flatten) ∧ (¬ ((m_state2 (Int32.toNatClampNeg (4 + y1))) < x7) → (¬ ((22 + y1) < 0 ∨ 1656 ≤ Int32.toNatClampNeg (22 + y1)) ∧ AW Z 0 0 82 [some (.ref 0), some (.int y1), some (.int y2), some (.int y3), some (.int x4), some (.long x5), none, some (.int x7), some (.long 0), none, some (.int 0)] [] ([kR 0 (R_s_facts_pile_state v0 m_facts0 m_pile1 (upd m_state2 (Int32.toNatClampNeg (22 + y1)) x7))] : List (List zE)).flatten))))
    obtain ⟨b23, hf⟩ := zneed hf
    refine ⟨b23, ?_⟩
    refine ⟨fun c6 => ?_, fun c6 => ?_⟩
    · rw [if_pos c6] at hf
      cases hf
      refine AW.forget [true, true, true, true, true, true, false, false, false, false, false] ?_
      show AW Z 0 0 172 [some (.ref 0), some (.int y1), some (.int y2), some (.int y3), some (.int x4), some (.long x5), none, none, none, none, none] [] ([kR 0 (R_s_facts_pile_state v0 m_facts0 m_pile1 m_state2)] : List (List zE)).flatten
      exact hk0
    · rw [if_neg c6] at hf
      obtain ⟨b22, hf⟩ := zneed hf
      refine ⟨b22, ?_⟩
      obtain ⟨q12, h13, hf⟩ := zbind hf
      refine c_R_prepare_L82 hZ hR (by omega) hN hRm N N (R_s_facts_pile_state v0 m_facts0 m_pile1 (upd m_state2 (Int32.toNatClampNeg (22 + y1)) x7)) y1 y2 y3 x4 x5 x7 0 0 m_facts0 m_pile1 (upd m_state2 (Int32.toNatClampNeg (22 + y1)) x7) q12 h13 ?_
      show AW Z 0 0 118 [some (.ref 0), some (.int y1), some (.int y2), some (.int y3), some (.int x4), some (.long x5), none, some (.int x7), some (.long q12.1), none, none] [] ([kR 0 (R_s_facts_pile_state v0 q12.2.1 q12.2.2.1 q12.2.2.2)] : List (List zE)).flatten
      refine AW.run hZ hRm [122] 400 ?_
      show AW Z 0 0 122 [some (.ref 0), some (.int y1), some (.int y2), some (.int y3), some (.int x4), some (.long x5), none, some (.int x7), some (.long q12.1), none, none] [.int (lg_cmp x5 0)] ([kR 0 (R_s_facts_pile_state v0 q12.2.1 q12.2.2.1 q12.2.2.2)] : List (List zE)).flatten
      suffices H14 : AW Z 0 0 140 [some (.ref 0), some (.int y1), some (.int y2), some (.int y3), none, some (.long x5), none, some (.int x7), some (.long q12.1), none, none] [.int (if ((lg_cmp x5 0) < 0) then x7 else (if (0 ≤ (lg_cmp q12.1 x5)) then x4 else x7))] ([kR 0 (R_s_facts_pile_state v0 q12.2.1 q12.2.2.1 q12.2.2.2)] : List (List zE)).flatten from by
        refine AW.run hZ hRm [140] 400 ?_
        show ((((lg_cmp x5 0) < 0) → AW Z 0 0 140 [some (.ref 0), some (.int y1), some (.int y2), some (.int y3), some (.int x4), some (.long x5), none, some (.int x7), some (.long q12.1), none, none] [.int x7] ([kR 0 (R_s_facts_pile_state v0 q12.2.1 q12.2.2.1 q12.2.2.2)] : List (List zE)).flatten) ∧ (¬ ((lg_cmp x5 0) < 0) → (((0 ≤ (lg_cmp q12.1 x5)) → AW Z 0 0 140 [some (.ref 0), some (.int y1), some (.int y2), some (.int y3), some (.int x4), some (.long x5), none, some (.int x7), some (.long q12.1), none, none] [.int x4] ([kR 0 (R_s_facts_pile_state v0 q12.2.1 q12.2.2.1 q12.2.2.2)] : List (List zE)).flatten) ∧ (¬ (0 ≤ (lg_cmp q12.1 x5)) → AW Z 0 0 140 [some (.ref 0), some (.int y1), some (.int y2), some (.int y3), some (.int x4), some (.long x5), none, some (.int x7), some (.long q12.1), none, none] [.int x7] ([kR 0 (R_s_facts_pile_state v0 q12.2.1 q12.2.2.1 q12.2.2.2)] : List (List zE)).flatten))))
        refine ⟨fun c15 => ?_, fun c15 => ?_⟩
        · refine AW.forget [true, true, true, true, false, true, false, true, true, false, false] ?_
          show AW Z 0 0 140 [some (.ref 0), some (.int y1), some (.int y2), some (.int y3), none, some (.long x5), none, some (.int x7), some (.long q12.1), none, none] [.int x7] ([kR 0 (R_s_facts_pile_state v0 q12.2.1 q12.2.2.1 q12.2.2.2)] : List (List zE)).flatten
          simpa only [if_pos c15] using H14
        · refine ⟨fun c16 => ?_, fun c16 => ?_⟩
          · refine AW.forget [true, true, true, true, false, true, false, true, true, false, false] ?_
            show AW Z 0 0 140 [some (.ref 0), some (.int y1), some (.int y2), some (.int y3), none, some (.long x5), none, some (.int x7), some (.long q12.1), none, none] [.int x4] ([kR 0 (R_s_facts_pile_state v0 q12.2.1 q12.2.2.1 q12.2.2.2)] : List (List zE)).flatten
            simpa only [if_neg c15, if_pos c16] using H14
          · refine AW.forget [true, true, true, true, false, true, false, true, true, false, false] ?_
            show AW Z 0 0 140 [some (.ref 0), some (.int y1), some (.int y2), some (.int y3), none, some (.long x5), none, some (.int x7), some (.long q12.1), none, none] [.int x7] ([kR 0 (R_s_facts_pile_state v0 q12.2.1 q12.2.2.1 q12.2.2.2)] : List (List zE)).flatten
            simpa only [if_neg c15, if_neg c16] using H14
      replace hf := zlet_gen hf
      generalize ((if ((lg_cmp x5 0) < 0) then x7 else (if (0 ≤ (lg_cmp q12.1 x5)) then x4 else x7)) : Int32) = z17 at hf ⊢
      refine AW.run hZ hRm [146] 400 ?_
      show AW Z 0 0 146 [some (.ref 0), some (.int y1), some (.int y2), some (.int y3), some (.int z17), some (.long x5), none, some (.int x7), some (.long q12.1), none, none] [.int (lg_cmp x5 0)] ([kR 0 (R_s_facts_pile_state v0 q12.2.1 q12.2.2.1 q12.2.2.2)] : List (List zE)).flatten
      suffices H18 : AW Z 0 0 164 [some (.ref 0), some (.int y1), some (.int y2), some (.int y3), some (.int z17), none, none, some (.int x7), none, none, none] [.long (if ((lg_cmp x5 0) < 0) then q12.1 else (if (0 ≤ (lg_cmp q12.1 x5)) then x5 else q12.1))] ([kR 0 (R_s_facts_pile_state v0 q12.2.1 q12.2.2.1 q12.2.2.2)] : List (List zE)).flatten from by
        refine AW.run hZ hRm [164] 400 ?_
        show ((((lg_cmp x5 0) < 0) → AW Z 0 0 164 [some (.ref 0), some (.int y1), some (.int y2), some (.int y3), some (.int z17), some (.long x5), none, some (.int x7), some (.long q12.1), none, none] [.long q12.1] ([kR 0 (R_s_facts_pile_state v0 q12.2.1 q12.2.2.1 q12.2.2.2)] : List (List zE)).flatten) ∧ (¬ ((lg_cmp x5 0) < 0) → (((0 ≤ (lg_cmp q12.1 x5)) → AW Z 0 0 164 [some (.ref 0), some (.int y1), some (.int y2), some (.int y3), some (.int z17), some (.long x5), none, some (.int x7), some (.long q12.1), none, none] [.long x5] ([kR 0 (R_s_facts_pile_state v0 q12.2.1 q12.2.2.1 q12.2.2.2)] : List (List zE)).flatten) ∧ (¬ (0 ≤ (lg_cmp q12.1 x5)) → AW Z 0 0 164 [some (.ref 0), some (.int y1), some (.int y2), some (.int y3), some (.int z17), some (.long x5), none, some (.int x7), some (.long q12.1), none, none] [.long q12.1] ([kR 0 (R_s_facts_pile_state v0 q12.2.1 q12.2.2.1 q12.2.2.2)] : List (List zE)).flatten))))
        refine ⟨fun c19 => ?_, fun c19 => ?_⟩
        · refine AW.forget [true, true, true, true, true, false, false, true, false, false, false] ?_
          show AW Z 0 0 164 [some (.ref 0), some (.int y1), some (.int y2), some (.int y3), some (.int z17), none, none, some (.int x7), none, none, none] [.long q12.1] ([kR 0 (R_s_facts_pile_state v0 q12.2.1 q12.2.2.1 q12.2.2.2)] : List (List zE)).flatten
          simpa only [if_pos c19] using H18
        · refine ⟨fun c20 => ?_, fun c20 => ?_⟩
          · refine AW.forget [true, true, true, true, true, false, false, true, false, false, false] ?_
            show AW Z 0 0 164 [some (.ref 0), some (.int y1), some (.int y2), some (.int y3), some (.int z17), none, none, some (.int x7), none, none, none] [.long x5] ([kR 0 (R_s_facts_pile_state v0 q12.2.1 q12.2.2.1 q12.2.2.2)] : List (List zE)).flatten
            simpa only [if_neg c19, if_pos c20] using H18
          · refine AW.forget [true, true, true, true, true, false, false, true, false, false, false] ?_
            show AW Z 0 0 164 [some (.ref 0), some (.int y1), some (.int y2), some (.int y3), some (.int z17), none, none, some (.int x7), none, none, none] [.long q12.1] ([kR 0 (R_s_facts_pile_state v0 q12.2.1 q12.2.2.1 q12.2.2.2)] : List (List zE)).flatten
            simpa only [if_neg c19, if_neg c20] using H18
      replace hf := zlet_gen hf
      generalize ((if ((lg_cmp x5 0) < 0) then q12.1 else (if (0 ≤ (lg_cmp q12.1 x5)) then x5 else q12.1)) : Int64) = z21 at hf ⊢
      refine AW.run hZ hRm [52] 400 ?_
      show AW Z 0 0 52 [some (.ref 0), some (.int y1), some (.int y2), some (.int y3), some (.int z17), some (.long z21), none, some (.int (x7 + 25)), none, none, none] [] ([kR 0 (R_s_facts_pile_state v0 q12.2.1 q12.2.2.1 q12.2.2.2)] : List (List zE)).flatten
      exact ih v0 y1 y2 y3 z17 z21 (x7 + 25) q12.2.1 q12.2.2.1 q12.2.2.2 q hf hk0
set_option maxRecDepth 20000 in
set_option maxHeartbeats 4000000 in
theorem c_R_prepare (N : Nat) (v0 : VR) (a1 : Int32) (a2 : Int32) (R : Int32 × Int32 × (Nat → Int32) × (Nat → Int32) × (Nat → Int32)) (hf : f_R_prepare N v0 a1 a2 = some R) : Ct zMX12_prepare 6 0 0 0 [.ref 0, .int a1, .int a2] ([kR 0 v0] : List (List zE)).flatten (fun v cc => v = some (.int R.1) ∧ cc = ([kR 0 (R_s_thrown_facts_pile_state v0 R.2.1 R.2.2.1 R.2.2.2.1 R.2.2.2.2)] : List (List zE)).flatten) := by
  refine Ct.of zMX12_prepare_ok (by decide) (Nat.le_of_ble_eq_true rfl) ?_
  intro Z hZ hR hN hE
  have hRm : zRoom Z 0 0 := zRoom0 Z
  unfold f_R_prepare at hf
  show AW Z 0 0 0 [some (.ref 0), some (.int a1), some (.int a2), none, none, none, none, none, none, none, none] [] ([kR 0 v0] : List (List zE)).flatten
  refine AW.run hZ hRm [7] 400 ?_
  show AW Z 0 0 7 [some (.ref 0), some (.int a1), some (.int a2), none, none, none, none, none, none, none, none] [.int a1, .ref 0] ([kR 0 (R_thrown_s v0 0)] : List (List zE)).flatten
  obtain ⟨q1, h31, hf⟩ := zbind hf
  refine AW.callVc hZ hR hN (c_R_isPerson N (R_thrown_s v0 0) a1 q1 h31) zMX12_isPerson_ok rfl rfl zK_BorrowedLivesModel_356 zV_X12_isPerson rfl [25] [0] [0, 1, 2, 3, 4, 5, 6, 7, 8, 9, 10, 11, 12, 13, 14, 15, 16, 17, 18, 19, 20, 21, 22, 23, 24] rfl rfl rfl (by decide) (by decide) (by omega) (by decide) (Nat.zero_le _) (Nat.zero_le _) rfl rfl rfl rfl rfl ?_
  rintro v cc ⟨rfl, rfl⟩
  refine ⟨_, rfl, rfl, ?_⟩
  show AW Z 0 0 10 [some (.ref 0), some (.int a1), some (.int a2), none, none, none, none, none, none, none, none] [.int q1] ([kR 0 (R_thrown_s v0 0)] : List (List zE)).flatten
  refine AW.run hZ hRm [16, 30] 400 ?_
  show (((q1 = 0) → AW Z 0 0 30 [some (.ref 0), some (.int a1), some (.int a2), none, none, none, none, none, none, none, none] [.int (-1)] ([kR 0 (R_thrown_s v0 0)] : List (List zE)).flatten) ∧ (¬ (q1 = 0) → AW Z 0 0 16 [some (.ref 0), some (.int a1), some (.int a2), none, none, none, none, none, none, none, none] [.int 1, .int 0, .int a2] ([kR 0 (R_thrown_s v0 0)] : List (List zE)).flatten))
  refine ⟨fun c2 => ?_, fun c2 => ?_⟩
  · rw [if_pos c2] at hf
    cases hf
    exact AW.iret hZ hE rfl rfl rfl rfl (Nat.le_refl 0) (Nat.le_refl 0) rfl ⟨rfl, rfl⟩
  · rw [if_neg c2] at hf
    obtain ⟨q3, h30, hf⟩ := zbind hf
    refine AW.callSc hZ hR hN (c_R_within N a2 0 1 q3 h30) zMX12_within_ok rfl rfl zK_BorrowedLivesModel_359 zV_X12_within rfl [25] [] [] rfl rfl rfl (by decide) (by decide) (by omega) (by decide) (Nat.zero_le _) (Nat.zero_le _) rfl rfl ?_
    rintro v cc ⟨rfl, rfl⟩
    refine ⟨_, rfl, rfl, ?_⟩
    show AW Z 0 0 19 [some (.ref 0), some (.int a1), some (.int a2), none, none, none, none, none, none, none, none] [.int q3] ([kR 0 (R_thrown_s v0 0)] : List (List zE)).flatten
    refine AW.run hZ hRm [30, 52] 400 ?_
    show (((q3 = 0) → AW Z 0 0 30 [some (.ref 0), some (.int a1), some (.int a2), none, none, none, none, none, none, none, none] [.int (-1)] ([kR 0 (R_thrown_s v0 0)] : List (List zE)).flatten) ∧ (¬ (q3 = 0) → ((¬ ((R_lotsMany v0) = 0) → (¬ ((22 + a1) < 0 ∨ 1656 ≤ Int32.toNatClampNeg (22 + a1)) ∧ AW Z 0 0 52 [some (.ref 0), some (.int a1), some (.int a2), some (.int ((R_state v0) (Int32.toNatClampNeg (22 + a1)))), some (.int 0), some (.long (-1)), none, some (.int 0), none, none, none] [] ([kR 0 (R_thrown_s v0 0)] : List (List zE)).flatten)) ∧ (((R_lotsMany v0) = 0) → AW Z 0 0 30 [some (.ref 0), some (.int a1), some (.int a2), none, none, none, none, none, none, none, none] [.int (-1)] ([kR 0 (R_thrown_s v0 0)] : List (List zE)).flatten))))
    refine ⟨fun c4 => ?_, fun c4 => ?_⟩
    · rw [if_pos c4] at hf
      cases hf
      exact AW.iret hZ hE rfl rfl rfl rfl (Nat.le_refl 0) (Nat.le_refl 0) rfl ⟨rfl, rfl⟩
    · rw [if_neg c4] at hf
      refine ⟨fun c5 => ?_, fun c5 => ?_⟩
      · rw [if_neg c5] at hf
        obtain ⟨b29, hf⟩ := zneed hf
        refine ⟨b29, ?_⟩
        obtain ⟨q24, h25, hf⟩ := zbind hf
        refine c_R_prepare_L52 hZ hR (by omega) hN hRm N N (R_thrown_s v0 0) a1 a2 ((R_state v0) (Int32.toNatClampNeg (22 + a1))) 0 (-1) 0 (R_facts v0) (R_pile v0) (R_state v0) q24 h25 ?_
        show AW Z 0 0 172 [some (.ref 0), some (.int a1), some (.int a2), some (.int ((R_state v0) (Int32.toNatClampNeg (22 + a1)))), some (.int q24.1), some (.long q24.2.1), none, none, none, none, none] [] ([kR 0 (R_s_thrown_facts_pile_state v0 0 q24.2.2.1 q24.2.2.2.1 q24.2.2.2.2)] : List (List zE)).flatten
        refine AW.run hZ hRm [204] 400 ?_
        show (¬ ((22 + a1) < 0 ∨ 1656 ≤ Int32.toNatClampNeg (22 + a1)) ∧ ((¬ (a2 = 0) → (¬ ((Int32.toInt64 (R_lotsMany v0)) = 0) ∧ AW Z 0 0 204 [some (.ref 0), some (.int a1), some (.int a2), some (.int ((R_state v0) (Int32.toNatClampNeg (22 + a1)))), some (.int q24.1), some (.long q24.2.1), none, none, none, none, none] [.int (Int64.toInt32 ((q24.2.1 * 1000) / (Int32.toInt64 (R_lotsMany v0))))] ([kR 0 (R_s_thrown_facts_pile_state v0 0 q24.2.2.1 q24.2.2.2.1 (upd q24.2.2.2.2 (Int32.toNatClampNeg (22 + a1)) ((R_state v0) (Int32.toNatClampNeg (22 + a1)))))] : List (List zE)).flatten)) ∧ ((a2 = 0) → AW Z 0 0 204 [some (.ref 0), some (.int a1), some (.int a2), some (.int ((R_state v0) (Int32.toNatClampNeg (22 + a1)))), some (.int q24.1), some (.long q24.2.1), none, none, none, none, none] [.int q24.1] ([kR 0 (R_s_thrown_facts_pile_state v0 0 q24.2.2.1 q24.2.2.2.1 (upd q24.2.2.2.2 (Int32.toNatClampNeg (22 + a1)) ((R_state v0) (Int32.toNatClampNeg (22 + a1)))))] : List (List zE)).flatten)))
        obtain ⟨b28, hf⟩ := zneed hf
        refine ⟨b28, ?_⟩
        refine ⟨fun c26 => ?_, fun c26 => ?_⟩
        · rw [if_neg c26] at hf
          obtain ⟨b27, hf⟩ := zneed hf
          refine ⟨b27, ?_⟩
          cases hf
          exact AW.iret hZ hE rfl rfl rfl rfl (Nat.le_refl 0) (Nat.le_refl 0) rfl ⟨rfl, rfl⟩
        · rw [if_pos c26] at hf
          cases hf
          exact AW.iret hZ hE rfl rfl rfl rfl (Nat.le_refl 0) (Nat.le_refl 0) rfl ⟨rfl, rfl⟩
      · rw [if_pos c5] at hf
        cases hf
        exact AW.iret hZ hE rfl rfl rfl rfl (Nat.le_refl 0) (Nat.le_refl 0) rfl ⟨rfl, rfl⟩
