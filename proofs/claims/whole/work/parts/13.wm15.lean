def f_R_judged_L28 (N : Nat) : Nat → VR → Int32 → Int32 → Int32 → (Nat → Int32) → (Nat → Int32) → (Nat → Int32) → Int64 → Option (Int32 × (Nat → Int32) × (Nat → Int32) × (Nat → Int32) × Int64)
  | 0, _, _, _, _, _, _, _, _ => none
  | fuel + 1, v0, y1, x2, x3, m_facts0, m_pile1, m_state2, m_g3 => (if (((R_lines v0) (Int32.toNatClampNeg 0)) ≤ x3) then (some (x2, m_facts0, m_pile1, m_state2, m_g3)) else (if ((1 + (3 * x3)) < 0 ∨ 250 ≤ Int32.toNatClampNeg (1 + (3 * x3))) then none else (if ((2 + (3 * x3)) < 0 ∨ 250 ≤ Int32.toNatClampNeg (2 + (3 * x3))) then none else (if ((3 + (3 * x3)) < 0 ∨ 250 ≤ Int32.toNatClampNeg (3 + (3 * x3))) then none else ((f_R_mayDo N (R_s_facts_pile_state_g v0 m_facts0 m_pile1 m_state2 m_g3) ((R_lines v0) (Int32.toNatClampNeg (1 + (3 * x3)))) ((R_lines v0) (Int32.toNatClampNeg (2 + (3 * x3)))) ((R_lines v0) (Int32.toNatClampNeg (3 + (3 * x3))))).bind (fun q5 => (if (q5 = 0) then (f_R_judged_L28 N fuel v0 y1 (if (q5 = 0) then (if (0 ≤ x2) then x2 else x3) else x2) (x3 + 1) m_facts0 m_pile1 m_state2 m_g3) else (if ((2 + (3 * x3)) < 0 ∨ 250 ≤ Int32.toNatClampNeg (2 + (3 * x3))) then none else (if ((3 + (3 * x3)) < 0 ∨ 250 ≤ Int32.toNatClampNeg (3 + (3 * x3))) then none else ((f_R_does N (R_s_facts_pile_state_g v0 m_facts0 m_pile1 m_state2 m_g3) ((R_lines v0) (Int32.toNatClampNeg (1 + (3 * x3)))) ((R_lines v0) (Int32.toNatClampNeg (2 + (3 * x3)))) ((R_lines v0) (Int32.toNatClampNeg (3 + (3 * x3))))).bind (fun q10 => (f_R_judged_L28 N fuel v0 y1 (if (q5 = 0) then (if (0 ≤ x2) then x2 else x3) else x2) (x3 + 1) q10.1 q10.2.1 q10.2.2.1 q10.2.2.2))))))))))))
def f_R_judged (N : Nat) (v0 : VR) (a1 : Int32) : Option (Int32 × Int32 × (Nat → Int32) × (Nat → Int32) × (Nat → Int32) × Int64) := ((f_R_within N a1 0 2).bind (fun q1 => (if (q1 = 0) then (some ((-2), 0, (R_facts v0), (R_pile v0), (R_state v0), (R_g v0))) else ((f_R_starts N (R_thrown_s v0 0) 1512).bind (fun q3 => ((f_R_judged_L28 N N (R_s_thrown_state v0 0 q3) a1 (-1) 0 (R_facts v0) (R_pile v0) q3 (R_g v0)).bind (fun q21 => (if (a1 = 0) then (some (q21.1, 0, q21.2.1, q21.2.2.1, q21.2.2.2.1, q21.2.2.2.2)) else (if (a1 = 1) then (some ((q21.2.2.2.1 (Int32.toNatClampNeg 1514)), 0, q21.2.1, q21.2.2.1, q21.2.2.2.1, q21.2.2.2.2)) else (some ((q21.2.2.2.1 (Int32.toNatClampNeg 1515)), 0, q21.2.1, q21.2.2.1, q21.2.2.2.1, q21.2.2.2.2)))))))))))
set_option maxRecDepth 20000 in
set_option maxHeartbeats 4000000 in
theorem c_R_judged_L28 {Z : zCtx} {D n0w nf mcw msw : Nat} (hZ : zOk Z zMX12_judged) (hR : zCan Z D mcw msw) (hDd : 6 ≤ D) (hN : zNew Z n0w nf) (hRm : zRoom Z 0 0) (N : Nat) : ∀ (fuel : Nat) (v0 : VR) (y1 : Int32) (x2 : Int32) (x3 : Int32) (m_facts0 : (Nat → Int32)) (m_pile1 : (Nat → Int32)) (m_state2 : (Nat → Int32)) (m_g3 : Int64) (q : (Int32 × (Nat → Int32) × (Nat → Int32) × (Nat → Int32) × Int64)), f_R_judged_L28 N fuel v0 y1 x2 x3 m_facts0 m_pile1 m_state2 m_g3 = some q → (AW Z 0 0 130 [some (.ref 0), some (.int y1), some (.int q.1), none, none, none] [] ([kR 0 (R_s_facts_pile_state_g v0 q.2.1 q.2.2.1 q.2.2.2.1 q.2.2.2.2)] : List (List zE)).flatten) → AW Z 0 0 28 [some (.ref 0), some (.int y1), some (.int x2), some (.int x3), none, none] [] ([kR 0 (R_s_facts_pile_state_g v0 m_facts0 m_pile1 m_state2 m_g3)] : List (List zE)).flatten := by
  intro fuel
  induction fuel with
  | zero =>
    intro v0 y1 x2 x3 m_facts0 m_pile1 m_state2 m_g3 q hf hk0
    simp [f_R_judged_L28] at hf
  | succ fuel ih =>
    intro v0 y1 x2 x3 m_facts0 m_pile1 m_state2 m_g3 q hf hk0
    rw [f_R_judged_L28] at hf
    refine AW.run hZ hRm [73, 130] 400 ?_
    show (¬ ((0 : Int32) < 0 ∨ 250 ≤ Int32.toNatClampNeg 0) ∧ (((((R_lines v0) (Int32.toNatClampNeg 0)) ≤ x3) → AW Z 0 0 130 [some (.ref 0), some (.int y1), some (.int x2), some (.int x3), none, none] [] ([kR 0 (R_s_facts_pile_state_g v0 m_facts0 m_pile1 m_state2 m_g3)] : List (List zE)).flatten) ∧ (¬ (((R_lines v0) (Int32.toNatClampNeg 0)) ≤ x3) → (¬ ((1 + (3 * x3)) < 0 ∨ 250 ≤ Int32.toNatClampNeg (1 + (3 * x3))) ∧ (¬ ((2 + (3 * x3)) < 0 ∨ 250 ≤ Int32.toNatClampNeg (2 + (3 * x3))) ∧ (¬ ((3 + (3 * x3)) < 0 ∨ 250 ≤ Int32.toNatClampNeg (3 + (3 * x3))) ∧ AW Z 0 0 73 [some (.ref 0), some (.int y1), some (.int x2), some (.int x3), some (.int ((R_lines v0) (Int32.toNatClampNeg (1 + (3 * x3))))), none] [.int ((R_lines v0) (Int32.toNatClampNeg (3 + (3 * x3)))), .int ((R_lines v0) (Int32.toNatClampNeg (2 + (3 * x3)))), .int ((R_lines v0) (Int32.toNatClampNeg (1 + (3 * x3)))), .ref 0] ([kR 0 (R_s_facts_pile_state_g v0 m_facts0 m_pile1 m_state2 m_g3)] : List (List zE)).flatten))))))
    refine ⟨(by decide), ?_⟩
    refine ⟨fun c4 => ?_, fun c4 => ?_⟩
    · rw [if_pos c4] at hf
      cases hf
      refine AW.forget [true, true, true, false, false, false] ?_
      show AW Z 0 0 130 [some (.ref 0), some (.int y1), some (.int x2), none, none, none] [] ([kR 0 (R_s_facts_pile_state_g v0 m_facts0 m_pile1 m_state2 m_g3)] : List (List zE)).flatten
      exact hk0
    · rw [if_neg c4] at hf
      obtain ⟨b20, hf⟩ := zneed hf
      refine ⟨b20, ?_⟩
      obtain ⟨b19, hf⟩ := zneed hf
      refine ⟨b19, ?_⟩
      obtain ⟨b18, hf⟩ := zneed hf
      refine ⟨b18, ?_⟩
      obtain ⟨q5, h17, hf⟩ := zbind hf
      refine AW.callVc hZ hR hN (c_R_mayDo N (R_s_facts_pile_state_g v0 m_facts0 m_pile1 m_state2 m_g3) ((R_lines v0) (Int32.toNatClampNeg (1 + (3 * x3)))) ((R_lines v0) (Int32.toNatClampNeg (2 + (3 * x3)))) ((R_lines v0) (Int32.toNatClampNeg (3 + (3 * x3)))) q5 h17) zMX12_mayDo_ok rfl rfl zK_BorrowedLivesModel_408 zV_X12_mayDo rfl [25] [0] [0, 1, 2, 3, 4, 5, 6, 7, 8, 9, 10, 11, 12, 13, 14, 15, 16, 17, 18, 19, 20, 21, 22, 23, 24] rfl rfl rfl (by decide) (by decide) (by omega) (by decide) (Nat.zero_le _) (Nat.zero_le _) rfl rfl rfl rfl rfl ?_
      rintro v cc ⟨rfl, rfl⟩
      refine ⟨_, rfl, rfl, ?_⟩
      show AW Z 0 0 76 [some (.ref 0), some (.int y1), some (.int x2), some (.int x3), some (.int ((R_lines v0) (Int32.toNatClampNeg (1 + (3 * x3))))), none] [.int q5] ([kR 0 (R_s_facts_pile_state_g v0 m_facts0 m_pile1 m_state2 m_g3)] : List (List zE)).flatten
      refine AW.run hZ hRm [106, 111] 400 ?_
      show (((q5 = 0) → AW Z 0 0 111 [some (.ref 0), some (.int y1), some (.int x2), some (.int x3), some (.int ((R_lines v0) (Int32.toNatClampNeg (1 + (3 * x3))))), some (.int q5)] [.int q5] ([kR 0 (R_s_facts_pile_state_g v0 m_facts0 m_pile1 m_state2 m_g3)] : List (List zE)).flatten) ∧ (¬ (q5 = 0) → (¬ ((2 + (3 * x3)) < 0 ∨ 250 ≤ Int32.toNatClampNeg (2 + (3 * x3))) ∧ (¬ ((3 + (3 * x3)) < 0 ∨ 250 ≤ Int32.toNatClampNeg (3 + (3 * x3))) ∧ AW Z 0 0 106 [some (.ref 0), some (.int y1), some (.int x2), some (.int x3), some (.int ((R_lines v0) (Int32.toNatClampNeg (1 + (3 * x3))))), some (.int q5)] [.int ((R_lines v0) (Int32.toNatClampNeg (3 + (3 * x3)))), .int ((R_lines v0) (Int32.toNatClampNeg (2 + (3 * x3)))), .int ((R_lines v0) (Int32.toNatClampNeg (1 + (3 * x3)))), .ref 0] ([kR 0 (R_s_facts_pile_state_g v0 m_facts0 m_pile1 m_state2 m_g3)] : List (List zE)).flatten))))
      refine ⟨fun c6 => ?_, fun c6 => ?_⟩
      · rw [if_pos c6] at hf
        suffices H7 : AW Z 0 0 123 [some (.ref 0), some (.int y1), none, some (.int x3), none, none] [.int (if (q5 = 0) then (if (0 ≤ x2) then x2 else x3) else x2)] ([kR 0 (R_s_facts_pile_state_g v0 m_facts0 m_pile1 m_state2 m_g3)] : List (List zE)).flatten from by
          refine AW.run hZ hRm [123] 400 ?_
          show ((¬ (q5 = 0) → AW Z 0 0 123 [some (.ref 0), some (.int y1), some (.int x2), some (.int x3), some (.int ((R_lines v0) (Int32.toNatClampNeg (1 + (3 * x3))))), some (.int q5)] [.int x2] ([kR 0 (R_s_facts_pile_state_g v0 m_facts0 m_pile1 m_state2 m_g3)] : List (List zE)).flatten) ∧ ((q5 = 0) → (((0 ≤ x2) → AW Z 0 0 123 [some (.ref 0), some (.int y1), some (.int x2), some (.int x3), some (.int ((R_lines v0) (Int32.toNatClampNeg (1 + (3 * x3))))), some (.int q5)] [.int x2] ([kR 0 (R_s_facts_pile_state_g v0 m_facts0 m_pile1 m_state2 m_g3)] : List (List zE)).flatten) ∧ (¬ (0 ≤ x2) → AW Z 0 0 123 [some (.ref 0), some (.int y1), some (.int x2), some (.int x3), some (.int ((R_lines v0) (Int32.toNatClampNeg (1 + (3 * x3))))), some (.int q5)] [.int x3] ([kR 0 (R_s_facts_pile_state_g v0 m_facts0 m_pile1 m_state2 m_g3)] : List (List zE)).flatten))))
          refine ⟨fun c8 => ?_, fun c8 => ?_⟩
          · refine AW.forget [true, true, false, true, false, false] ?_
            show AW Z 0 0 123 [some (.ref 0), some (.int y1), none, some (.int x3), none, none] [.int x2] ([kR 0 (R_s_facts_pile_state_g v0 m_facts0 m_pile1 m_state2 m_g3)] : List (List zE)).flatten
            simpa only [if_neg c8] using H7
          · refine ⟨fun c9 => ?_, fun c9 => ?_⟩
            · refine AW.forget [true, true, false, true, false, false] ?_
              show AW Z 0 0 123 [some (.ref 0), some (.int y1), none, some (.int x3), none, none] [.int x2] ([kR 0 (R_s_facts_pile_state_g v0 m_facts0 m_pile1 m_state2 m_g3)] : List (List zE)).flatten
              simpa only [if_pos c8, if_pos c9] using H7
            · refine AW.forget [true, true, false, true, false, false] ?_
              show AW Z 0 0 123 [some (.ref 0), some (.int y1), none, some (.int x3), none, none] [.int x3] ([kR 0 (R_s_facts_pile_state_g v0 m_facts0 m_pile1 m_state2 m_g3)] : List (List zE)).flatten
              simpa only [if_pos c8, if_neg c9] using H7
        refine AW.run hZ hRm [28] 400 ?_
        show AW Z 0 0 28 [some (.ref 0), some (.int y1), some (.int (if (q5 = 0) then (if (0 ≤ x2) then x2 else x3) else x2)), some (.int (x3 + 1)), none, none] [] ([kR 0 (R_s_facts_pile_state_g v0 m_facts0 m_pile1 m_state2 m_g3)] : List (List zE)).flatten
        exact ih v0 y1 (if (q5 = 0) then (if (0 ≤ x2) then x2 else x3) else x2) (x3 + 1) m_facts0 m_pile1 m_state2 m_g3 q hf hk0
      · rw [if_neg c6] at hf
        obtain ⟨b16, hf⟩ := zneed hf
        refine ⟨b16, ?_⟩
        obtain ⟨b15, hf⟩ := zneed hf
        refine ⟨b15, ?_⟩
        obtain ⟨q10, h14, hf⟩ := zbind hf
        refine AW.callVc hZ hR hN (c_R_does N (R_s_facts_pile_state_g v0 m_facts0 m_pile1 m_state2 m_g3) ((R_lines v0) (Int32.toNatClampNeg (1 + (3 * x3)))) ((R_lines v0) (Int32.toNatClampNeg (2 + (3 * x3)))) ((R_lines v0) (Int32.toNatClampNeg (3 + (3 * x3)))) q10 h14) zMX12_does_ok rfl rfl zK_BorrowedLivesModel_411 zV_X12_does rfl [25] [0] [0, 1, 2, 3, 4, 5, 6, 7, 8, 9, 10, 11, 12, 13, 14, 15, 16, 17, 18, 19, 20, 21, 22, 23, 24] rfl rfl rfl (by decide) (by decide) (by omega) (by decide) (Nat.zero_le _) (Nat.zero_le _) rfl rfl rfl rfl rfl ?_
        rintro v cc ⟨rfl, rfl⟩
        refine ⟨_, rfl, rfl, ?_⟩
        show AW Z 0 0 109 [some (.ref 0), some (.int y1), some (.int x2), some (.int x3), some (.int ((R_lines v0) (Int32.toNatClampNeg (1 + (3 * x3))))), some (.int q5)] [] ([kR 0 (R_s_facts_pile_state_g v0 q10.1 q10.2.1 q10.2.2.1 q10.2.2.2)] : List (List zE)).flatten
        refine AW.run hZ hRm [111] 400 ?_
        show AW Z 0 0 111 [some (.ref 0), some (.int y1), some (.int x2), some (.int x3), some (.int ((R_lines v0) (Int32.toNatClampNeg (1 + (3 * x3))))), some (.int q5)] [.int q5] ([kR 0 (R_s_facts_pile_state_g v0 q10.1 q10.2.1 q10.2.2.1 q10.2.2.2)] : List (List zE)).flatten
        suffices H11 : AW Z 0 0 123 [some (.ref 0), some (.int y1), none, some (.int x3), none, none] [.int (if (q5 = 0) then (if (0 ≤ x2) then x2 else x3) else x2)] ([kR 0 (R_s_facts_pile_state_g v0 q10.1 q10.2.1 q10.2.2.1 q10.2.2.2)] : List (List zE)).flatten from by
          refine AW.run hZ hRm [123] 400 ?_
          show ((¬ (q5 = 0) → AW Z 0 0 123 [some (.ref 0), some (.int y1), some (.int x2), some (.int x3), some (.int ((R_lines v0) (Int32.toNatClampNeg (1 + (3 * x3))))), some (.int q5)] [.int x2] ([kR 0 (R_s_facts_pile_state_g v0 q10.1 q10.2.1 q10.2.2.1 q10.2.2.2)] : List (List zE)).flatten) ∧ ((q5 = 0) → (((0 ≤ x2) → AW Z 0 0 123 [some (.ref 0), some (.int y1), some (.int x2), some (.int x3), some (.int ((R_lines v0) (Int32.toNatClampNeg (1 + (3 * x3))))), some (.int q5)] [.int x2] ([kR 0 (R_s_facts_pile_state_g v0 q10.1 q10.2.1 q10.2.2.1 q10.2.2.2)] : List (List zE)).flatten) ∧ (¬ (0 ≤ x2) → AW Z 0 0 123 [some (.ref 0), some (.int y1), some (.int x2), some (.int x3), some (.int ((R_lines v0) (Int32.toNatClampNeg (1 + (3 * x3))))), some (.int q5)] [.int x3] ([kR 0 (R_s_facts_pile_state_g v0 q10.1 q10.2.1 q10.2.2.1 q10.2.2.2)] : List (List zE)).flatten))))
          refine ⟨fun c12 => ?_, fun c12 => ?_⟩
          · refine AW.forget [true, true, false, true, false, false] ?_
            show AW Z 0 0 123 [some (.ref 0), some (.int y1), none, some (.int x3), none, none] [.int x2] ([kR 0 (R_s_facts_pile_state_g v0 q10.1 q10.2.1 q10.2.2.1 q10.2.2.2)] : List (List zE)).flatten
            simpa only [if_neg c12] using H11
          · refine ⟨fun c13 => ?_, fun c13 => ?_⟩
            · refine AW.forget [true, true, false, true, false, false] ?_
              show AW Z 0 0 123 [some (.ref 0), some (.int y1), none, some (.int x3), none, none] [.int x2] ([kR 0 (R_s_facts_pile_state_g v0 q10.1 q10.2.1 q10.2.2.1 q10.2.2.2)] : List (List zE)).flatten
              simpa only [if_pos c12, if_pos c13] using H11
            · refine AW.forget [true, true, false, true, false, false] ?_
              show AW Z 0 0 123 [some (.ref 0), some (.int y1), none, some (.int x3), none, none] [.int x3] ([kR 0 (R_s_facts_pile_state_g v0 q10.1 q10.2.1 q10.2.2.1 q10.2.2.2)] : List (List zE)).flatten
              simpa only [if_pos c12, if_neg c13] using H11
        refine AW.run hZ hRm [28] 400 ?_
        show AW Z 0 0 28 [some (.ref 0), some (.int y1), some (.int (if (q5 = 0) then (if (0 ≤ x2) then x2 else x3) else x2)), some (.int (x3 + 1)), none, none] [] ([kR 0 (R_s_facts_pile_state_g v0 q10.1 q10.2.1 q10.2.2.1 q10.2.2.2)] : List (List zE)).flatten
        exact ih v0 y1 (if (q5 = 0) then (if (0 ≤ x2) then x2 else x3) else x2) (x3 + 1) q10.1 q10.2.1 q10.2.2.1 q10.2.2.2 q hf hk0
set_option maxRecDepth 20000 in
set_option maxHeartbeats 4000000 in
theorem c_R_judged (N : Nat) (v0 : VR) (a1 : Int32) (R : Int32 × Int32 × (Nat → Int32) × (Nat → Int32) × (Nat → Int32) × Int64) (hf : f_R_judged N v0 a1 = some R) : Ct zMX12_judged 6 0 0 0 [.ref 0, .int a1] ([kR 0 v0] : List (List zE)).flatten (fun v cc => v = some (.int R.1) ∧ cc = ([kR 0 (R_s_thrown_facts_pile_state_g v0 R.2.1 R.2.2.1 R.2.2.2.1 R.2.2.2.2.1 R.2.2.2.2.2)] : List (List zE)).flatten) := by
  refine Ct.of zMX12_judged_ok (by decide) (Nat.le_of_ble_eq_true rfl) ?_
  intro Z hZ hR hN hE
  have hRm : zRoom Z 0 0 := zRoom0 Z
  unfold f_R_judged at hf
  show AW Z 0 0 0 [some (.ref 0), some (.int a1), none, none, none, none] [] ([kR 0 v0] : List (List zE)).flatten
  refine AW.run hZ hRm [8] 400 ?_
  show AW Z 0 0 8 [some (.ref 0), some (.int a1), none, none, none, none] [.int 2, .int 0, .int a1] ([kR 0 (R_thrown_s v0 0)] : List (List zE)).flatten
  obtain ⟨q1, h26, hf⟩ := zbind hf
  refine AW.callSc hZ hR hN (c_R_within N a1 0 2 q1 h26) zMX12_within_ok rfl rfl zK_BorrowedLivesModel_359 zV_X12_within rfl [25] [] [] rfl rfl rfl (by decide) (by decide) (by omega) (by decide) (Nat.zero_le _) (Nat.zero_le _) rfl rfl ?_
  rintro v cc ⟨rfl, rfl⟩
  refine ⟨_, rfl, rfl, ?_⟩
  show AW Z 0 0 11 [some (.ref 0), some (.int a1), none, none, none, none] [.int q1] ([kR 0 (R_thrown_s v0 0)] : List (List zE)).flatten
  refine AW.run hZ hRm [16, 21] 400 ?_
  show ((¬ (q1 = 0) → AW Z 0 0 21 [some (.ref 0), some (.int a1), none, none, none, none] [.int 1512, .ref 0] ([kR 0 (R_thrown_s v0 0)] : List (List zE)).flatten) ∧ ((q1 = 0) → AW Z 0 0 16 [some (.ref 0), some (.int a1), none, none, none, none] [.int (-2)] ([kR 0 (R_thrown_s v0 0)] : List (List zE)).flatten))
  refine ⟨fun c2 => ?_, fun c2 => ?_⟩
  · rw [if_neg c2] at hf
    obtain ⟨q3, h25, hf⟩ := zbind hf
    refine AW.callVc hZ hR hN (c_R_starts N (R_thrown_s v0 0) 1512 q3 h25) zMX12_starts_ok rfl rfl zK_BorrowedLivesModel_300 zV_X12_starts rfl [25] [0] [0, 1, 2, 3, 4, 5, 6, 7, 8, 9, 10, 11, 12, 13, 14, 15, 16, 17, 18, 19, 20, 21, 22, 23, 24] rfl rfl rfl (by decide) (by decide) (by omega) (by decide) (Nat.zero_le _) (Nat.zero_le _) rfl rfl rfl rfl rfl ?_
    rintro v cc ⟨rfl, rfl⟩
    refine ⟨_, rfl, rfl, ?_⟩
    show AW Z 0 0 24 [some (.ref 0), some (.int a1), none, none, none, none] [] ([kR 0 (R_s_thrown_state v0 0 q3)] : List (List zE)).flatten
    refine AW.run hZ hRm [28] 400 ?_
    show AW Z 0 0 28 [some (.ref 0), some (.int a1), some (.int (-1)), some (.int 0), none, none] [] ([kR 0 (R_s_thrown_state v0 0 q3)] : List (List zE)).flatten
    obtain ⟨q21, h22, hf⟩ := zbind hf
    refine c_R_judged_L28 hZ hR (by omega) hN hRm N N (R_s_thrown_state v0 0 q3) a1 (-1) 0 (R_facts v0) (R_pile v0) q3 (R_g v0) q21 h22 ?_
    show AW Z 0 0 130 [some (.ref 0), some (.int a1), some (.int q21.1), none, none, none] [] ([kR 0 (R_s_thrown_facts_pile_state_g v0 0 q21.2.1 q21.2.2.1 q21.2.2.2.1 q21.2.2.2.2)] : List (List zE)).flatten
    refine AW.run hZ hRm [162] 400 ?_
    show ((¬ (a1 = 0) → ((¬ (a1 = 1) → (¬ ((1515 : Int32) < 0 ∨ 1656 ≤ Int32.toNatClampNeg 1515) ∧ AW Z 0 0 162 [some (.ref 0), some (.int a1), some (.int q21.1), none, none, none] [.int (q21.2.2.2.1 (Int32.toNatClampNeg 1515))] ([kR 0 (R_s_thrown_facts_pile_state_g v0 0 q21.2.1 q21.2.2.1 q21.2.2.2.1 q21.2.2.2.2)] : List (List zE)).flatten)) ∧ ((a1 = 1) → (¬ ((1514 : Int32) < 0 ∨ 1656 ≤ Int32.toNatClampNeg 1514) ∧ AW Z 0 0 162 [some (.ref 0), some (.int a1), some (.int q21.1), none, none, none] [.int (q21.2.2.2.1 (Int32.toNatClampNeg 1514))] ([kR 0 (R_s_thrown_facts_pile_state_g v0 0 q21.2.1 q21.2.2.1 q21.2.2.2.1 q21.2.2.2.2)] : List (List zE)).flatten)))) ∧ ((a1 = 0) → AW Z 0 0 162 [some (.ref 0), some (.int a1), some (.int q21.1), none, none, none] [.int q21.1] ([kR 0 (R_s_thrown_facts_pile_state_g v0 0 q21.2.1 q21.2.2.1 q21.2.2.2.1 q21.2.2.2.2)] : List (List zE)).flatten))
    refine ⟨fun c23 => ?_, fun c23 => ?_⟩
    · rw [if_neg c23] at hf
      refine ⟨fun c24 => ?_, fun c24 => ?_⟩
      · rw [if_neg c24] at hf
        refine ⟨(by decide), ?_⟩
        cases hf
        exact AW.iret hZ hE rfl rfl rfl rfl (Nat.le_refl 0) (Nat.le_refl 0) rfl ⟨rfl, rfl⟩
      · rw [if_pos c24] at hf
        refine ⟨(by decide), ?_⟩
        cases hf
        exact AW.iret hZ hE rfl rfl rfl rfl (Nat.le_refl 0) (Nat.le_refl 0) rfl ⟨rfl, rfl⟩
    · rw [if_pos c23] at hf
      cases hf
      exact AW.iret hZ hE rfl rfl rfl rfl (Nat.le_refl 0) (Nat.le_refl 0) rfl ⟨rfl, rfl⟩
  · rw [if_pos c2] at hf
    cases hf
    exact AW.iret hZ hE rfl rfl rfl rfl (Nat.le_refl 0) (Nat.le_refl 0) rfl ⟨rfl, rfl⟩
def f_R_weekBy_L20 (N : Nat) : Nat → VR → Int32 → (Nat → Int32) → (Nat → Int32) → (Nat → Int32) → Option ((Nat → Int32) × (Nat → Int32) × (Nat → Int32))
  | 0, _, _, _, _, _ => none
  | fuel + 1, v0, x2, m_facts0, m_pile1, m_state2 => (if (7 ≤ x2) then (some (m_facts0, m_pile1, m_state2)) else ((f_R_passes N (R_s_facts_pile_state v0 m_facts0 m_pile1 m_state2) 1584).bind (fun q4 => (f_R_weekBy_L20 N fuel v0 (x2 + 1) q4.1 q4.2.1 q4.2.2))))
def f_R_weekBy (N : Nat) (v0 : VR) (a1 : Int32) : Option ((Nat → Int32) × (Nat → Int32) × (Nat → Int32)) := ((f_R_copies N v0 0 1584 46).bind (fun q1 => ((f_R_leaves N (R_state_s v0 q1) 1584 a1).bind (fun q2 => ((f_R_weekBy_L20 N N (R_state_s v0 q2) 0 (R_facts v0) (R_pile v0) q2).bind (fun q6 => (some (q6.1, q6.2.1, q6.2.2))))))))
set_option maxRecDepth 20000 in
set_option maxHeartbeats 4000000 in
theorem c_R_weekBy_L20 {Z : zCtx} {D n0w nf mcw msw : Nat} (hZ : zOk Z zMX12_weekBy) (hR : zCan Z D mcw msw) (hDd : 5 ≤ D) (hN : zNew Z n0w nf) (hRm : zRoom Z 0 0) (N : Nat) : ∀ (fuel : Nat) (v0 : VR) (x2 : Int32) (m_facts0 : (Nat → Int32)) (m_pile1 : (Nat → Int32)) (m_state2 : (Nat → Int32)) (q : ((Nat → Int32) × (Nat → Int32) × (Nat → Int32))), f_R_weekBy_L20 N fuel v0 x2 m_facts0 m_pile1 m_state2 = some q → (AW Z 0 0 39 [none, none, none] [] ([kR 0 (R_s_facts_pile_state v0 q.1 q.2.1 q.2.2)] : List (List zE)).flatten) → AW Z 0 0 20 [some (.ref 0), none, some (.int x2)] [] ([kR 0 (R_s_facts_pile_state v0 m_facts0 m_pile1 m_state2)] : List (List zE)).flatten := by
  intro fuel
  induction fuel with
  | zero =>
    intro v0 x2 m_facts0 m_pile1 m_state2 q hf hk0
    simp [f_R_weekBy_L20] at hf
  | succ fuel ih =>
    intro v0 x2 m_facts0 m_pile1 m_state2 q hf hk0
    rw [f_R_weekBy_L20] at hf
    refine AW.run hZ hRm [30, 39] 400 ?_
    show (((7 ≤ x2) → AW Z 0 0 39 [some (.ref 0), none, some (.int x2)] [] ([kR 0 (R_s_facts_pile_state v0 m_facts0 m_pile1 m_state2)] : List (List zE)).flatten) ∧ (¬ (7 ≤ x2) → AW Z 0 0 30 [some (.ref 0), none, some (.int x2)] [.int 1584, .ref 0] ([kR 0 (R_s_facts_pile_state v0 m_facts0 m_pile1 m_state2)] : List (List zE)).flatten))
    refine ⟨fun c3 => ?_, fun c3 => ?_⟩
    · rw [if_pos c3] at hf
      cases hf
      refine AW.forget [false, false, false] ?_
      show AW Z 0 0 39 [none, none, none] [] ([kR 0 (R_s_facts_pile_state v0 m_facts0 m_pile1 m_state2)] : List (List zE)).flatten
      exact hk0
    · rw [if_neg c3] at hf
      obtain ⟨q4, h5, hf⟩ := zbind hf
      refine AW.callVc hZ hR hN (c_R_passes N (R_s_facts_pile_state v0 m_facts0 m_pile1 m_state2) 1584 q4 h5) zMX12_passes_ok rfl rfl zK_BorrowedLivesModel_402 zV_X12_passes rfl [25] [0] [0, 1, 2, 3, 4, 5, 6, 7, 8, 9, 10, 11, 12, 13, 14, 15, 16, 17, 18, 19, 20, 21, 22, 23, 24] rfl rfl rfl (by decide) (by decide) (by omega) (by decide) (Nat.zero_le _) (Nat.zero_le _) rfl rfl rfl rfl rfl ?_
      rintro v cc ⟨rfl, rfl⟩
      refine ⟨_, rfl, rfl, ?_⟩
      show AW Z 0 0 33 [some (.ref 0), none, some (.int x2)] [] ([kR 0 (R_s_facts_pile_state v0 q4.1 q4.2.1 q4.2.2)] : List (List zE)).flatten
      refine AW.run hZ hRm [20] 400 ?_
      show AW Z 0 0 20 [some (.ref 0), none, some (.int (x2 + 1))] [] ([kR 0 (R_s_facts_pile_state v0 q4.1 q4.2.1 q4.2.2)] : List (List zE)).flatten
      exact ih v0 (x2 + 1) q4.1 q4.2.1 q4.2.2 q hf hk0
set_option maxRecDepth 20000 in
set_option maxHeartbeats 4000000 in
theorem c_R_weekBy (N : Nat) (v0 : VR) (a1 : Int32) (R : (Nat → Int32) × (Nat → Int32) × (Nat → Int32)) (hf : f_R_weekBy N v0 a1 = some R) : Ct zMX12_weekBy 5 0 0 0 [.ref 0, .int a1] ([kR 0 v0] : List (List zE)).flatten (fun v cc => v = none ∧ cc = ([kR 0 (R_s_facts_pile_state v0 R.1 R.2.1 R.2.2)] : List (List zE)).flatten) := by
  refine Ct.of zMX12_weekBy_ok (by decide) (Nat.le_of_ble_eq_true rfl) ?_
  intro Z hZ hR hN hE
  have hRm : zRoom Z 0 0 := zRoom0 Z
  unfold f_R_weekBy at hf
  show AW Z 0 0 0 [some (.ref 0), some (.int a1), none] [] ([kR 0 v0] : List (List zE)).flatten
  refine AW.run hZ hRm [7] 400 ?_
  show AW Z 0 0 7 [some (.ref 0), some (.int a1), none] [.int 46, .int 1584, .int 0, .ref 0] ([kR 0 v0] : List (List zE)).flatten
  obtain ⟨q1, h9, hf⟩ := zbind hf
  refine AW.callVc hZ hR hN (c_R_copies N v0 0 1584 46 q1 h9) zMX12_copies_ok rfl rfl zK_BorrowedLivesModel_309 zV_X12_copies rfl [25] [0] [0, 1, 2, 3, 4, 5, 6, 7, 8, 9, 10, 11, 12, 13, 14, 15, 16, 17, 18, 19, 20, 21, 22, 23, 24] rfl rfl rfl (by decide) (by decide) (by omega) (by decide) (Nat.zero_le _) (Nat.zero_le _) rfl rfl rfl rfl rfl ?_
  rintro v cc ⟨rfl, rfl⟩
  refine ⟨_, rfl, rfl, ?_⟩
  show AW Z 0 0 10 [some (.ref 0), some (.int a1), none] [] ([kR 0 (R_state_s v0 q1)] : List (List zE)).flatten
  refine AW.run hZ hRm [15] 400 ?_
  show AW Z 0 0 15 [some (.ref 0), some (.int a1), none] [.int a1, .int 1584, .ref 0] ([kR 0 (R_state_s v0 q1)] : List (List zE)).flatten
  obtain ⟨q2, h8, hf⟩ := zbind hf
  refine AW.callVc hZ hR hN (c_R_leaves N (R_state_s v0 q1) 1584 a1 q2 h8) zMX12_leaves_ok rfl rfl zK_BorrowedLivesModel_387 zV_X12_leaves rfl [25] [0] [0, 1, 2, 3, 4, 5, 6, 7, 8, 9, 10, 11, 12, 13, 14, 15, 16, 17, 18, 19, 20, 21, 22, 23, 24] rfl rfl rfl (by decide) (by decide) (by omega) (by decide) (Nat.zero_le _) (Nat.zero_le _) rfl rfl rfl rfl rfl ?_
  rintro v cc ⟨rfl, rfl⟩
  refine ⟨_, rfl, rfl, ?_⟩
  show AW Z 0 0 18 [some (.ref 0), some (.int a1), none] [] ([kR 0 (R_state_s v0 q2)] : List (List zE)).flatten
  refine AW.run hZ hRm [20] 400 ?_
  show AW Z 0 0 20 [some (.ref 0), some (.int a1), some (.int 0)] [] ([kR 0 (R_state_s v0 q2)] : List (List zE)).flatten
  obtain ⟨q6, h7, hf⟩ := zbind hf
  refine AW.forget [true, false, true] ?_
  show AW Z 0 0 20 [some (.ref 0), none, some (.int 0)] [] ([kR 0 (R_state_s v0 q2)] : List (List zE)).flatten
  refine c_R_weekBy_L20 hZ hR (by omega) hN hRm N N (R_state_s v0 q2) 0 (R_facts v0) (R_pile v0) q2 q6 h7 ?_
  show AW Z 0 0 39 [none, none, none] [] ([kR 0 (R_s_facts_pile_state v0 q6.1 q6.2.1 q6.2.2)] : List (List zE)).flatten
  cases hf
  exact AW.vret hZ hE rfl rfl rfl (Nat.le_refl 0) (Nat.le_refl 0) rfl ⟨rfl, rfl⟩
def f_R_lots (N : Nat) (v0 : VR) : Option (Int32 × Int32) := (some ((R_lotsMany v0), 0))
set_option maxRecDepth 20000 in
set_option maxHeartbeats 4000000 in
theorem c_R_lots (N : Nat) (v0 : VR) (R : Int32 × Int32) (hf : f_R_lots N v0 = some R) : Ct zMX12_lots 1 0 0 0 [.ref 0] ([kR 0 v0] : List (List zE)).flatten (fun v cc => v = some (.int R.1) ∧ cc = ([kR 0 (R_thrown_s v0 R.2)] : List (List zE)).flatten) := by
  refine Ct.of zMX12_lots_ok (by decide) (Nat.le_of_ble_eq_true rfl) ?_
  intro Z hZ hR hN hE
  have hRm : zRoom Z 0 0 := zRoom0 Z
  unfold f_R_lots at hf
  show AW Z 0 0 0 [some (.ref 0)] [] ([kR 0 v0] : List (List zE)).flatten
  refine AW.run hZ hRm [9] 400 ?_
  show AW Z 0 0 9 [some (.ref 0)] [.int (R_lotsMany v0)] ([kR 0 (R_thrown_s v0 0)] : List (List zE)).flatten
  cases hf
  exact AW.iret hZ hE rfl rfl rfl rfl (Nat.le_refl 0) (Nat.le_refl 0) rfl ⟨rfl, rfl⟩
def f_R_odds_L35 (N : Nat) : Nat → VR → Int32 → Int32 → Int32 → Int32 → Option (Int32)
  | 0, _, _, _, _, _ => none
  | fuel + 1, v0, y1, y2, x3, x4 => (if ((R_lotsMany v0) ≤ x4) then (some x3) else ((f_R_selfOf N v0 x4 y2).bind (fun q7 => (f_R_odds_L35 N fuel v0 y1 y2 (x3 + (if (q7 = y1) then 1 else 0)) (x4 + 1)))))
def f_R_odds (N : Nat) (v0 : VR) (a1 : Int32) (a2 : Int32) : Option (Int32 × Int32) := ((f_R_isPerson N (R_thrown_s v0 0) a1).bind (fun q1 => (if (q1 = 0) then (some ((-1), 0)) else ((f_R_isPerson N (R_thrown_s v0 0) a2).bind (fun q3 => (if (q3 = 0) then (some ((-1), 0)) else (if ((R_lotsMany v0) = 0) then (some ((-1), 0)) else ((f_R_odds_L35 N N (R_thrown_s v0 0) a1 a2 0 0).bind (fun q11 => (if ((R_lotsMany v0) = 0) then none else (some (((q11 * 1000000) / (R_lotsMany v0)), 0))))))))))))
set_option maxRecDepth 20000 in
set_option maxHeartbeats 4000000 in
theorem c_R_odds_L35 {Z : zCtx} {D n0w nf mcw msw : Nat} (hZ : zOk Z zMX12_odds) (hR : zCan Z D mcw msw) (hDd : 3 ≤ D) (hN : zNew Z n0w nf) (hRm : zRoom Z 0 0) (N : Nat) : ∀ (fuel : Nat) (v0 : VR) (y1 : Int32) (y2 : Int32) (x3 : Int32) (x4 : Int32) (q : (Int32)), f_R_odds_L35 N fuel v0 y1 y2 x3 x4 = some q → (AW Z 0 0 69 [some (.ref 0), none, none, some (.int q), none] [] ([kR 0 v0] : List (List zE)).flatten) → AW Z 0 0 35 [some (.ref 0), some (.int y1), some (.int y2), some (.int x3), some (.int x4)] [] ([kR 0 v0] : List (List zE)).flatten := by
  intro fuel
  induction fuel with
  | zero =>
    intro v0 y1 y2 x3 x4 q hf hk0
    simp [f_R_odds_L35] at hf
  | succ fuel ih =>
    intro v0 y1 y2 x3 x4 q hf hk0
    rw [f_R_odds_L35] at hf
    refine AW.run hZ hRm [49, 69] 400 ?_
    show ((((R_lotsMany v0) ≤ x4) → AW Z 0 0 69 [some (.ref 0), some (.int y1), some (.int y2), some (.int x3), some (.int x4)] [] ([kR 0 v0] : List (List zE)).flatten) ∧ (¬ ((R_lotsMany v0) ≤ x4) → AW Z 0 0 49 [some (.ref 0), some (.int y1), some (.int y2), some (.int x3), some (.int x4)] [.int y2, .int x4, .ref 0, .int x3] ([kR 0 v0] : List (List zE)).flatten))
    refine ⟨fun c6 => ?_, fun c6 => ?_⟩
    · rw [if_pos c6] at hf
      cases hf
      refine AW.forget [true, false, false, true, false] ?_
      show AW Z 0 0 69 [some (.ref 0), none, none, some (.int x3), none] [] ([kR 0 v0] : List (List zE)).flatten
      exact hk0
    · rw [if_neg c6] at hf
      obtain ⟨q7, h10, hf⟩ := zbind hf
      refine AW.callVc hZ hR hN (c_R_selfOf N v0 x4 y2 q7 h10) zMX12_selfOf_ok rfl rfl zK_BorrowedLivesModel_346 zV_X12_selfOf rfl [25] [0] [0, 1, 2, 3, 4, 5, 6, 7, 8, 9, 10, 11, 12, 13, 14, 15, 16, 17, 18, 19, 20, 21, 22, 23, 24] rfl rfl rfl (by decide) (by decide) (by omega) (by decide) (Nat.zero_le _) (Nat.zero_le _) rfl rfl rfl rfl rfl ?_
      rintro v cc ⟨rfl, rfl⟩
      refine ⟨_, rfl, rfl, ?_⟩
      show AW Z 0 0 52 [some (.ref 0), some (.int y1), some (.int y2), some (.int x3), some (.int x4)] [.int q7, .int x3] ([kR 0 v0] : List (List zE)).flatten
      refine AW.run hZ hRm [53] 400 ?_
      show AW Z 0 0 53 [some (.ref 0), some (.int y1), some (.int y2), some (.int x3), some (.int x4)] [.int y1, .int q7, .int x3] ([kR 0 v0] : List (List zE)).flatten
      suffices H8 : AW Z 0 0 61 [some (.ref 0), some (.int y1), some (.int y2), none, some (.int x4)] [.int (if (q7 = y1) then 1 else 0), .int x3] ([kR 0 v0] : List (List zE)).flatten from by
        refine AW.run hZ hRm [61] 400 ?_
        show ((¬ (q7 = y1) → AW Z 0 0 61 [some (.ref 0), some (.int y1), some (.int y2), some (.int x3), some (.int x4)] [.int 0, .int x3] ([kR 0 v0] : List (List zE)).flatten) ∧ ((q7 = y1) → AW Z 0 0 61 [some (.ref 0), some (.int y1), some (.int y2), some (.int x3), some (.int x4)] [.int 1, .int x3] ([kR 0 v0] : List (List zE)).flatten))
        refine ⟨fun c9 => ?_, fun c9 => ?_⟩
        · refine AW.forget [true, true, true, false, true] ?_
          show AW Z 0 0 61 [some (.ref 0), some (.int y1), some (.int y2), none, some (.int x4)] [.int 0, .int x3] ([kR 0 v0] : List (List zE)).flatten
          simpa only [if_neg c9] using H8
        · refine AW.forget [true, true, true, false, true] ?_
          show AW Z 0 0 61 [some (.ref 0), some (.int y1), some (.int y2), none, some (.int x4)] [.int 1, .int x3] ([kR 0 v0] : List (List zE)).flatten
          simpa only [if_pos c9] using H8
      refine AW.run hZ hRm [35] 400 ?_
      show AW Z 0 0 35 [some (.ref 0), some (.int y1), some (.int y2), some (.int (x3 + (if (q7 = y1) then 1 else 0))), some (.int (x4 + 1))] [] ([kR 0 v0] : List (List zE)).flatten
      exact ih v0 y1 y2 (x3 + (if (q7 = y1) then 1 else 0)) (x4 + 1) q hf hk0
set_option maxRecDepth 20000 in
set_option maxHeartbeats 4000000 in
theorem c_R_odds (N : Nat) (v0 : VR) (a1 : Int32) (a2 : Int32) (R : Int32 × Int32) (hf : f_R_odds N v0 a1 a2 = some R) : Ct zMX12_odds 3 0 0 0 [.ref 0, .int a1, .int a2] ([kR 0 v0] : List (List zE)).flatten (fun v cc => v = some (.int R.1) ∧ cc = ([kR 0 (R_thrown_s v0 R.2)] : List (List zE)).flatten) := by
  refine Ct.of zMX12_odds_ok (by decide) (Nat.le_of_ble_eq_true rfl) ?_
  intro Z hZ hR hN hE
  have hRm : zRoom Z 0 0 := zRoom0 Z
  unfold f_R_odds at hf
  show AW Z 0 0 0 [some (.ref 0), some (.int a1), some (.int a2), none, none] [] ([kR 0 v0] : List (List zE)).flatten
  refine AW.run hZ hRm [7] 400 ?_
  show AW Z 0 0 7 [some (.ref 0), some (.int a1), some (.int a2), none, none] [.int a1, .ref 0] ([kR 0 (R_thrown_s v0 0)] : List (List zE)).flatten
  obtain ⟨q1, h15, hf⟩ := zbind hf
  refine AW.callVc hZ hR hN (c_R_isPerson N (R_thrown_s v0 0) a1 q1 h15) zMX12_isPerson_ok rfl rfl zK_BorrowedLivesModel_356 zV_X12_isPerson rfl [25] [0] [0, 1, 2, 3, 4, 5, 6, 7, 8, 9, 10, 11, 12, 13, 14, 15, 16, 17, 18, 19, 20, 21, 22, 23, 24] rfl rfl rfl (by decide) (by decide) (by omega) (by decide) (Nat.zero_le _) (Nat.zero_le _) rfl rfl rfl rfl rfl ?_
  rintro v cc ⟨rfl, rfl⟩
  refine ⟨_, rfl, rfl, ?_⟩
  show AW Z 0 0 10 [some (.ref 0), some (.int a1), some (.int a2), none, none] [.int q1] ([kR 0 (R_thrown_s v0 0)] : List (List zE)).flatten
  refine AW.run hZ hRm [15, 29] 400 ?_
  show (((q1 = 0) → AW Z 0 0 29 [some (.ref 0), some (.int a1), some (.int a2), none, none] [.int (-1)] ([kR 0 (R_thrown_s v0 0)] : List (List zE)).flatten) ∧ (¬ (q1 = 0) → AW Z 0 0 15 [some (.ref 0), some (.int a1), some (.int a2), none, none] [.int a2, .ref 0] ([kR 0 (R_thrown_s v0 0)] : List (List zE)).flatten))
  refine ⟨fun c2 => ?_, fun c2 => ?_⟩
  · rw [if_pos c2] at hf
    cases hf
    exact AW.iret hZ hE rfl rfl rfl rfl (Nat.le_refl 0) (Nat.le_refl 0) rfl ⟨rfl, rfl⟩
  · rw [if_neg c2] at hf
    obtain ⟨q3, h14, hf⟩ := zbind hf
    refine AW.callVc hZ hR hN (c_R_isPerson N (R_thrown_s v0 0) a2 q3 h14) zMX12_isPerson_ok rfl rfl zK_BorrowedLivesModel_356 zV_X12_isPerson rfl [25] [0] [0, 1, 2, 3, 4, 5, 6, 7, 8, 9, 10, 11, 12, 13, 14, 15, 16, 17, 18, 19, 20, 21, 22, 23, 24] rfl rfl rfl (by decide) (by decide) (by omega) (by decide) (Nat.zero_le _) (Nat.zero_le _) rfl rfl rfl rfl rfl ?_
    rintro v cc ⟨rfl, rfl⟩
    refine ⟨_, rfl, rfl, ?_⟩
    show AW Z 0 0 18 [some (.ref 0), some (.int a1), some (.int a2), none, none] [.int q3] ([kR 0 (R_thrown_s v0 0)] : List (List zE)).flatten
    refine AW.run hZ hRm [29, 35] 400 ?_
    show (((q3 = 0) → AW Z 0 0 29 [some (.ref 0), some (.int a1), some (.int a2), none, none] [.int (-1)] ([kR 0 (R_thrown_s v0 0)] : List (List zE)).flatten) ∧ (¬ (q3 = 0) → ((¬ ((R_lotsMany v0) = 0) → AW Z 0 0 35 [some (.ref 0), some (.int a1), some (.int a2), some (.int 0), some (.int 0)] [] ([kR 0 (R_thrown_s v0 0)] : List (List zE)).flatten) ∧ (((R_lotsMany v0) = 0) → AW Z 0 0 29 [some (.ref 0), some (.int a1), some (.int a2), none, none] [.int (-1)] ([kR 0 (R_thrown_s v0 0)] : List (List zE)).flatten))))
    refine ⟨fun c4 => ?_, fun c4 => ?_⟩
    · rw [if_pos c4] at hf
      cases hf
      exact AW.iret hZ hE rfl rfl rfl rfl (Nat.le_refl 0) (Nat.le_refl 0) rfl ⟨rfl, rfl⟩
    · rw [if_neg c4] at hf
      refine ⟨fun c5 => ?_, fun c5 => ?_⟩
      · rw [if_neg c5] at hf
        obtain ⟨q11, h12, hf⟩ := zbind hf
        refine c_R_odds_L35 hZ hR (by omega) hN hRm N N (R_thrown_s v0 0) a1 a2 0 0 q11 h12 ?_
        show AW Z 0 0 69 [some (.ref 0), none, none, some (.int q11), none] [] ([kR 0 (R_thrown_s v0 0)] : List (List zE)).flatten
        refine AW.run hZ hRm [79] 400 ?_
        show (¬ ((R_lotsMany v0) = 0) ∧ AW Z 0 0 79 [some (.ref 0), none, none, some (.int q11), none] [.int ((q11 * 1000000) / (R_lotsMany v0))] ([kR 0 (R_thrown_s v0 0)] : List (List zE)).flatten)
        obtain ⟨b13, hf⟩ := zneed hf
        refine ⟨b13, ?_⟩
        cases hf
        exact AW.iret hZ hE rfl rfl rfl rfl (Nat.le_refl 0) (Nat.le_refl 0) rfl ⟨rfl, rfl⟩
      · rw [if_pos c5] at hf
        cases hf
        exact AW.iret hZ hE rfl rfl rfl rfl (Nat.le_refl 0) (Nat.le_refl 0) rfl ⟨rfl, rfl⟩
def f_R_least_L35 (N : Nat) : Nat → VR → Int32 → Int32 → Int32 → Int32 → (Nat → Int32) → (Nat → Int32) → (Nat → Int32) → Option (Int32 × Int32 × (Nat → Int32) × (Nat → Int32) × (Nat → Int32))
  | 0, _, _, _, _, _, _, _, _ => none
  | fuel + 1, v0, y1, x2, x3, x4, m_facts0, m_pile1, m_state2 => (if ((R_lotsMany v0) ≤ x4) then (some (x2, x3, m_facts0, m_pile1, m_state2)) else ((f_R_weekBy N (R_s_facts_pile_state v0 m_facts0 m_pile1 m_state2) x4).bind (fun q4 => ((f_R_allHarm N (R_s_facts_pile_state v0 q4.1 q4.2.1 q4.2.2) 1584 0).bind (fun q5 => (f_R_least_L35 N fuel v0 y1 (if (x3 < 0) then x4 else (if (x3 ≤ q5) then x2 else x4)) (if (x3 < 0) then q5 else (if (x3 ≤ q5) then x3 else q5)) (x4 + 1) q4.1 q4.2.1 q4.2.2))))))
def f_R_least (N : Nat) (v0 : VR) (a1 : Int32) : Option (Int32 × Int32 × (Nat → Int32) × (Nat → Int32) × (Nat → Int32)) := (if (a1 = (-1)) then (if ((R_lotsMany v0) = 0) then (some ((-2), 0, (R_facts v0), (R_pile v0), (R_state v0))) else ((f_R_least_L35 N N (R_thrown_s v0 0) a1 0 (-1) 0 (R_facts v0) (R_pile v0) (R_state v0)).bind (fun q14 => (if (0 ≤ a1) then ((f_R_selfOf N (R_s_thrown_facts_pile_state v0 0 q14.2.2.1 q14.2.2.2.1 q14.2.2.2.2) q14.1 a1).bind (fun q17 => (some (q17, 0, q14.2.2.1, q14.2.2.2.1, q14.2.2.2.2)))) else (some (q14.2.1, 0, q14.2.2.1, q14.2.2.2.1, q14.2.2.2.2)))))) else ((f_R_isPerson N (R_thrown_s v0 0) a1).bind (fun q19 => (if (q19 = 0) then (some ((-2), 0, (R_facts v0), (R_pile v0), (R_state v0))) else (if ((R_lotsMany v0) = 0) then (some ((-2), 0, (R_facts v0), (R_pile v0), (R_state v0))) else ((f_R_least_L35 N N (R_thrown_s v0 0) a1 0 (-1) 0 (R_facts v0) (R_pile v0) (R_state v0)).bind (fun q22 => (if (0 ≤ a1) then ((f_R_selfOf N (R_s_thrown_facts_pile_state v0 0 q22.2.2.1 q22.2.2.2.1 q22.2.2.2.2) q22.1 a1).bind (fun q25 => (some (q25, 0, q22.2.2.1, q22.2.2.2.1, q22.2.2.2.2)))) else (some (q22.2.1, 0, q22.2.2.1, q22.2.2.2.1, q22.2.2.2.2))))))))))
set_option maxRecDepth 20000 in
set_option maxHeartbeats 4000000 in
theorem c_R_least_L35 {Z : zCtx} {D n0w nf mcw msw : Nat} (hZ : zOk Z zMX12_least) (hR : zCan Z D mcw msw) (hDd : 6 ≤ D) (hN : zNew Z n0w nf) (hRm : zRoom Z 0 0) (N : Nat) : ∀ (fuel : Nat) (v0 : VR) (y1 : Int32) (x2 : Int32) (x3 : Int32) (x4 : Int32) (m_facts0 : (Nat → Int32)) (m_pile1 : (Nat → Int32)) (m_state2 : (Nat → Int32)) (q : (Int32 × Int32 × (Nat → Int32) × (Nat → Int32) × (Nat → Int32))), f_R_least_L35 N fuel v0 y1 x2 x3 x4 m_facts0 m_pile1 m_state2 = some q → (AW Z 0 0 100 [some (.ref 0), some (.int y1), some (.int q.1), some (.int q.2.1), none, none] [] ([kR 0 (R_s_facts_pile_state v0 q.2.2.1 q.2.2.2.1 q.2.2.2.2)] : List (List zE)).flatten) → AW Z 0 0 35 [some (.ref 0), some (.int y1), some (.int x2), some (.int x3), some (.int x4), none] [] ([kR 0 (R_s_facts_pile_state v0 m_facts0 m_pile1 m_state2)] : List (List zE)).flatten := by
  intro fuel
  induction fuel with
  | zero =>
    intro v0 y1 x2 x3 x4 m_facts0 m_pile1 m_state2 q hf hk0
    simp [f_R_least_L35] at hf
  | succ fuel ih =>
    intro v0 y1 x2 x3 x4 m_facts0 m_pile1 m_state2 q hf hk0
    rw [f_R_least_L35] at hf
    refine AW.run hZ hRm [47, 100] 400 ?_
    show ((((R_lotsMany v0) ≤ x4) → AW Z 0 0 100 [some (.ref 0), some (.int y1), some (.int x2), some (.int x3), some (.int x4), none] [] ([kR 0 (R_s_facts_pile_state v0 m_facts0 m_pile1 m_state2)] : List (List zE)).flatten) ∧ (¬ ((R_lotsMany v0) ≤ x4) → AW Z 0 0 47 [some (.ref 0), some (.int y1), some (.int x2), some (.int x3), some (.int x4), none] [.int x4, .ref 0] ([kR 0 (R_s_facts_pile_state v0 m_facts0 m_pile1 m_state2)] : List (List zE)).flatten))
    refine ⟨fun c3 => ?_, fun c3 => ?_⟩
    · rw [if_pos c3] at hf
      cases hf
      refine AW.forget [true, true, true, true, false, false] ?_
      show AW Z 0 0 100 [some (.ref 0), some (.int y1), some (.int x2), some (.int x3), none, none] [] ([kR 0 (R_s_facts_pile_state v0 m_facts0 m_pile1 m_state2)] : List (List zE)).flatten
      exact hk0
    · rw [if_neg c3] at hf
      obtain ⟨q4, h13, hf⟩ := zbind hf
      refine AW.callVc hZ hR hN (c_R_weekBy N (R_s_facts_pile_state v0 m_facts0 m_pile1 m_state2) x4 q4 h13) zMX12_weekBy_ok rfl rfl zK_BorrowedLivesModel_415 zV_X12_weekBy rfl [25] [0] [0, 1, 2, 3, 4, 5, 6, 7, 8, 9, 10, 11, 12, 13, 14, 15, 16, 17, 18, 19, 20, 21, 22, 23, 24] rfl rfl rfl (by decide) (by decide) (by omega) (by decide) (Nat.zero_le _) (Nat.zero_le _) rfl rfl rfl rfl rfl ?_
      rintro v cc ⟨rfl, rfl⟩
      refine ⟨_, rfl, rfl, ?_⟩
      show AW Z 0 0 50 [some (.ref 0), some (.int y1), some (.int x2), some (.int x3), some (.int x4), none] [] ([kR 0 (R_s_facts_pile_state v0 q4.1 q4.2.1 q4.2.2)] : List (List zE)).flatten
      refine AW.run hZ hRm [55] 400 ?_
      show AW Z 0 0 55 [some (.ref 0), some (.int y1), some (.int x2), some (.int x3), some (.int x4), none] [.int 0, .int 1584, .ref 0] ([kR 0 (R_s_facts_pile_state v0 q4.1 q4.2.1 q4.2.2)] : List (List zE)).flatten
      obtain ⟨q5, h12, hf⟩ := zbind hf
      refine AW.callVc hZ hR hN (c_R_allHarm N (R_s_facts_pile_state v0 q4.1 q4.2.1 q4.2.2) 1584 0 q5 h12) zMX12_allHarm_ok rfl rfl zK_BorrowedLivesModel_352 zV_X12_allHarm rfl [25] [0] [0, 1, 2, 3, 4, 5, 6, 7, 8, 9, 10, 11, 12, 13, 14, 15, 16, 17, 18, 19, 20, 21, 22, 23, 24] rfl rfl rfl (by decide) (by decide) (by omega) (by decide) (Nat.zero_le _) (Nat.zero_le _) rfl rfl rfl rfl rfl ?_
      rintro v cc ⟨rfl, rfl⟩
      refine ⟨_, rfl, rfl, ?_⟩
      show AW Z 0 0 58 [some (.ref 0), some (.int y1), some (.int x2), some (.int x3), some (.int x4), none] [.int q5] ([kR 0 (R_s_facts_pile_state v0 q4.1 q4.2.1 q4.2.2)] : List (List zE)).flatten
      refine AW.run hZ hRm [61] 400 ?_
      show AW Z 0 0 61 [some (.ref 0), some (.int y1), some (.int x2), some (.int x3), some (.int x4), some (.int q5)] [.int x3] ([kR 0 (R_s_facts_pile_state v0 q4.1 q4.2.1 q4.2.2)] : List (List zE)).flatten
      suffices H6 : AW Z 0 0 76 [some (.ref 0), some (.int y1), none, some (.int x3), some (.int x4), some (.int q5)] [.int (if (x3 < 0) then x4 else (if (x3 ≤ q5) then x2 else x4))] ([kR 0 (R_s_facts_pile_state v0 q4.1 q4.2.1 q4.2.2)] : List (List zE)).flatten from by
        refine AW.run hZ hRm [76] 400 ?_
        show (((x3 < 0) → AW Z 0 0 76 [some (.ref 0), some (.int y1), some (.int x2), some (.int x3), some (.int x4), some (.int q5)] [.int x4] ([kR 0 (R_s_facts_pile_state v0 q4.1 q4.2.1 q4.2.2)] : List (List zE)).flatten) ∧ (¬ (x3 < 0) → (((x3 ≤ q5) → AW Z 0 0 76 [some (.ref 0), some (.int y1), some (.int x2), some (.int x3), some (.int x4), some (.int q5)] [.int x2] ([kR 0 (R_s_facts_pile_state v0 q4.1 q4.2.1 q4.2.2)] : List (List zE)).flatten) ∧ (¬ (x3 ≤ q5) → AW Z 0 0 76 [some (.ref 0), some (.int y1), some (.int x2), some (.int x3), some (.int x4), some (.int q5)] [.int x4] ([kR 0 (R_s_facts_pile_state v0 q4.1 q4.2.1 q4.2.2)] : List (List zE)).flatten))))
        refine ⟨fun c7 => ?_, fun c7 => ?_⟩
        · refine AW.forget [true, true, false, true, true, true] ?_
          show AW Z 0 0 76 [some (.ref 0), some (.int y1), none, some (.int x3), some (.int x4), some (.int q5)] [.int x4] ([kR 0 (R_s_facts_pile_state v0 q4.1 q4.2.1 q4.2.2)] : List (List zE)).flatten
          simpa only [if_pos c7] using H6
        · refine ⟨fun c8 => ?_, fun c8 => ?_⟩
          · refine AW.forget [true, true, false, true, true, true] ?_
            show AW Z 0 0 76 [some (.ref 0), some (.int y1), none, some (.int x3), some (.int x4), some (.int q5)] [.int x2] ([kR 0 (R_s_facts_pile_state v0 q4.1 q4.2.1 q4.2.2)] : List (List zE)).flatten
            simpa only [if_neg c7, if_pos c8] using H6
          · refine AW.forget [true, true, false, true, true, true] ?_
            show AW Z 0 0 76 [some (.ref 0), some (.int y1), none, some (.int x3), some (.int x4), some (.int q5)] [.int x4] ([kR 0 (R_s_facts_pile_state v0 q4.1 q4.2.1 q4.2.2)] : List (List zE)).flatten
            simpa only [if_neg c7, if_neg c8] using H6
      refine AW.run hZ hRm [78] 400 ?_
      show AW Z 0 0 78 [some (.ref 0), some (.int y1), some (.int (if (x3 < 0) then x4 else (if (x3 ≤ q5) then x2 else x4))), some (.int x3), some (.int x4), some (.int q5)] [.int x3] ([kR 0 (R_s_facts_pile_state v0 q4.1 q4.2.1 q4.2.2)] : List (List zE)).flatten
      suffices H9 : AW Z 0 0 93 [some (.ref 0), some (.int y1), some (.int (if (x3 < 0) then x4 else (if (x3 ≤ q5) then x2 else x4))), none, some (.int x4), none] [.int (if (x3 < 0) then q5 else (if (x3 ≤ q5) then x3 else q5))] ([kR 0 (R_s_facts_pile_state v0 q4.1 q4.2.1 q4.2.2)] : List (List zE)).flatten from by
        refine AW.run hZ hRm [93] 400 ?_
        show (((x3 < 0) → AW Z 0 0 93 [some (.ref 0), some (.int y1), some (.int (if (x3 < 0) then x4 else (if (x3 ≤ q5) then x2 else x4))), some (.int x3), some (.int x4), some (.int q5)] [.int q5] ([kR 0 (R_s_facts_pile_state v0 q4.1 q4.2.1 q4.2.2)] : List (List zE)).flatten) ∧ (¬ (x3 < 0) → (((x3 ≤ q5) → AW Z 0 0 93 [some (.ref 0), some (.int y1), some (.int (if (x3 < 0) then x4 else (if (x3 ≤ q5) then x2 else x4))), some (.int x3), some (.int x4), some (.int q5)] [.int x3] ([kR 0 (R_s_facts_pile_state v0 q4.1 q4.2.1 q4.2.2)] : List (List zE)).flatten) ∧ (¬ (x3 ≤ q5) → AW Z 0 0 93 [some (.ref 0), some (.int y1), some (.int (if (x3 < 0) then x4 else (if (x3 ≤ q5) then x2 else x4))), some (.int x3), some (.int x4), some (.int q5)] [.int q5] ([kR 0 (R_s_facts_pile_state v0 q4.1 q4.2.1 q4.2.2)] : List (List zE)).flatten))))
        refine ⟨fun c10 => ?_, fun c10 => ?_⟩
        · refine AW.forget [true, true, true, false, true, false] ?_
          show AW Z 0 0 93 [some (.ref 0), some (.int y1), some (.int (if (x3 < 0) then x4 else (if (x3 ≤ q5) then x2 else x4))), none, some (.int x4), none] [.int q5] ([kR 0 (R_s_facts_pile_state v0 q4.1 q4.2.1 q4.2.2)] : List (List zE)).flatten
          simpa only [if_pos c10] using H9
        · refine ⟨fun c11 => ?_, fun c11 => ?_⟩
          · refine AW.forget [true, true, true, false, true, false] ?_
            show AW Z 0 0 93 [some (.ref 0), some (.int y1), some (.int (if (x3 < 0) then x4 else (if (x3 ≤ q5) then x2 else x4))), none, some (.int x4), none] [.int x3] ([kR 0 (R_s_facts_pile_state v0 q4.1 q4.2.1 q4.2.2)] : List (List zE)).flatten
            simpa only [if_neg c10, if_pos c11] using H9
          · refine AW.forget [true, true, true, false, true, false] ?_
            show AW Z 0 0 93 [some (.ref 0), some (.int y1), some (.int (if (x3 < 0) then x4 else (if (x3 ≤ q5) then x2 else x4))), none, some (.int x4), none] [.int q5] ([kR 0 (R_s_facts_pile_state v0 q4.1 q4.2.1 q4.2.2)] : List (List zE)).flatten
            simpa only [if_neg c10, if_neg c11] using H9
      refine AW.run hZ hRm [35] 400 ?_
      show AW Z 0 0 35 [some (.ref 0), some (.int y1), some (.int (if (x3 < 0) then x4 else (if (x3 ≤ q5) then x2 else x4))), some (.int (if (x3 < 0) then q5 else (if (x3 ≤ q5) then x3 else q5))), some (.int (x4 + 1)), none] [] ([kR 0 (R_s_facts_pile_state v0 q4.1 q4.2.1 q4.2.2)] : List (List zE)).flatten
      exact ih v0 y1 (if (x3 < 0) then x4 else (if (x3 ≤ q5) then x2 else x4)) (if (x3 < 0) then q5 else (if (x3 ≤ q5) then x3 else q5)) (x4 + 1) q4.1 q4.2.1 q4.2.2 q hf hk0
set_option maxRecDepth 20000 in
set_option maxHeartbeats 4000000 in
theorem c_R_least (N : Nat) (v0 : VR) (a1 : Int32) (R : Int32 × Int32 × (Nat → Int32) × (Nat → Int32) × (Nat → Int32)) (hf : f_R_least N v0 a1 = some R) : Ct zMX12_least 6 0 0 0 [.ref 0, .int a1] ([kR 0 v0] : List (List zE)).flatten (fun v cc => v = some (.int R.1) ∧ cc = ([kR 0 (R_s_thrown_facts_pile_state v0 R.2.1 R.2.2.1 R.2.2.2.1 R.2.2.2.2)] : List (List zE)).flatten) := by
  refine Ct.of zMX12_least_ok (by decide) (Nat.le_of_ble_eq_true rfl) ?_
  intro Z hZ hR hN hE
  have hRm : zRoom Z 0 0 := zRoom0 Z
  unfold f_R_least at hf
  show AW Z 0 0 0 [some (.ref 0), some (.int a1), none, none, none, none] [] ([kR 0 v0] : List (List zE)).flatten
  refine AW.run hZ hRm [12, 27, 35] 400 ?_
  show (((a1 = (-1)) → ((¬ ((R_lotsMany v0) = 0) → AW Z 0 0 35 [some (.ref 0), some (.int a1), some (.int 0), some (.int (-1)), some (.int 0), none] [] ([kR 0 (R_thrown_s v0 0)] : List (List zE)).flatten) ∧ (((R_lotsMany v0) = 0) → AW Z 0 0 27 [some (.ref 0), some (.int a1), none, none, none, none] [.int (-2)] ([kR 0 (R_thrown_s v0 0)] : List (List zE)).flatten))) ∧ (¬ (a1 = (-1)) → AW Z 0 0 12 [some (.ref 0), some (.int a1), none, none, none, none] [.int a1, .ref 0] ([kR 0 (R_thrown_s v0 0)] : List (List zE)).flatten))
  refine ⟨fun c1 => ?_, fun c1 => ?_⟩
  · rw [if_pos c1] at hf
    refine ⟨fun c2 => ?_, fun c2 => ?_⟩
    · rw [if_neg c2] at hf
      obtain ⟨q14, h15, hf⟩ := zbind hf
      refine c_R_least_L35 hZ hR (by omega) hN hRm N N (R_thrown_s v0 0) a1 0 (-1) 0 (R_facts v0) (R_pile v0) (R_state v0) q14 h15 ?_
      show AW Z 0 0 100 [some (.ref 0), some (.int a1), some (.int q14.1), some (.int q14.2.1), none, none] [] ([kR 0 (R_s_thrown_facts_pile_state v0 0 q14.2.2.1 q14.2.2.2.1 q14.2.2.2.2)] : List (List zE)).flatten
      refine AW.run hZ hRm [111, 114] 400 ?_
      show (((0 ≤ a1) → AW Z 0 0 111 [some (.ref 0), some (.int a1), some (.int q14.1), some (.int q14.2.1), none, none] [.int a1, .int q14.1, .ref 0] ([kR 0 (R_s_thrown_facts_pile_state v0 0 q14.2.2.1 q14.2.2.2.1 q14.2.2.2.2)] : List (List zE)).flatten) ∧ (¬ (0 ≤ a1) → AW Z 0 0 114 [some (.ref 0), some (.int a1), some (.int q14.1), some (.int q14.2.1), none, none] [.int q14.2.1] ([kR 0 (R_s_thrown_facts_pile_state v0 0 q14.2.2.1 q14.2.2.2.1 q14.2.2.2.2)] : List (List zE)).flatten))
      refine ⟨fun c16 => ?_, fun c16 => ?_⟩
      · rw [if_pos c16] at hf
        obtain ⟨q17, h18, hf⟩ := zbind hf
        refine AW.callVc hZ hR hN (c_R_selfOf N (R_s_thrown_facts_pile_state v0 0 q14.2.2.1 q14.2.2.2.1 q14.2.2.2.2) q14.1 a1 q17 h18) zMX12_selfOf_ok rfl rfl zK_BorrowedLivesModel_346 zV_X12_selfOf rfl [25] [0] [0, 1, 2, 3, 4, 5, 6, 7, 8, 9, 10, 11, 12, 13, 14, 15, 16, 17, 18, 19, 20, 21, 22, 23, 24] rfl rfl rfl (by decide) (by decide) (by omega) (by decide) (Nat.zero_le _) (Nat.zero_le _) rfl rfl rfl rfl rfl ?_
        rintro v cc ⟨rfl, rfl⟩
        refine ⟨_, rfl, rfl, ?_⟩
        show AW Z 0 0 114 [some (.ref 0), some (.int a1), some (.int q14.1), some (.int q14.2.1), none, none] [.int q17] ([kR 0 (R_s_thrown_facts_pile_state v0 0 q14.2.2.1 q14.2.2.2.1 q14.2.2.2.2)] : List (List zE)).flatten
        cases hf
        exact AW.iret hZ hE rfl rfl rfl rfl (Nat.le_refl 0) (Nat.le_refl 0) rfl ⟨rfl, rfl⟩
      · rw [if_neg c16] at hf
        cases hf
        exact AW.iret hZ hE rfl rfl rfl rfl (Nat.le_refl 0) (Nat.le_refl 0) rfl ⟨rfl, rfl⟩
    · rw [if_pos c2] at hf
      cases hf
      exact AW.iret hZ hE rfl rfl rfl rfl (Nat.le_refl 0) (Nat.le_refl 0) rfl ⟨rfl, rfl⟩
  · rw [if_neg c1] at hf
    obtain ⟨q19, h27, hf⟩ := zbind hf
    refine AW.callVc hZ hR hN (c_R_isPerson N (R_thrown_s v0 0) a1 q19 h27) zMX12_isPerson_ok rfl rfl zK_BorrowedLivesModel_356 zV_X12_isPerson rfl [25] [0] [0, 1, 2, 3, 4, 5, 6, 7, 8, 9, 10, 11, 12, 13, 14, 15, 16, 17, 18, 19, 20, 21, 22, 23, 24] rfl rfl rfl (by decide) (by decide) (by omega) (by decide) (Nat.zero_le _) (Nat.zero_le _) rfl rfl rfl rfl rfl ?_
    rintro v cc ⟨rfl, rfl⟩
    refine ⟨_, rfl, rfl, ?_⟩
    show AW Z 0 0 15 [some (.ref 0), some (.int a1), none, none, none, none] [.int q19] ([kR 0 (R_thrown_s v0 0)] : List (List zE)).flatten
    refine AW.run hZ hRm [27, 35] 400 ?_
    show (((q19 = 0) → AW Z 0 0 27 [some (.ref 0), some (.int a1), none, none, none, none] [.int (-2)] ([kR 0 (R_thrown_s v0 0)] : List (List zE)).flatten) ∧ (¬ (q19 = 0) → ((¬ ((R_lotsMany v0) = 0) → AW Z 0 0 35 [some (.ref 0), some (.int a1), some (.int 0), some (.int (-1)), some (.int 0), none] [] ([kR 0 (R_thrown_s v0 0)] : List (List zE)).flatten) ∧ (((R_lotsMany v0) = 0) → AW Z 0 0 27 [some (.ref 0), some (.int a1), none, none, none, none] [.int (-2)] ([kR 0 (R_thrown_s v0 0)] : List (List zE)).flatten))))
    refine ⟨fun c20 => ?_, fun c20 => ?_⟩
    · rw [if_pos c20] at hf
      cases hf
      exact AW.iret hZ hE rfl rfl rfl rfl (Nat.le_refl 0) (Nat.le_refl 0) rfl ⟨rfl, rfl⟩
    · rw [if_neg c20] at hf
      refine ⟨fun c21 => ?_, fun c21 => ?_⟩
      · rw [if_neg c21] at hf
        obtain ⟨q22, h23, hf⟩ := zbind hf
        refine c_R_least_L35 hZ hR (by omega) hN hRm N N (R_thrown_s v0 0) a1 0 (-1) 0 (R_facts v0) (R_pile v0) (R_state v0) q22 h23 ?_
        show AW Z 0 0 100 [some (.ref 0), some (.int a1), some (.int q22.1), some (.int q22.2.1), none, none] [] ([kR 0 (R_s_thrown_facts_pile_state v0 0 q22.2.2.1 q22.2.2.2.1 q22.2.2.2.2)] : List (List zE)).flatten
        refine AW.run hZ hRm [111, 114] 400 ?_
        show (((0 ≤ a1) → AW Z 0 0 111 [some (.ref 0), some (.int a1), some (.int q22.1), some (.int q22.2.1), none, none] [.int a1, .int q22.1, .ref 0] ([kR 0 (R_s_thrown_facts_pile_state v0 0 q22.2.2.1 q22.2.2.2.1 q22.2.2.2.2)] : List (List zE)).flatten) ∧ (¬ (0 ≤ a1) → AW Z 0 0 114 [some (.ref 0), some (.int a1), some (.int q22.1), some (.int q22.2.1), none, none] [.int q22.2.1] ([kR 0 (R_s_thrown_facts_pile_state v0 0 q22.2.2.1 q22.2.2.2.1 q22.2.2.2.2)] : List (List zE)).flatten))
        refine ⟨fun c24 => ?_, fun c24 => ?_⟩
        · rw [if_pos c24] at hf
          obtain ⟨q25, h26, hf⟩ := zbind hf
          refine AW.callVc hZ hR hN (c_R_selfOf N (R_s_thrown_facts_pile_state v0 0 q22.2.2.1 q22.2.2.2.1 q22.2.2.2.2) q22.1 a1 q25 h26) zMX12_selfOf_ok rfl rfl zK_BorrowedLivesModel_346 zV_X12_selfOf rfl [25] [0] [0, 1, 2, 3, 4, 5, 6, 7, 8, 9, 10, 11, 12, 13, 14, 15, 16, 17, 18, 19, 20, 21, 22, 23, 24] rfl rfl rfl (by decide) (by decide) (by omega) (by decide) (Nat.zero_le _) (Nat.zero_le _) rfl rfl rfl rfl rfl ?_
          rintro v cc ⟨rfl, rfl⟩
          refine ⟨_, rfl, rfl, ?_⟩
          show AW Z 0 0 114 [some (.ref 0), some (.int a1), some (.int q22.1), some (.int q22.2.1), none, none] [.int q25] ([kR 0 (R_s_thrown_facts_pile_state v0 0 q22.2.2.1 q22.2.2.2.1 q22.2.2.2.2)] : List (List zE)).flatten
          cases hf
          exact AW.iret hZ hE rfl rfl rfl rfl (Nat.le_refl 0) (Nat.le_refl 0) rfl ⟨rfl, rfl⟩
        · rw [if_neg c24] at hf
          cases hf
          exact AW.iret hZ hE rfl rfl rfl rfl (Nat.le_refl 0) (Nat.le_refl 0) rfl ⟨rfl, rfl⟩
      · rw [if_pos c21] at hf
        cases hf
        exact AW.iret hZ hE rfl rfl rfl rfl (Nat.le_refl 0) (Nat.le_refl 0) rfl ⟨rfl, rfl⟩
