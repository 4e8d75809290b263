def f_R_years_L165 (N : Nat) : Nat → VR → Int32 → Int32 → Int32 → Int32 → Int32 → Int32 → (Nat → Int32) → Option ((Nat → Int32))
  | 0, _, _, _, _, _, _, _, _ => none
  | fuel + 1, v0, y2, y3, y4, y5, y6, x7, m_state0 => ((f_R_people N (R_state_s v0 m_state0)).bind (fun q12 => (if (q12 ≤ x7) then (some m_state0) else (if ((1606 + x7) < 0 ∨ 1656 ≤ Int32.toNatClampNeg (1606 + x7)) then none else (zlet ((upd m_state0 (Int32.toNatClampNeg (1606 + x7)) 0) : (Nat → Int32)) (fun z14 => (f_R_years_L165 N fuel v0 y2 y3 y4 y5 y6 (x7 + 1) z14)))))))
def f_R_years_L117 (N : Nat) : Nat → VR → Int32 → Int32 → Int32 → Int32 → Int32 → Int32 → (Nat → Int32) → (Nat → Int32) → (Nat → Int32) → Option ((Nat → Int32) × (Nat → Int32) × (Nat → Int32))
  | 0, _, _, _, _, _, _, _, _, _, _ => none
  | fuel + 1, v0, y2, y3, y4, y5, y6, x7, m_facts0, m_pile1, m_state2 => (if (7 ≤ x7) then (some (m_facts0, m_pile1, m_state2)) else ((f_R_passes N (R_s_facts_pile_state v0 m_facts0 m_pile1 m_state2) 1584).bind (fun q22 => (f_R_years_L117 N fuel v0 y2 y3 y4 y5 y6 (x7 + 1) q22.1 q22.2.1 q22.2.2))))
def f_R_years_L82 (N : Nat) : Nat → VR → Int32 → Int32 → Int32 → Int32 → Int32 → (Nat → Int32) → (Nat → Int32) → (Nat → Int32) → Int64 → Option (Int32 × Int32 × (Nat → Int32) × (Nat → Int32) × (Nat → Int32) × Int64)
  | 0, _, _, _, _, _, _, _, _, _, _ => none
  | fuel + 1, v0, y2, y3, x4, x5, x6, m_facts0, m_pile1, m_state2, m_g3 => (if (y2 ≤ x6) then (some (x4, x5, m_facts0, m_pile1, m_state2, m_g3)) else ((f_R_hidesByDraw N (R_s_facts_pile_state_g v0 m_facts0 m_pile1 m_state2 m_g3)).bind (fun q10 => (if ((R_lotsMany v0) ≤ 0) then ((f_R_years_L165 N N (R_s_facts_pile_state_g v0 m_facts0 m_pile1 q10.1 q10.2) y2 y3 x4 x5 x6 0 q10.1).bind (fun q17 => (f_R_years_L82 N fuel v0 y2 y3 x4 x5 (x6 + 1) m_facts0 m_pile1 q17 q10.2))) else ((f_R_draw N (R_s_facts_pile_state_g v0 m_facts0 m_pile1 q10.1 q10.2) (R_lotsMany v0)).bind (fun q19 => ((f_R_leaves N (R_s_facts_pile_state_g v0 m_facts0 m_pile1 q10.1 q19.2) 1584 q19.1).bind (fun q20 => ((f_R_years_L117 N N (R_s_facts_pile_state_g v0 m_facts0 m_pile1 q20 q19.2) y2 y3 x4 x5 x6 0 m_facts0 m_pile1 q20).bind (fun q24 => ((f_R_allHarm N (R_s_facts_pile_state_g v0 q24.1 q24.2.1 q24.2.2 q19.2) 1584 1).bind (fun q26 => ((f_R_goesHome N (R_s_facts_pile_state_g v0 q24.1 q24.2.1 q24.2.2 q19.2) 1584).bind (fun q27 => ((f_R_years_L165 N N (R_s_facts_pile_state_g v0 q24.1 q24.2.1 q27.2 q19.2) y2 y3 (x4 + q27.1) (x5 + q26) x6 0 q27.2).bind (fun q28 => (f_R_years_L82 N fuel v0 y2 y3 (x4 + q27.1) (x5 + q26) (x6 + 1) q24.1 q24.2.1 q28 q19.2)))))))))))))))))
def f_R_years (N : Nat) (v0 : VR) (a1 : Int32) (a2 : Int32) (a3 : Int32) : Option (Int32 × Int32 × (Nat → Int32) × (Nat → Int32) × (Nat → Int32) × Int64) := ((f_R_within N a1 0 9999).bind (fun q1 => (if (q1 = 0) then (some ((-1), 0, (R_facts v0), (R_pile v0), (R_state v0), (R_g v0))) else ((f_R_within N a2 1 20).bind (fun q3 => (if (q3 = 0) then (some ((-1), 0, (R_facts v0), (R_pile v0), (R_state v0), (R_g v0))) else ((f_R_within N a3 0 2).bind (fun q5 => (if (q5 = 0) then (some ((-1), 0, (R_facts v0), (R_pile v0), (R_state v0), (R_g v0))) else ((f_R_copies N (R_thrown_s v0 0) 0 1584 46).bind (fun q7 => (if ((q7 (Int32.toNatClampNeg 1584)) = 1) then ((f_R_goesHome N (R_s_thrown_state v0 0 q7) 1584).bind (fun q41 => ((f_R_years_L82 N N (R_s_thrown_state_g v0 0 q41.2 (Int32.toInt64 a1)) a2 a3 0 0 0 (R_facts v0) (R_pile v0) q41.2 (Int32.toInt64 a1)).bind (fun q42 => (if (a3 = 0) then (some (q42.1, 0, q42.2.2.1, q42.2.2.2.1, q42.2.2.2.2.1, q42.2.2.2.2.2)) else (if (a3 = 1) then (some (q42.2.1, 0, q42.2.2.1, q42.2.2.2.1, q42.2.2.2.2.1, q42.2.2.2.2.2)) else ((f_R_pursesOf N (R_s_thrown_facts_pile_state_g v0 0 q42.2.2.1 q42.2.2.2.1 q42.2.2.2.2.1 q42.2.2.2.2.2) 1584).bind (fun q46 => (some (q46, 0, q42.2.2.1, q42.2.2.2.1, q42.2.2.2.2.1, q42.2.2.2.2.2)))))))))) else ((f_R_years_L82 N N (R_s_thrown_state_g v0 0 q7 (Int32.toInt64 a1)) a2 a3 0 0 0 (R_facts v0) (R_pile v0) q7 (Int32.toInt64 a1)).bind (fun q35 => (if (a3 = 0) then (some (q35.1, 0, q35.2.2.1, q35.2.2.2.1, q35.2.2.2.2.1, q35.2.2.2.2.2)) else (if (a3 = 1) then (some (q35.2.1, 0, q35.2.2.1, q35.2.2.2.1, q35.2.2.2.2.1, q35.2.2.2.2.2)) else ((f_R_pursesOf N (R_s_thrown_facts_pile_state_g v0 0 q35.2.2.1 q35.2.2.2.1 q35.2.2.2.2.1 q35.2.2.2.2.2) 1584).bind (fun q39 => (some (q39, 0, q35.2.2.1, q35.2.2.2.1, q35.2.2.2.2.1, q35.2.2.2.2.2))))))))))))))))))))
set_option maxRecDepth 20000 in
set_option maxHeartbeats 4000000 in
theorem c_R_years_L165 {Z : zCtx} {D n0w nf mcw msw : Nat} (hZ : zOk Z zMX12_years) (hR : zCan Z D mcw msw) (hDd : 5 ≤ D) (hN : zNew Z n0w nf) (hRm : zRoom Z 0 0) (N : Nat) : ∀ (fuel : Nat) (v0 : VR) (y2 : Int32) (y3 : Int32) (y4 : Int32) (y5 : Int32) (y6 : Int32) (x7 : Int32) (m_state0 : (Nat → Int32)) (q : ((Nat → Int32))), f_R_years_L165 N fuel v0 y2 y3 y4 y5 y6 x7 m_state0 = some q → (AW Z 0 0 192 [some (.ref 0), none, some (.int y2), some (.int y3), some (.int y4), some (.int y5), some (.int y6), none] [] ([kR 0 (R_state_s v0 q)] : List (List zE)).flatten) → AW Z 0 0 165 [some (.ref 0), none, some (.int y2), some (.int y3), some (.int y4), some (.int y5), some (.int y6), some (.int x7)] [] ([kR 0 (R_state_s v0 m_state0)] : List (List zE)).flatten := by
  intro fuel
  induction fuel with
  | zero =>
    intro v0 y2 y3 y4 y5 y6 x7 m_state0 q hf hk0
    simp [f_R_years_L165] at hf
  | succ fuel ih =>
    intro v0 y2 y3 y4 y5 y6 x7 m_state0 q hf hk0
    rw [f_R_years_L165] at hf
    refine AW.run hZ hRm [168] 400 ?_
    show AW Z 0 0 168 [some (.ref 0), none, some (.int y2), some (.int y3), some (.int y4), some (.int y5), some (.int y6), some (.int x7)] [.ref 0, .int x7] ([kR 0 (R_state_s v0 m_state0)] : List (List zE)).flatten
    obtain ⟨q12, h16, hf⟩ := zbind hf
    refine AW.callVc hZ hR hN (c_R_people N (R_state_s v0 m_state0) q12 h16) zMX12_people_ok rfl rfl zK_BorrowedLivesModel_291 zV_X12_people rfl [25] [0] [0, 1, 2, 3, 4, 5, 6, 7, 8, 9, 10, 11, 12, 13, 14, 15, 16, 17, 18, 19, 20, 21, 22, 23, 24] rfl rfl rfl (by decide) (by decide) (by omega) (by decide) (Nat.zero_le _) (Nat.zero_le _) rfl rfl rfl rfl rfl ?_
    rintro v cc ⟨rfl, rfl⟩
    refine ⟨_, rfl, rfl, ?_⟩
    show AW Z 0 0 171 [some (.ref 0), none, some (.int y2), some (.int y3), some (.int y4), some (.int y5), some (.int y6), some (.int x7)] [.int q12, .int x7] ([kR 0 (R_state_s v0 m_state0)] : List (List zE)).flatten
    refine AW.run hZ hRm [186, 192] 400 ?_
    show (((q12 ≤ x7) → AW Z 0 0 192 [some (.ref 0), none, some (.int y2), some (.int y3), some (.int y4), some (.int y5), some (.int y6), some (.int x7)] [] ([kR 0 (R_state_s v0 m_state0)] : List (List zE)).flatten) ∧ (¬ (q12 ≤ x7) → (¬ ((1606 + x7) < 0 ∨ 1656 ≤ Int32.toNatClampNeg (1606 + x7)) ∧ AW Z 0 0 186 [some (.ref 0), none, some (.int y2), some (.int y3), some (.int y4), some (.int y5), some (.int y6), some (.int x7)] [] ([kR 0 (R_state_s v0 (upd m_state0 (Int32.toNatClampNeg (1606 + x7)) 0))] : List (List zE)).flatten)))
    refine ⟨fun c13 => ?_, fun c13 => ?_⟩
    · rw [if_pos c13] at hf
      cases hf
      refine AW.forget [true, false, true, true, true, true, true, false] ?_
      show AW Z 0 0 192 [some (.ref 0), none, some (.int y2), some (.int y3), some (.int y4), some (.int y5), some (.int y6), none] [] ([kR 0 (R_state_s v0 m_state0)] : List (List zE)).flatten
      exact hk0
    · rw [if_neg c13] at hf
      obtain ⟨b15, hf⟩ := zneed hf
      refine ⟨b15, ?_⟩
      replace hf := zlet_gen hf
      generalize ((upd m_state0 (Int32.toNatClampNeg (1606 + x7)) 0) : (Nat → Int32)) = z14 at hf ⊢
      as_aux_lemma =>
        refine AW.run hZ hRm [165] 400 ?_
        show AW Z 0 0 165 [some (.ref 0), none, some (.int y2), some (.int y3), some (.int y4), some (.int y5), some (.int y6), some (.int (x7 + 1))] [] ([kR 0 (R_state_s v0 z14)] : List (List zE)).flatten
        exact ih v0 y2 y3 y4 y5 y6 (x7 + 1) z14 q hf hk0
set_option maxRecDepth 20000 in
set_option maxHeartbeats 4000000 in
theorem c_R_years_L117 {Z : zCtx} {D n0w nf mcw msw : Nat} (hZ : zOk Z zMX12_years) (hR : zCan Z D mcw msw) (hDd : 5 ≤ D) (hN : zNew Z n0w nf) (hRm : zRoom Z 0 0) (N : Nat) : ∀ (fuel : Nat) (v0 : VR) (y2 : Int32) (y3 : Int32) (y4 : Int32) (y5 : Int32) (y6 : Int32) (x7 : Int32) (m_facts0 : (Nat → Int32)) (m_pile1 : (Nat → Int32)) (m_state2 : (Nat → Int32)) (q : ((Nat → Int32) × (Nat → Int32) × (Nat → Int32))), f_R_years_L117 N fuel v0 y2 y3 y4 y5 y6 x7 m_facts0 m_pile1 m_state2 = some q → (AW Z 0 0 137 [some (.ref 0), none, some (.int y2), some (.int y3), some (.int y4), some (.int y5), some (.int y6), none] [] ([kR 0 (R_s_facts_pile_state v0 q.1 q.2.1 q.2.2)] : List (List zE)).flatten) → AW Z 0 0 117 [some (.ref 0), none, some (.int y2), some (.int y3), some (.int y4), some (.int y5), some (.int y6), some (.int x7)] [] ([kR 0 (R_s_facts_pile_state v0 m_facts0 m_pile1 m_state2)] : List (List zE)).flatten := by
  intro fuel
  induction fuel with
  | zero =>
    intro v0 y2 y3 y4 y5 y6 x7 m_facts0 m_pile1 m_state2 q hf hk0
    simp [f_R_years_L117] at hf
  | succ fuel ih =>
    intro v0 y2 y3 y4 y5 y6 x7 m_facts0 m_pile1 m_state2 q hf hk0
    rw [f_R_years_L117] at hf
    refine AW.run hZ hRm [128, 137] 400 ?_
    show (((7 ≤ x7) → AW Z 0 0 137 [some (.ref 0), none, some (.int y2), some (.int y3), some (.int y4), some (.int y5), some (.int y6), some (.int x7)] [] ([kR 0 (R_s_facts_pile_state v0 m_facts0 m_pile1 m_state2)] : List (List zE)).flatten) ∧ (¬ (7 ≤ x7) → AW Z 0 0 128 [some (.ref 0), none, some (.int y2), some (.int y3), some (.int y4), some (.int y5), some (.int y6), some (.int x7)] [.int 1584, .ref 0] ([kR 0 (R_s_facts_pile_state v0 m_facts0 m_pile1 m_state2)] : List (List zE)).flatten))
    refine ⟨fun c21 => ?_, fun c21 => ?_⟩
    · rw [if_pos c21] at hf
      cases hf
      refine AW.forget [true, false, true, true, true, true, true, false] ?_
      show AW Z 0 0 137 [some (.ref 0), none, some (.int y2), some (.int y3), some (.int y4), some (.int y5), some (.int y6), none] [] ([kR 0 (R_s_facts_pile_state v0 m_facts0 m_pile1 m_state2)] : List (List zE)).flatten
      exact hk0
    · rw [if_neg c21] at hf
      obtain ⟨q22, h23, hf⟩ := zbind hf
      refine AW.callVc hZ hR hN (c_R_passes N (R_s_facts_pile_state v0 m_facts0 m_pile1 m_state2) 1584 q22 h23) zMX12_passes_ok rfl rfl zK_BorrowedLivesModel_402 zV_X12_passes rfl [25] [0] [0, 1, 2, 3, 4, 5, 6, 7, 8, 9, 10, 11, 12, 13, 14, 15, 16, 17, 18, 19, 20, 21, 22, 23, 24] rfl rfl rfl (by decide) (by decide) (by omega) (by decide) (Nat.zero_le _) (Nat.zero_le _) rfl rfl rfl rfl rfl ?_
      rintro v cc ⟨rfl, rfl⟩
      refine ⟨_, rfl, rfl, ?_⟩
      show AW Z 0 0 131 [some (.ref 0), none, some (.int y2), some (.int y3), some (.int y4), some (.int y5), some (.int y6), some (.int x7)] [] ([kR 0 (R_s_facts_pile_state v0 q22.1 q22.2.1 q22.2.2)] : List (List zE)).flatten
      refine AW.run hZ hRm [117] 400 ?_
      show AW Z 0 0 117 [some (.ref 0), none, some (.int y2), some (.int y3), some (.int y4), some (.int y5), some (.int y6), some (.int (x7 + 1))] [] ([kR 0 (R_s_facts_pile_state v0 q22.1 q22.2.1 q22.2.2)] : List (List zE)).flatten
      exact ih v0 y2 y3 y4 y5 y6 (x7 + 1) q22.1 q22.2.1 q22.2.2 q hf hk0
set_option maxRecDepth 20000 in
set_option maxHeartbeats 4000000 in
theorem c_R_years_L82 {Z : zCtx} {D n0w nf mcw msw : Nat} (hZ : zOk Z zMX12_years) (hR : zCan Z D mcw msw) (hDd : 5 ≤ D) (hN : zNew Z n0w nf) (hRm : zRoom Z 0 0) (N : Nat) : ∀ (fuel : Nat) (v0 : VR) (y2 : Int32) (y3 : Int32) (x4 : Int32) (x5 : Int32) (x6 : Int32) (m_facts0 : (Nat → Int32)) (m_pile1 : (Nat → Int32)) (m_state2 : (Nat → Int32)) (m_g3 : Int64) (q : (Int32 × Int32 × (Nat → Int32) × (Nat → Int32) × (Nat → Int32) × Int64)), f_R_years_L82 N fuel v0 y2 y3 x4 x5 x6 m_facts0 m_pile1 m_state2 m_g3 = some q → (AW Z 0 0 198 [some (.ref 0), none, none, some (.int y3), some (.int q.1), some (.int q.2.1), none, none] [] ([kR 0 (R_s_facts_pile_state_g v0 q.2.2.1 q.2.2.2.1 q.2.2.2.2.1 q.2.2.2.2.2)] : List (List zE)).flatten) → AW Z 0 0 82 [some (.ref 0), none, some (.int y2), some (.int y3), some (.int x4), some (.int x5), some (.int x6), none] [] ([kR 0 (R_s_facts_pile_state_g v0 m_facts0 m_pile1 m_state2 m_g3)] : List (List zE)).flatten := by
  intro fuel
  induction fuel with
  | zero =>
    intro v0 y2 y3 x4 x5 x6 m_facts0 m_pile1 m_state2 m_g3 q hf hk0
    simp [f_R_years_L82] at hf
  | succ fuel ih =>
    intro v0 y2 y3 x4 x5 x6 m_facts0 m_pile1 m_state2 m_g3 q hf hk0
    rw [f_R_years_L82] at hf
    refine AW.run hZ hRm [89, 198] 400 ?_
    show (((y2 ≤ x6) → AW Z 0 0 198 [some (.ref 0), none, some (.int y2), some (.int y3), some (.int x4), some (.int x5), some (.int x6), none] [] ([kR 0 (R_s_facts_pile_state_g v0 m_facts0 m_pile1 m_state2 m_g3)] : List (List zE)).flatten) ∧ (¬ (y2 ≤ x6) → AW Z 0 0 89 [some (.ref 0), none, some (.int y2), some (.int y3), some (.int x4), some (.int x5), some (.int x6), none] [.ref 0] ([kR 0 (R_s_facts_pile_state_g v0 m_facts0 m_pile1 m_state2 m_g3)] : List (List zE)).flatten))
    refine ⟨fun c9 => ?_, fun c9 => ?_⟩
    · rw [if_pos c9] at hf
      cases hf
      refine AW.forget [true, false, false, true, true, true, false, false] ?_
      show AW Z 0 0 198 [some (.ref 0), none, none, some (.int y3), some (.int x4), some (.int x5), none, none] [] ([kR 0 (R_s_facts_pile_state_g v0 m_facts0 m_pile1 m_state2 m_g3)] : List (List zE)).flatten
      exact hk0
    · rw [if_neg c9] at hf
      obtain ⟨q10, h34, hf⟩ := zbind hf
      refine AW.callVc hZ hR hN (c_R_hidesByDraw N (R_s_facts_pile_state_g v0 m_facts0 m_pile1 m_state2 m_g3) q10 h34) zMX12_hidesByDraw_ok rfl rfl zK_BorrowedLivesModel_466 zV_X12_hidesByDraw rfl [25] [0] [0, 1, 2, 3, 4, 5, 6, 7, 8, 9, 10, 11, 12, 13, 14, 15, 16, 17, 18, 19, 20, 21, 22, 23, 24] rfl rfl rfl (by decide) (by decide) (by omega) (by decide) (Nat.zero_le _) (Nat.zero_le _) rfl rfl rfl rfl rfl ?_
      rintro v cc ⟨rfl, rfl⟩
      refine ⟨_, rfl, rfl, ?_⟩
      show AW Z 0 0 92 [some (.ref 0), none, some (.int y2), some (.int y3), some (.int x4), some (.int x5), some (.int x6), none] [] ([kR 0 (R_s_facts_pile_state_g v0 m_facts0 m_pile1 q10.1 q10.2)] : List (List zE)).flatten
      refine AW.run hZ hRm [108, 165] 400 ?_
      show ((((R_lotsMany v0) ≤ 0) → AW Z 0 0 165 [some (.ref 0), none, some (.int y2), some (.int y3), some (.int x4), some (.int x5), some (.int x6), some (.int 0)] [] ([kR 0 (R_s_facts_pile_state_g v0 m_facts0 m_pile1 q10.1 q10.2)] : List (List zE)).flatten) ∧ (¬ ((R_lotsMany v0) ≤ 0) → AW Z 0 0 108 [some (.ref 0), none, some (.int y2), some (.int y3), some (.int x4), some (.int x5), some (.int x6), none] [.int (R_lotsMany v0), .ref 0, .int 1584, .ref 0] ([kR 0 (R_s_facts_pile_state_g v0 m_facts0 m_pile1 q10.1 q10.2)] : List (List zE)).flatten))
      refine ⟨fun c11 => ?_, fun c11 => ?_⟩
      · rw [if_pos c11] at hf
        obtain ⟨q17, h18, hf⟩ := zbind hf
        refine c_R_years_L165 hZ hR (by omega) hN hRm N N (R_s_facts_pile_state_g v0 m_facts0 m_pile1 q10.1 q10.2) y2 y3 x4 x5 x6 0 q10.1 q17 h18 ?_
        show AW Z 0 0 192 [some (.ref 0), none, some (.int y2), some (.int y3), some (.int x4), some (.int x5), some (.int x6), none] [] ([kR 0 (R_s_facts_pile_state_g v0 m_facts0 m_pile1 q17 q10.2)] : List (List zE)).flatten
        refine AW.run hZ hRm [82] 400 ?_
        show AW Z 0 0 82 [some (.ref 0), none, some (.int y2), some (.int y3), some (.int x4), some (.int x5), some (.int (x6 + 1)), none] [] ([kR 0 (R_s_facts_pile_state_g v0 m_facts0 m_pile1 q17 q10.2)] : List (List zE)).flatten
        exact ih v0 y2 y3 x4 x5 (x6 + 1) m_facts0 m_pile1 q17 q10.2 q hf hk0
      · rw [if_neg c11] at hf
        obtain ⟨q19, h33, hf⟩ := zbind hf
        refine AW.callVc hZ hR hN (c_R_draw N (R_s_facts_pile_state_g v0 m_facts0 m_pile1 q10.1 q10.2) (R_lotsMany v0) q19 h33) zMX12_draw_ok rfl rfl zK_BorrowedLivesModel_384 zV_X12_draw rfl [25] [0] [0, 1, 2, 3, 4, 5, 6, 7, 8, 9, 10, 11, 12, 13, 14, 15, 16, 17, 18, 19, 20, 21, 22, 23, 24] rfl rfl rfl (by decide) (by decide) (by omega) (by decide) (Nat.zero_le _) (Nat.zero_le _) rfl rfl rfl rfl rfl ?_
        rintro v cc ⟨rfl, rfl⟩
        refine ⟨_, rfl, rfl, ?_⟩
        show AW Z 0 0 111 [some (.ref 0), none, some (.int y2), some (.int y3), some (.int x4), some (.int x5), some (.int x6), none] [.int q19.1, .int 1584, .ref 0] ([kR 0 (R_s_facts_pile_state_g v0 m_facts0 m_pile1 q10.1 q19.2)] : List (List zE)).flatten
        obtain ⟨q20, h32, hf⟩ := zbind hf
        refine AW.callVc hZ hR hN (c_R_leaves N (R_s_facts_pile_state_g v0 m_facts0 m_pile1 q10.1 q19.2) 1584 q19.1 q20 h32) zMX12_leaves_ok rfl rfl zK_BorrowedLivesModel_387 zV_X12_leaves rfl [25] [0] [0, 1, 2, 3, 4, 5, 6, 7, 8, 9, 10, 11, 12, 13, 14, 15, 16, 17, 18, 19, 20, 21, 22, 23, 24] rfl rfl rfl (by decide) (by decide) (by omega) (by decide) (Nat.zero_le _) (Nat.zero_le _) rfl rfl rfl rfl rfl ?_
        rintro v cc ⟨rfl, rfl⟩
        refine ⟨_, rfl, rfl, ?_⟩
        show AW Z 0 0 114 [some (.ref 0), none, some (.int y2), some (.int y3), some (.int x4), some (.int x5), some (.int x6), none] [] ([kR 0 (R_s_facts_pile_state_g v0 m_facts0 m_pile1 q20 q19.2)] : List (List zE)).flatten
        refine AW.run hZ hRm [117] 400 ?_
        show AW Z 0 0 117 [some (.ref 0), none, some (.int y2), some (.int y3), some (.int x4), some (.int x5), some (.int x6), some (.int 0)] [] ([kR 0 (R_s_facts_pile_state_g v0 m_facts0 m_pile1 q20 q19.2)] : List (List zE)).flatten
        obtain ⟨q24, h25, hf⟩ := zbind hf
        refine c_R_years_L117 hZ hR (by omega) hN hRm N N (R_s_facts_pile_state_g v0 m_facts0 m_pile1 q20 q19.2) y2 y3 x4 x5 x6 0 m_facts0 m_pile1 q20 q24 h25 ?_
        show AW Z 0 0 137 [some (.ref 0), none, some (.int y2), some (.int y3), some (.int x4), some (.int x5), some (.int x6), none] [] ([kR 0 (R_s_facts_pile_state_g v0 q24.1 q24.2.1 q24.2.2 q19.2)] : List (List zE)).flatten
        refine AW.run hZ hRm [144] 400 ?_
        show AW Z 0 0 144 [some (.ref 0), none, some (.int y2), some (.int y3), some (.int x4), some (.int x5), some (.int x6), none] [.int 1, .int 1584, .ref 0, .int x5] ([kR 0 (R_s_facts_pile_state_g v0 q24.1 q24.2.1 q24.2.2 q19.2)] : List (List zE)).flatten
        obtain ⟨q26, h31, hf⟩ := zbind hf
        refine AW.callVc hZ hR hN (c_R_allHarm N (R_s_facts_pile_state_g v0 q24.1 q24.2.1 q24.2.2 q19.2) 1584 1 q26 h31) zMX12_allHarm_ok rfl rfl zK_BorrowedLivesModel_352 zV_X12_allHarm rfl [25] [0] [0, 1, 2, 3, 4, 5, 6, 7, 8, 9, 10, 11, 12, 13, 14, 15, 16, 17, 18, 19, 20, 21, 22, 23, 24] rfl rfl rfl (by decide) (by decide) (by omega) (by decide) (Nat.zero_le _) (Nat.zero_le _) rfl rfl rfl rfl rfl ?_
        rintro v cc ⟨rfl, rfl⟩
        refine ⟨_, rfl, rfl, ?_⟩
        show AW Z 0 0 147 [some (.ref 0), none, some (.int y2), some (.int y3), some (.int x4), some (.int x5), some (.int x6), none] [.int q26, .int x5] ([kR 0 (R_s_facts_pile_state_g v0 q24.1 q24.2.1 q24.2.2 q19.2)] : List (List zE)).flatten
        refine AW.run hZ hRm [156] 400 ?_
        show AW Z 0 0 156 [some (.ref 0), none, some (.int y2), some (.int y3), some (.int x4), some (.int (x5 + q26)), some (.int x6), none] [.int 1584, .ref 0, .int x4] ([kR 0 (R_s_facts_pile_state_g v0 q24.1 q24.2.1 q24.2.2 q19.2)] : List (List zE)).flatten
        obtain ⟨q27, h30, hf⟩ := zbind hf
        refine AW.callVc hZ hR hN (c_R_goesHome N (R_s_facts_pile_state_g v0 q24.1 q24.2.1 q24.2.2 q19.2) 1584 q27 h30) zMX12_goesHome_ok rfl rfl zK_BorrowedLivesModel_405 zV_X12_goesHome rfl [25] [0] [0, 1, 2, 3, 4, 5, 6, 7, 8, 9, 10, 11, 12, 13, 14, 15, 16, 17, 18, 19, 20, 21, 22, 23, 24] rfl rfl rfl (by decide) (by decide) (by omega) (by decide) (Nat.zero_le _) (Nat.zero_le _) rfl rfl rfl rfl rfl ?_
        rintro v cc ⟨rfl, rfl⟩
        refine ⟨_, rfl, rfl, ?_⟩
        show AW Z 0 0 159 [some (.ref 0), none, some (.int y2), some (.int y3), some (.int x4), some (.int (x5 + q26)), some (.int x6), none] [.int q27.1, .int x4] ([kR 0 (R_s_facts_pile_state_g v0 q24.1 q24.2.1 q27.2 q19.2)] : List (List zE)).flatten
        refine AW.run hZ hRm [165] 400 ?_
        show AW Z 0 0 165 [some (.ref 0), none, some (.int y2), some (.int y3), some (.int (x4 + q27.1)), some (.int (x5 + q26)), some (.int x6), some (.int 0)] [] ([kR 0 (R_s_facts_pile_state_g v0 q24.1 q24.2.1 q27.2 q19.2)] : List (List zE)).flatten
        obtain ⟨q28, h29, hf⟩ := zbind hf
        refine c_R_years_L165 hZ hR (by omega) hN hRm N N (R_s_facts_pile_state_g v0 q24.1 q24.2.1 q27.2 q19.2) y2 y3 (x4 + q27.1) (x5 + q26) x6 0 q27.2 q28 h29 ?_
        show AW Z 0 0 192 [some (.ref 0), none, some (.int y2), some (.int y3), some (.int (x4 + q27.1)), some (.int (x5 + q26)), some (.int x6), none] [] ([kR 0 (R_s_facts_pile_state_g v0 q24.1 q24.2.1 q28 q19.2)] : List (List zE)).flatten
        refine AW.run hZ hRm [82] 400 ?_
        show AW Z 0 0 82 [some (.ref 0), none, some (.int y2), some (.int y3), some (.int (x4 + q27.1)), some (.int (x5 + q26)), some (.int (x6 + 1)), none] [] ([kR 0 (R_s_facts_pile_state_g v0 q24.1 q24.2.1 q28 q19.2)] : List (List zE)).flatten
        exact ih v0 y2 y3 (x4 + q27.1) (x5 + q26) (x6 + 1) q24.1 q24.2.1 q28 q19.2 q hf hk0
set_option maxRecDepth 20000 in
set_option maxHeartbeats 4000000 in
theorem c_R_years (N : Nat) (v0 : VR) (a1 : Int32) (a2 : Int32) (a3 : Int32) (R : Int32 × Int32 × (Nat → Int32) × (Nat → Int32) × (Nat → Int32) × Int64) (hf : f_R_years N v0 a1 a2 a3 = some R) : Ct zMX12_years 5 0 0 0 [.ref 0, .int a1, .int a2, .int a3] ([kR 0 v0] : List (List zE)).flatten (fun v cc => v = some (.int R.1) ∧ cc = ([kR 0 (R_s_thrown_facts_pile_state_g v0 R.2.1 R.2.2.1 R.2.2.2.1 R.2.2.2.2.1 R.2.2.2.2.2)] : List (List zE)).flatten) := by
  refine Ct.of zMX12_years_ok (by decide) (Nat.le_of_ble_eq_true rfl) ?_
  intro Z hZ hR hN hE
  have hRm : zRoom Z 0 0 := zRoom0 Z
  unfold f_R_years at hf
  show AW Z 0 0 0 [some (.ref 0), some (.int a1), some (.int a2), some (.int a3), none, none, none, none] [] ([kR 0 v0] : List (List zE)).flatten
  refine AW.run hZ hRm [10] 400 ?_
  show AW Z 0 0 10 [some (.ref 0), some (.int a1), some (.int a2), some (.int a3), none, none, none, none] [.int 9999, .int 0, .int a1] ([kR 0 (R_thrown_s v0 0)] : List (List zE)).flatten
  obtain ⟨q1, h52, hf⟩ := zbind hf
  refine AW.callSc hZ hR hN (c_R_within N a1 0 9999 q1 h52) zMX12_within_ok rfl rfl zK_BorrowedLivesModel_359 zV_X12_within rfl [25] [] [] rfl rfl rfl (by decide) (by decide) (by omega) (by decide) (Nat.zero_le _) (Nat.zero_le _) rfl rfl ?_
  rintro v cc ⟨rfl, rfl⟩
  refine ⟨_, rfl, rfl, ?_⟩
  show AW Z 0 0 13 [some (.ref 0), some (.int a1), some (.int a2), some (.int a3), none, none, none, none] [.int q1] ([kR 0 (R_thrown_s v0 0)] : List (List zE)).flatten
  refine AW.run hZ hRm [20, 36] 400 ?_
  show (((q1 = 0) → AW Z 0 0 36 [some (.ref 0), some (.int a1), some (.int a2), some (.int a3), none, none, none, none] [.int (-1)] ([kR 0 (R_thrown_s v0 0)] : List (List zE)).flatten) ∧ (¬ (q1 = 0) → AW Z 0 0 20 [some (.ref 0), some (.int a1), some (.int a2), some (.int a3), none, none, none, none] [.int 20, .int 1, .int a2] ([kR 0 (R_thrown_s v0 0)] : List (List zE)).flatten))
  refine ⟨fun c2 => ?_, fun c2 => ?_⟩
  · rw [if_pos c2] at hf
    cases hf
    exact AW.iret hZ hE rfl rfl rfl rfl (Nat.le_refl 0) (Nat.le_refl 0) rfl ⟨rfl, rfl⟩
  · rw [if_neg c2] at hf
    obtain ⟨q3, h51, hf⟩ := zbind hf
    refine AW.callSc hZ hR hN (c_R_within N a2 1 20 q3 h51) zMX12_within_ok rfl rfl zK_BorrowedLivesModel_359 zV_X12_within rfl [25] [] [] rfl rfl rfl (by decide) (by decide) (by omega) (by decide) (Nat.zero_le _) (Nat.zero_le _) rfl rfl ?_
    rintro v cc ⟨rfl, rfl⟩
    refine ⟨_, rfl, rfl, ?_⟩
    show AW Z 0 0 23 [some (.ref 0), some (.int a1), some (.int a2), some (.int a3), none, none, none, none] [.int q3] ([kR 0 (R_thrown_s v0 0)] : List (List zE)).flatten
    refine AW.run hZ hRm [29, 36] 400 ?_
    show (((q3 = 0) → AW Z 0 0 36 [some (.ref 0), some (.int a1), some (.int a2), some (.int a3), none, none, none, none] [.int (-1)] ([kR 0 (R_thrown_s v0 0)] : List (List zE)).flatten) ∧ (¬ (q3 = 0) → AW Z 0 0 29 [some (.ref 0), some (.int a1), some (.int a2), some (.int a3), none, none, none, none] [.int 2, .int 0, .int a3] ([kR 0 (R_thrown_s v0 0)] : List (List zE)).flatten))
    refine ⟨fun c4 => ?_, fun c4 => ?_⟩
    · rw [if_pos c4] at hf
      cases hf
      exact AW.iret hZ hE rfl rfl rfl rfl (Nat.le_refl 0) (Nat.le_refl 0) rfl ⟨rfl, rfl⟩
    · rw [if_neg c4] at hf
      obtain ⟨q5, h50, hf⟩ := zbind hf
      refine AW.callSc hZ hR hN (c_R_within N a3 0 2 q5 h50) zMX12_within_ok rfl rfl zK_BorrowedLivesModel_359 zV_X12_within rfl [25] [] [] rfl rfl rfl (by decide) (by decide) (by omega) (by decide) (Nat.zero_le _) (Nat.zero_le _) rfl rfl ?_
      rintro v cc ⟨rfl, rfl⟩
      refine ⟨_, rfl, rfl, ?_⟩
      show AW Z 0 0 32 [some (.ref 0), some (.int a1), some (.int a2), some (.int a3), none, none, none, none] [.int q5] ([kR 0 (R_thrown_s v0 0)] : List (List zE)).flatten
      refine AW.run hZ hRm [36, 44] 400 ?_
      show ((¬ (q5 = 0) → AW Z 0 0 44 [some (.ref 0), some (.int a1), some (.int a2), some (.int a3), none, none, none, none] [.int 46, .int 1584, .int 0, .ref 0] ([kR 0 (R_thrown_s v0 0)] : List (List zE)).flatten) ∧ ((q5 = 0) → AW Z 0 0 36 [some (.ref 0), some (.int a1), some (.int a2), some (.int a3), none, none, none, none] [.int (-1)] ([kR 0 (R_thrown_s v0 0)] : List (List zE)).flatten))
      refine ⟨fun c6 => ?_, fun c6 => ?_⟩
      · rw [if_neg c6] at hf
        obtain ⟨q7, h49, hf⟩ := zbind hf
        refine AW.callVc hZ hR hN (c_R_copies N (R_thrown_s v0 0) 0 1584 46 q7 h49) zMX12_copies_ok rfl rfl zK_BorrowedLivesModel_309 zV_X12_copies rfl [25] [0] [0, 1, 2, 3, 4, 5, 6, 7, 8, 9, 10, 11, 12, 13, 14, 15, 16, 17, 18, 19, 20, 21, 22, 23, 24] rfl rfl rfl (by decide) (by decide) (by omega) (by decide) (Nat.zero_le _) (Nat.zero_le _) rfl rfl rfl rfl rfl ?_
        rintro v cc ⟨rfl, rfl⟩
        refine ⟨_, rfl, rfl, ?_⟩
        show AW Z 0 0 47 [some (.ref 0), some (.int a1), some (.int a2), some (.int a3), none, none, none, none] [] ([kR 0 (R_s_thrown_state v0 0 q7)] : List (List zE)).flatten
        refine AW.run hZ hRm [63, 82] 400 ?_
        show (¬ ((1584 : Int32) < 0 ∨ 1656 ≤ Int32.toNatClampNeg 1584) ∧ ((¬ ((q7 (Int32.toNatClampNeg 1584)) = 1) → AW Z 0 0 82 [some (.ref 0), some (.int a1), some (.int a2), some (.int a3), some (.int 0), some (.int 0), some (.int 0), none] [] ([kR 0 (R_s_thrown_state_g v0 0 q7 (Int32.toInt64 a1))] : List (List zE)).flatten) ∧ (((q7 (Int32.toNatClampNeg 1584)) = 1) → AW Z 0 0 63 [some (.ref 0), some (.int a1), some (.int a2), some (.int a3), none, none, none, none] [.int 1584, .ref 0] ([kR 0 (R_s_thrown_state v0 0 q7)] : List (List zE)).flatten)))
        refine ⟨(by decide), ?_⟩
        refine ⟨fun c8 => ?_, fun c8 => ?_⟩
        · rw [if_neg c8] at hf
          obtain ⟨q35, h36, hf⟩ := zbind hf
          refine AW.forget [true, false, true, true, true, true, true, false] ?_
          show AW Z 0 0 82 [some (.ref 0), none, some (.int a2), some (.int a3), some (.int 0), some (.int 0), some (.int 0), none] [] ([kR 0 (R_s_thrown_state_g v0 0 q7 (Int32.toInt64 a1))] : List (List zE)).flatten
          refine c_R_years_L82 hZ hR (by omega) hN hRm N N (R_s_thrown_state_g v0 0 q7 (Int32.toInt64 a1)) a2 a3 0 0 0 (R_facts v0) (R_pile v0) q7 (Int32.toInt64 a1) q35 h36 ?_
          show AW Z 0 0 198 [some (.ref 0), none, none, some (.int a3), some (.int q35.1), some (.int q35.2.1), none, none] [] ([kR 0 (R_s_thrown_facts_pile_state_g v0 0 q35.2.2.1 q35.2.2.2.1 q35.2.2.2.2.1 q35.2.2.2.2.2)] : List (List zE)).flatten
          refine AW.run hZ hRm [221, 224] 400 ?_
          show ((¬ (a3 = 0) → ((¬ (a3 = 1) → AW Z 0 0 221 [some (.ref 0), none, none, some (.int a3), some (.int q35.1), some (.int q35.2.1), none, none] [.int 1584, .ref 0] ([kR 0 (R_s_thrown_facts_pile_state_g v0 0 q35.2.2.1 q35.2.2.2.1 q35.2.2.2.2.1 q35.2.2.2.2.2)] : List (List zE)).flatten) ∧ ((a3 = 1) → AW Z 0 0 224 [some (.ref 0), none, none, some (.int a3), some (.int q35.1), some (.int q35.2.1), none, none] [.int q35.2.1] ([kR 0 (R_s_thrown_facts_pile_state_g v0 0 q35.2.2.1 q35.2.2.2.1 q35.2.2.2.2.1 q35.2.2.2.2.2)] : List (List zE)).flatten))) ∧ ((a3 = 0) → AW Z 0 0 224 [some (.ref 0), none, none, some (.int a3), some (.int q35.1), some (.int q35.2.1), none, none] [.int q35.1] ([kR 0 (R_s_thrown_facts_pile_state_g v0 0 q35.2.2.1 q35.2.2.2.1 q35.2.2.2.2.1 q35.2.2.2.2.2)] : List (List zE)).flatten))
          refine ⟨fun c37 => ?_, fun c37 => ?_⟩
          · rw [if_neg c37] at hf
            refine ⟨fun c38 => ?_, fun c38 => ?_⟩
            · rw [if_neg c38] at hf
              obtain ⟨q39, h40, hf⟩ := zbind hf
              refine AW.callVc hZ hR hN (c_R_pursesOf N (R_s_thrown_facts_pile_state_g v0 0 q35.2.2.1 q35.2.2.2.1 q35.2.2.2.2.1 q35.2.2.2.2.2) 1584 q39 h40) zMX12_pursesOf_ok rfl rfl zK_BorrowedLivesModel_469 zV_X12_pursesOf rfl [25] [0] [0, 1, 2, 3, 4, 5, 6, 7, 8, 9, 10, 11, 12, 13, 14, 15, 16, 17, 18, 19, 20, 21, 22, 23, 24] rfl rfl rfl (by decide) (by decide) (by omega) (by decide) (Nat.zero_le _) (Nat.zero_le _) rfl rfl rfl rfl rfl ?_
              rintro v cc ⟨rfl, rfl⟩
              refine ⟨_, rfl, rfl, ?_⟩
              show AW Z 0 0 224 [some (.ref 0), none, none, some (.int a3), some (.int q35.1), some (.int q35.2.1), none, none] [.int q39] ([kR 0 (R_s_thrown_facts_pile_state_g v0 0 q35.2.2.1 q35.2.2.2.1 q35.2.2.2.2.1 q35.2.2.2.2.2)] : List (List zE)).flatten
              cases hf
              exact AW.iret hZ hE rfl rfl rfl rfl (Nat.le_refl 0) (Nat.le_refl 0) rfl ⟨rfl, rfl⟩
            · rw [if_pos c38] at hf
              cases hf
              exact AW.iret hZ hE rfl rfl rfl rfl (Nat.le_refl 0) (Nat.le_refl 0) rfl ⟨rfl, rfl⟩
          · rw [if_pos c37] at hf
            cases hf
            exact AW.iret hZ hE rfl rfl rfl rfl (Nat.le_refl 0) (Nat.le_refl 0) rfl ⟨rfl, rfl⟩
        · rw [if_pos c8] at hf
          obtain ⟨q41, h48, hf⟩ := zbind hf
          refine AW.callVc hZ hR hN (c_R_goesHome N (R_s_thrown_state v0 0 q7) 1584 q41 h48) zMX12_goesHome_ok rfl rfl zK_BorrowedLivesModel_405 zV_X12_goesHome rfl [25] [0] [0, 1, 2, 3, 4, 5, 6, 7, 8, 9, 10, 11, 12, 13, 14, 15, 16, 17, 18, 19, 20, 21, 22, 23, 24] rfl rfl rfl (by decide) (by decide) (by omega) (by decide) (Nat.zero_le _) (Nat.zero_le _) rfl rfl rfl rfl rfl ?_
          rintro v cc ⟨rfl, rfl⟩
          refine ⟨_, rfl, rfl, ?_⟩
          show AW Z 0 0 66 [some (.ref 0), some (.int a1), some (.int a2), some (.int a3), none, none, none, none] [.int q41.1] ([kR 0 (R_s_thrown_state v0 0 q41.2)] : List (List zE)).flatten
          refine AW.run hZ hRm [82] 400 ?_
          show AW Z 0 0 82 [some (.ref 0), some (.int a1), some (.int a2), some (.int a3), some (.int 0), some (.int 0), some (.int 0), none] [] ([kR 0 (R_s_thrown_state_g v0 0 q41.2 (Int32.toInt64 a1))] : List (List zE)).flatten
          obtain ⟨q42, h43, hf⟩ := zbind hf
          refine AW.forget [true, false, true, true, true, true, true, false] ?_
          show AW Z 0 0 82 [some (.ref 0), none, some (.int a2), some (.int a3), some (.int 0), some (.int 0), some (.int 0), none] [] ([kR 0 (R_s_thrown_state_g v0 0 q41.2 (Int32.toInt64 a1))] : List (List zE)).flatten
          refine c_R_years_L82 hZ hR (by omega) hN hRm N N (R_s_thrown_state_g v0 0 q41.2 (Int32.toInt64 a1)) a2 a3 0 0 0 (R_facts v0) (R_pile v0) q41.2 (Int32.toInt64 a1) q42 h43 ?_
          show AW Z 0 0 198 [some (.ref 0), none, none, some (.int a3), some (.int q42.1), some (.int q42.2.1), none, none] [] ([kR 0 (R_s_thrown_facts_pile_state_g v0 0 q42.2.2.1 q42.2.2.2.1 q42.2.2.2.2.1 q42.2.2.2.2.2)] : List (List zE)).flatten
          refine AW.run hZ hRm [221, 224] 400 ?_
          show ((¬ (a3 = 0) → ((¬ (a3 = 1) → AW Z 0 0 221 [some (.ref 0), none, none, some (.int a3), some (.int q42.1), some (.int q42.2.1), none, none] [.int 1584, .ref 0] ([kR 0 (R_s_thrown_facts_pile_state_g v0 0 q42.2.2.1 q42.2.2.2.1 q42.2.2.2.2.1 q42.2.2.2.2.2)] : List (List zE)).flatten) ∧ ((a3 = 1) → AW Z 0 0 224 [some (.ref 0), none, none, some (.int a3), some (.int q42.1), some (.int q42.2.1), none, none] [.int q42.2.1] ([kR 0 (R_s_thrown_facts_pile_state_g v0 0 q42.2.2.1 q42.2.2.2.1 q42.2.2.2.2.1 q42.2.2.2.2.2)] : List (List zE)).flatten))) ∧ ((a3 = 0) → AW Z 0 0 224 [some (.ref 0), none, none, some (.int a3), some (.int q42.1), some (.int q42.2.1), none, none] [.int q42.1] ([kR 0 (R_s_thrown_facts_pile_state_g v0 0 q42.2.2.1 q42.2.2.2.1 q42.2.2.2.2.1 q42.2.2.2.2.2)] : List (List zE)).flatten))
          refine ⟨fun c44 => ?_, fun c44 => ?_⟩
          · rw [if_neg c44] at hf
            refine ⟨fun c45 => ?_, fun c45 => ?_⟩
            · rw [if_neg c45] at hf
              obtain ⟨q46, h47, hf⟩ := zbind hf
              refine AW.callVc hZ hR hN (c_R_pursesOf N (R_s_thrown_facts_pile_state_g v0 0 q42.2.2.1 q42.2.2.2.1 q42.2.2.2.2.1 q42.2.2.2.2.2) 1584 q46 h47) zMX12_pursesOf_ok rfl rfl zK_BorrowedLivesModel_469 zV_X12_pursesOf rfl [25] [0] [0, 1, 2, 3, 4, 5, 6, 7, 8, 9, 10, 11, 12, 13, 14, 15, 16, 17, 18, 19, 20, 21, 22, 23, 24] rfl rfl rfl (by decide) (by decide) (by omega) (by decide) (Nat.zero_le _) (Nat.zero_le _) rfl rfl rfl rfl rfl ?_
              rintro v cc ⟨rfl, rfl⟩
              refine ⟨_, rfl, rfl, ?_⟩
              show AW Z 0 0 224 [some (.ref 0), none, none, some (.int a3), some (.int q42.1), some (.int q42.2.1), none, none] [.int q46] ([kR 0 (R_s_thrown_facts_pile_state_g v0 0 q42.2.2.1 q42.2.2.2.1 q42.2.2.2.2.1 q42.2.2.2.2.2)] : List (List zE)).flatten
              cases hf
              exact AW.iret hZ hE rfl rfl rfl rfl (Nat.le_refl 0) (Nat.le_refl 0) rfl ⟨rfl, rfl⟩
            · rw [if_pos c45] at hf
              cases hf
              exact AW.iret hZ hE rfl rfl rfl rfl (Nat.le_refl 0) (Nat.le_refl 0) rfl ⟨rfl, rfl⟩
          · rw [if_pos c44] at hf
            cases hf
            exact AW.iret hZ hE rfl rfl rfl rfl (Nat.le_refl 0) (Nat.le_refl 0) rfl ⟨rfl, rfl⟩
      · rw [if_pos c6] at hf
        cases hf
        exact AW.iret hZ hE rfl rfl rfl rfl (Nat.le_refl 0) (Nat.le_refl 0) rfl ⟨rfl, rfl⟩
def f_R_mark (N : Nat) (v0 : VR) (a1 : Int32) (a2 : Int32) : Option (Int32 × Int32 × (Nat → Int32) × Int32 × (Nat → Int32)) := ((f_R_within N a1 0 3).bind (fun q1 => (if (q1 = 0) then (some (0, 0, (R_state v0), (R_undos v0), (R_isMarked v0))) else (if (a2 = 0) then (if (a1 < 0 ∨ 4 ≤ Int32.toNatClampNeg a1) then none else (zlet ((upd (R_isMarked v0) (Int32.toNatClampNeg a1) (vp_nar .boolean 1)) : (Nat → Int32)) (fun z4 => ((f_R_copies N (R_s_thrown_isMarked v0 0 z4) (if (a2 = 0) then 0 else (72 * (1 + a1))) (if (a2 = 0) then (72 * (1 + a1)) else 0) 72).bind (fun q9 => (some (1, 0, q9, (if (a2 = 0) then (R_undos v0) else 0), z4))))))) else (if (a1 < 0 ∨ 4 ≤ Int32.toNatClampNeg a1) then none else (if (((R_isMarked v0) (Int32.toNatClampNeg a1)) = 0) then (some (0, 0, (R_state v0), (R_undos v0), (R_isMarked v0))) else (if (a1 < 0 ∨ 4 ≤ Int32.toNatClampNeg a1) then none else (zlet ((upd (R_isMarked v0) (Int32.toNatClampNeg a1) (vp_nar .boolean 1)) : (Nat → Int32)) (fun z15 => ((f_R_copies N (R_s_thrown_isMarked v0 0 z15) (if (a2 = 0) then 0 else (72 * (1 + a1))) (if (a2 = 0) then (72 * (1 + a1)) else 0) 72).bind (fun q20 => (some (1, 0, q20, (if (a2 = 0) then (R_undos v0) else 0), z15)))))))))))))
set_option maxRecDepth 20000 in
set_option maxHeartbeats 4000000 in
theorem c_R_mark (N : Nat) (v0 : VR) (a1 : Int32) (a2 : Int32) (R : Int32 × Int32 × (Nat → Int32) × Int32 × (Nat → Int32)) (hf : f_R_mark N v0 a1 a2 = some R) : Ct zMX12_mark 2 0 0 0 [.ref 0, .int a1, .int a2] ([kR 0 v0] : List (List zE)).flatten (fun v cc => v = some (.int R.1) ∧ cc = ([kR 0 (R_s_thrown_state_undos_isMarked v0 R.2.1 R.2.2.1 R.2.2.2.1 R.2.2.2.2)] : List (List zE)).flatten) := by
  refine Ct.of zMX12_mark_ok (by decide) (Nat.le_of_ble_eq_true rfl) ?_
  intro Z hZ hR hN hE
  have hRm : zRoom Z 0 0 := zRoom0 Z
  unfold f_R_mark at hf
  show AW Z 0 0 0 [some (.ref 0), some (.int a1), some (.int a2)] [] ([kR 0 v0] : List (List zE)).flatten
  refine AW.run hZ hRm [8] 400 ?_
  show AW Z 0 0 8 [some (.ref 0), some (.int a1), some (.int a2)] [.int 3, .int 0, .int a1] ([kR 0 (R_thrown_s v0 0)] : List (List zE)).flatten
  obtain ⟨q1, h26, hf⟩ := zbind hf
  refine AW.callSc hZ hR hN (c_R_within N a1 0 3 q1 h26) zMX12_within_ok rfl rfl zK_BorrowedLivesModel_359 zV_X12_within rfl [25] [] [] rfl rfl rfl (by decide) (by decide) (by omega) (by decide) (Nat.zero_le _) (Nat.zero_le _) rfl rfl ?_
  rintro v cc ⟨rfl, rfl⟩
  refine ⟨_, rfl, rfl, ?_⟩
  show AW Z 0 0 11 [some (.ref 0), some (.int a1), some (.int a2)] [.int q1] ([kR 0 (R_thrown_s v0 0)] : List (List zE)).flatten
  refine AW.run hZ hRm [28, 36] 400 ?_
  show (((q1 = 0) → AW Z 0 0 28 [some (.ref 0), some (.int a1), some (.int a2)] [.int 0] ([kR 0 (R_thrown_s v0 0)] : List (List zE)).flatten) ∧ (¬ (q1 = 0) → (((a2 = 0) → (¬ (a1 < 0 ∨ 4 ≤ Int32.toNatClampNeg a1) ∧ AW Z 0 0 36 [some (.ref 0), some (.int a1), some (.int a2)] [] ([kR 0 (R_s_thrown_isMarked v0 0 (upd (R_isMarked v0) (Int32.toNatClampNeg a1) (vp_nar .boolean 1)))] : List (List zE)).flatten)) ∧ (¬ (a2 = 0) → (¬ (a1 < 0 ∨ 4 ≤ Int32.toNatClampNeg a1) ∧ ((¬ (((R_isMarked v0) (Int32.toNatClampNeg a1)) = 0) → (¬ (a1 < 0 ∨ 4 ≤ Int32.toNatClampNeg a1) ∧ AW Z 0 0 36 [some (.ref 0), some (.int a1), some (.int a2)] [] ([kR 0 (R_s_thrown_isMarked v0 0 (upd (R_isMarked v0) (Int32.toNatClampNeg a1) (vp_nar .boolean 1)))] : List (List zE)).flatten)) ∧ ((((R_isMarked v0) (Int32.toNatClampNeg a1)) = 0) → AW Z 0 0 28 [some (.ref 0), some (.int a1), some (.int a2)] [.int 0] ([kR 0 (R_thrown_s v0 0)] : List (List zE)).flatten)))))))
  refine ⟨fun c2 => ?_, fun c2 => ?_⟩
  · rw [if_pos c2] at hf
    cases hf
    exact AW.iret hZ hE rfl rfl rfl rfl (Nat.le_refl 0) (Nat.le_refl 0) rfl ⟨rfl, rfl⟩
  · rw [if_neg c2] at hf
    refine ⟨fun c3 => ?_, fun c3 => ?_⟩
    · rw [if_pos c3] at hf
      obtain ⟨b13, hf⟩ := zneed hf
      refine ⟨b13, ?_⟩
      replace hf := zlet_gen hf
      generalize ((upd (R_isMarked v0) (Int32.toNatClampNeg a1) (vp_nar .boolean 1)) : (Nat → Int32)) = z4 at hf ⊢
      as_aux_lemma =>
        refine AW.run hZ hRm [38] 400 ?_
        show AW Z 0 0 38 [some (.ref 0), some (.int a1), some (.int a2)] [.int a2, .ref 0] ([kR 0 (R_s_thrown_isMarked v0 0 z4)] : List (List zE)).flatten
        suffices H5 : AW Z 0 0 51 [some (.ref 0), some (.int a1), some (.int a2)] [.int (if (a2 = 0) then 0 else (72 * (1 + a1))), .ref 0] ([kR 0 (R_s_thrown_isMarked v0 0 z4)] : List (List zE)).flatten from by
          refine AW.run hZ hRm [51] 400 ?_
          show (((a2 = 0) → AW Z 0 0 51 [some (.ref 0), some (.int a1), some (.int a2)] [.int 0, .ref 0] ([kR 0 (R_s_thrown_isMarked v0 0 z4)] : List (List zE)).flatten) ∧ (¬ (a2 = 0) → AW Z 0 0 51 [some (.ref 0), some (.int a1), some (.int a2)] [.int (72 * (1 + a1)), .ref 0] ([kR 0 (R_s_thrown_isMarked v0 0 z4)] : List (List zE)).flatten))
          refine ⟨fun c6 => ?_, fun c6 => ?_⟩
          · simpa only [if_pos c6] using H5
          · simpa only [if_neg c6] using H5
        refine AW.run hZ hRm [52] 400 ?_
        show AW Z 0 0 52 [some (.ref 0), some (.int a1), some (.int a2)] [.int a2, .int (if (a2 = 0) then 0 else (72 * (1 + a1))), .ref 0] ([kR 0 (R_s_thrown_isMarked v0 0 z4)] : List (List zE)).flatten
        suffices H7 : AW Z 0 0 65 [some (.ref 0), none, some (.int a2)] [.int (if (a2 = 0) then (72 * (1 + a1)) else 0), .int (if (a2 = 0) then 0 else (72 * (1 + a1))), .ref 0] ([kR 0 (R_s_thrown_isMarked v0 0 z4)] : List (List zE)).flatten from by
          refine AW.run hZ hRm [65] 400 ?_
          show (((a2 = 0) → AW Z 0 0 65 [some (.ref 0), some (.int a1), some (.int a2)] [.int (72 * (1 + a1)), .int (if (a2 = 0) then 0 else (72 * (1 + a1))), .ref 0] ([kR 0 (R_s_thrown_isMarked v0 0 z4)] : List (List zE)).flatten) ∧ (¬ (a2 = 0) → AW Z 0 0 65 [some (.ref 0), some (.int a1), some (.int a2)] [.int 0, .int (if (a2 = 0) then 0 else (72 * (1 + a1))), .ref 0] ([kR 0 (R_s_thrown_isMarked v0 0 z4)] : List (List zE)).flatten))
          refine ⟨fun c8 => ?_, fun c8 => ?_⟩
          · refine AW.forget [true, false, true] ?_
            show AW Z 0 0 65 [some (.ref 0), none, some (.int a2)] [.int (72 * (1 + a1)), .int (if (a2 = 0) then 0 else (72 * (1 + a1))), .ref 0] ([kR 0 (R_s_thrown_isMarked v0 0 z4)] : List (List zE)).flatten
            simpa only [if_pos c8] using H7
          · refine AW.forget [true, false, true] ?_
            show AW Z 0 0 65 [some (.ref 0), none, some (.int a2)] [.int 0, .int (if (a2 = 0) then 0 else (72 * (1 + a1))), .ref 0] ([kR 0 (R_s_thrown_isMarked v0 0 z4)] : List (List zE)).flatten
            simpa only [if_neg c8] using H7
        refine AW.run hZ hRm [67] 400 ?_
        show AW Z 0 0 67 [some (.ref 0), none, some (.int a2)] [.int 72, .int (if (a2 = 0) then (72 * (1 + a1)) else 0), .int (if (a2 = 0) then 0 else (72 * (1 + a1))), .ref 0] ([kR 0 (R_s_thrown_isMarked v0 0 z4)] : List (List zE)).flatten
        obtain ⟨q9, h12, hf⟩ := zbind hf
        refine AW.callVc hZ hR hN (c_R_copies N (R_s_thrown_isMarked v0 0 z4) (if (a2 = 0) then 0 else (72 * (1 + a1))) (if (a2 = 0) then (72 * (1 + a1)) else 0) 72 q9 h12) zMX12_copies_ok rfl rfl zK_BorrowedLivesModel_309 zV_X12_copies rfl [25] [0] [0, 1, 2, 3, 4, 5, 6, 7, 8, 9, 10, 11, 12, 13, 14, 15, 16, 17, 18, 19, 20, 21, 22, 23, 24] rfl rfl rfl (by decide) (by decide) (by omega) (by decide) (Nat.zero_le _) (Nat.zero_le _) rfl rfl rfl rfl rfl ?_
        rintro v cc ⟨rfl, rfl⟩
        refine ⟨_, rfl, rfl, ?_⟩
        show AW Z 0 0 70 [some (.ref 0), none, some (.int a2)] [] ([kR 0 (R_s_thrown_state_isMarked v0 0 q9 z4)] : List (List zE)).flatten
        refine AW.run hZ hRm [72] 400 ?_
        show AW Z 0 0 72 [some (.ref 0), none, some (.int a2)] [.int a2, .ref 0] ([kR 0 (R_s_thrown_state_isMarked v0 0 q9 z4)] : List (List zE)).flatten
        suffices H10 : AW Z 0 0 83 [none, none, none] [.int (if (a2 = 0) then (R_undos v0) else 0), .ref 0] ([kR 0 (R_s_thrown_state_isMarked v0 0 q9 z4)] : List (List zE)).flatten from by
          refine AW.run hZ hRm [83] 400 ?_
          show (((a2 = 0) → AW Z 0 0 83 [some (.ref 0), none, some (.int a2)] [.int (R_undos v0), .ref 0] ([kR 0 (R_s_thrown_state_isMarked v0 0 q9 z4)] : List (List zE)).flatten) ∧ (¬ (a2 = 0) → AW Z 0 0 83 [some (.ref 0), none, some (.int a2)] [.int 0, .ref 0] ([kR 0 (R_s_thrown_state_isMarked v0 0 q9 z4)] : List (List zE)).flatten))
          refine ⟨fun c11 => ?_, fun c11 => ?_⟩
          · refine AW.forget [false, false, false] ?_
            show AW Z 0 0 83 [none, none, none] [.int (R_undos v0), .ref 0] ([kR 0 (R_s_thrown_state_isMarked v0 0 q9 z4)] : List (List zE)).flatten
            simpa only [if_pos c11] using H10
          · refine AW.forget [false, false, false] ?_
            show AW Z 0 0 83 [none, none, none] [.int 0, .ref 0] ([kR 0 (R_s_thrown_state_isMarked v0 0 q9 z4)] : List (List zE)).flatten
            simpa only [if_neg c11] using H10
        refine AW.run hZ hRm [87] 400 ?_
        show AW Z 0 0 87 [none, none, none] [.int 1] ([kR 0 (R_s_thrown_state_undos_isMarked v0 0 q9 (if (a2 = 0) then (R_undos v0) else 0) z4)] : List (List zE)).flatten
        cases hf
        exact AW.iret hZ hE rfl rfl rfl rfl (Nat.le_refl 0) (Nat.le_refl 0) rfl ⟨rfl, rfl⟩
    · rw [if_neg c3] at hf
      obtain ⟨b25, hf⟩ := zneed hf
      refine ⟨b25, ?_⟩
      refine ⟨fun c14 => ?_, fun c14 => ?_⟩
      · rw [if_neg c14] at hf
        obtain ⟨b24, hf⟩ := zneed hf
        refine ⟨b24, ?_⟩
        replace hf := zlet_gen hf
        generalize ((upd (R_isMarked v0) (Int32.toNatClampNeg a1) (vp_nar .boolean 1)) : (Nat → Int32)) = z15 at hf ⊢
        as_aux_lemma =>
          refine AW.run hZ hRm [38] 400 ?_
          show AW Z 0 0 38 [some (.ref 0), some (.int a1), some (.int a2)] [.int a2, .ref 0] ([kR 0 (R_s_thrown_isMarked v0 0 z15)] : List (List zE)).flatten
          suffices H16 : AW Z 0 0 51 [some (.ref 0), some (.int a1), some (.int a2)] [.int (if (a2 = 0) then 0 else (72 * (1 + a1))), .ref 0] ([kR 0 (R_s_thrown_isMarked v0 0 z15)] : List (List zE)).flatten from by
            refine AW.run hZ hRm [51] 400 ?_
            show (((a2 = 0) → AW Z 0 0 51 [some (.ref 0), some (.int a1), some (.int a2)] [.int 0, .ref 0] ([kR 0 (R_s_thrown_isMarked v0 0 z15)] : List (List zE)).flatten) ∧ (¬ (a2 = 0) → AW Z 0 0 51 [some (.ref 0), some (.int a1), some (.int a2)] [.int (72 * (1 + a1)), .ref 0] ([kR 0 (R_s_thrown_isMarked v0 0 z15)] : List (List zE)).flatten))
            refine ⟨fun c17 => ?_, fun c17 => ?_⟩
            · simpa only [if_pos c17] using H16
            · simpa only [if_neg c17] using H16
          refine AW.run hZ hRm [52] 400 ?_
          show AW Z 0 0 52 [some (.ref 0), some (.int a1), some (.int a2)] [.int a2, .int (if (a2 = 0) then 0 else (72 * (1 + a1))), .ref 0] ([kR 0 (R_s_thrown_isMarked v0 0 z15)] : List (List zE)).flatten
          suffices H18 : AW Z 0 0 65 [some (.ref 0), none, some (.int a2)] [.int (if (a2 = 0) then (72 * (1 + a1)) else 0), .int (if (a2 = 0) then 0 else (72 * (1 + a1))), .ref 0] ([kR 0 (R_s_thrown_isMarked v0 0 z15)] : List (List zE)).flatten from by
            refine AW.run hZ hRm [65] 400 ?_
            show (((a2 = 0) → AW Z 0 0 65 [some (.ref 0), some (.int a1), some (.int a2)] [.int (72 * (1 + a1)), .int (if (a2 = 0) then 0 else (72 * (1 + a1))), .ref 0] ([kR 0 (R_s_thrown_isMarked v0 0 z15)] : List (List zE)).flatten) ∧ (¬ (a2 = 0) → AW Z 0 0 65 [some (.ref 0), some (.int a1), some (.int a2)] [.int 0, .int (if (a2 = 0) then 0 else (72 * (1 + a1))), .ref 0] ([kR 0 (R_s_thrown_isMarked v0 0 z15)] : List (List zE)).flatten))
            refine ⟨fun c19 => ?_, fun c19 => ?_⟩
            · refine AW.forget [true, false, true] ?_
              show AW Z 0 0 65 [some (.ref 0), none, some (.int a2)] [.int (72 * (1 + a1)), .int (if (a2 = 0) then 0 else (72 * (1 + a1))), .ref 0] ([kR 0 (R_s_thrown_isMarked v0 0 z15)] : List (List zE)).flatten
              simpa only [if_pos c19] using H18
            · refine AW.forget [true, false, true] ?_
              show AW Z 0 0 65 [some (.ref 0), none, some (.int a2)] [.int 0, .int (if (a2 = 0) then 0 else (72 * (1 + a1))), .ref 0] ([kR 0 (R_s_thrown_isMarked v0 0 z15)] : List (List zE)).flatten
              simpa only [if_neg c19] using H18
          refine AW.run hZ hRm [67] 400 ?_
          show AW Z 0 0 67 [some (.ref 0), none, some (.int a2)] [.int 72, .int (if (a2 = 0) then (72 * (1 + a1)) else 0), .int (if (a2 = 0) then 0 else (72 * (1 + a1))), .ref 0] ([kR 0 (R_s_thrown_isMarked v0 0 z15)] : List (List zE)).flatten
          obtain ⟨q20, h23, hf⟩ := zbind hf
          refine AW.callVc hZ hR hN (c_R_copies N (R_s_thrown_isMarked v0 0 z15) (if (a2 = 0) then 0 else (72 * (1 + a1))) (if (a2 = 0) then (72 * (1 + a1)) else 0) 72 q20 h23) zMX12_copies_ok rfl rfl zK_BorrowedLivesModel_309 zV_X12_copies rfl [25] [0] [0, 1, 2, 3, 4, 5, 6, 7, 8, 9, 10, 11, 12, 13, 14, 15, 16, 17, 18, 19, 20, 21, 22, 23, 24] rfl rfl rfl (by decide) (by decide) (by omega) (by decide) (Nat.zero_le _) (Nat.zero_le _) rfl rfl rfl rfl rfl ?_
          rintro v cc ⟨rfl, rfl⟩
          refine ⟨_, rfl, rfl, ?_⟩
          show AW Z 0 0 70 [some (.ref 0), none, some (.int a2)] [] ([kR 0 (R_s_thrown_state_isMarked v0 0 q20 z15)] : List (List zE)).flatten
          refine AW.run hZ hRm [72] 400 ?_
          show AW Z 0 0 72 [some (.ref 0), none, some (.int a2)] [.int a2, .ref 0] ([kR 0 (R_s_thrown_state_isMarked v0 0 q20 z15)] : List (List zE)).flatten
          suffices H21 : AW Z 0 0 83 [none, none, none] [.int (if (a2 = 0) then (R_undos v0) else 0), .ref 0] ([kR 0 (R_s_thrown_state_isMarked v0 0 q20 z15)] : List (List zE)).flatten from by
            refine AW.run hZ hRm [83] 400 ?_
            show (((a2 = 0) → AW Z 0 0 83 [some (.ref 0), none, some (.int a2)] [.int (R_undos v0), .ref 0] ([kR 0 (R_s_thrown_state_isMarked v0 0 q20 z15)] : List (List zE)).flatten) ∧ (¬ (a2 = 0) → AW Z 0 0 83 [some (.ref 0), none, some (.int a2)] [.int 0, .ref 0] ([kR 0 (R_s_thrown_state_isMarked v0 0 q20 z15)] : List (List zE)).flatten))
            refine ⟨fun c22 => ?_, fun c22 => ?_⟩
            · refine AW.forget [false, false, false] ?_
              show AW Z 0 0 83 [none, none, none] [.int (R_undos v0), .ref 0] ([kR 0 (R_s_thrown_state_isMarked v0 0 q20 z15)] : List (List zE)).flatten
              simpa only [if_pos c22] using H21
            · refine AW.forget [false, false, false] ?_
              show AW Z 0 0 83 [none, none, none] [.int 0, .ref 0] ([kR 0 (R_s_thrown_state_isMarked v0 0 q20 z15)] : List (List zE)).flatten
              simpa only [if_neg c22] using H21
          refine AW.run hZ hRm [87] 400 ?_
          show AW Z 0 0 87 [none, none, none] [.int 1] ([kR 0 (R_s_thrown_state_undos_isMarked v0 0 q20 (if (a2 = 0) then (R_undos v0) else 0) z15)] : List (List zE)).flatten
          cases hf
          exact AW.iret hZ hE rfl rfl rfl rfl (Nat.le_refl 0) (Nat.le_refl 0) rfl ⟨rfl, rfl⟩
      · rw [if_pos c14] at hf
        cases hf
        exact AW.iret hZ hE rfl rfl rfl rfl (Nat.le_refl 0) (Nat.le_refl 0) rfl ⟨rfl, rfl⟩
def f_R_debtsOf_L4 (N : Nat) : Nat → VR → Int32 → Int32 → Option (Int32)
  | 0, _, _, _ => none
  | fuel + 1, v0, x1, x2 => ((f_R_people N v0).bind (fun q1 => (if (q1 ≤ x2) then (some x1) else (if ((10 + x2) < 0 ∨ 1656 ≤ Int32.toNatClampNeg (10 + x2)) then none else (f_R_debtsOf_L4 N fuel v0 (x1 + ((R_state v0) (Int32.toNatClampNeg (10 + x2)))) (x2 + 1))))))
def f_R_debtsOf (N : Nat) (v0 : VR) : Option (Int32) := ((f_R_debtsOf_L4 N N v0 0 0).bind (fun q5 => (some q5)))
set_option maxRecDepth 20000 in
set_option maxHeartbeats 4000000 in
theorem c_R_debtsOf_L4 {Z : zCtx} {D n0w nf mcw msw : Nat} (hZ : zOk Z zMX12_debtsOf) (hR : zCan Z D mcw msw) (hDd : 2 ≤ D) (hN : zNew Z n0w nf) (hRm : zRoom Z 0 0) (N : Nat) : ∀ (fuel : Nat) (v0 : VR) (x1 : Int32) (x2 : Int32) (q : (Int32)), f_R_debtsOf_L4 N fuel v0 x1 x2 = some q → (AW Z 0 0 30 [none, some (.int q), none] [] ([kR 0 v0] : List (List zE)).flatten) → AW Z 0 0 4 [some (.ref 0), some (.int x1), some (.int x2)] [] ([kR 0 v0] : List (List zE)).flatten := by
  intro fuel
  induction fuel with
  | zero =>
    intro v0 x1 x2 q hf hk0
    simp [f_R_debtsOf_L4] at hf
  | succ fuel ih =>
    intro v0 x1 x2 q hf hk0
    rw [f_R_debtsOf_L4] at hf
    refine AW.run hZ hRm [6] 400 ?_
    show AW Z 0 0 6 [some (.ref 0), some (.int x1), some (.int x2)] [.ref 0, .int x2] ([kR 0 v0] : List (List zE)).flatten
    obtain ⟨q1, h4, hf⟩ := zbind hf
    refine AW.callVc hZ hR hN (c_R_people N v0 q1 h4) zMX12_people_ok rfl rfl zK_BorrowedLivesModel_291 zV_X12_people rfl [25] [0] [0, 1, 2, 3, 4, 5, 6, 7, 8, 9, 10, 11, 12, 13, 14, 15, 16, 17, 18, 19, 20, 21, 22, 23, 24] rfl rfl rfl (by decide) (by decide) (by omega) (by decide) (Nat.zero_le _) (Nat.zero_le _) rfl rfl rfl rfl rfl ?_
    rintro v cc ⟨rfl, rfl⟩
    refine ⟨_, rfl, rfl, ?_⟩
    show AW Z 0 0 9 [some (.ref 0), some (.int x1), some (.int x2)] [.int q1, .int x2] ([kR 0 v0] : List (List zE)).flatten
    refine AW.run hZ hRm [4, 30] 400 ?_
    show (((q1 ≤ x2) → AW Z 0 0 30 [some (.ref 0), some (.int x1), some (.int x2)] [] ([kR 0 v0] : List (List zE)).flatten) ∧ (¬ (q1 ≤ x2) → (¬ ((10 + x2) < 0 ∨ 1656 ≤ Int32.toNatClampNeg (10 + x2)) ∧ AW Z 0 0 4 [some (.ref 0), some (.int (x1 + ((R_state v0) (Int32.toNatClampNeg (10 + x2))))), some (.int (x2 + 1))] [] ([kR 0 v0] : List (List zE)).flatten)))
    refine ⟨fun c2 => ?_, fun c2 => ?_⟩
    · rw [if_pos c2] at hf
      cases hf
      refine AW.forget [false, true, false] ?_
      show AW Z 0 0 30 [none, some (.int x1), none] [] ([kR 0 v0] : List (List zE)).flatten
      exact hk0
    · rw [if_neg c2] at hf
      obtain ⟨b3, hf⟩ := zneed hf
      refine ⟨b3, ?_⟩
      exact ih v0 (x1 + ((R_state v0) (Int32.toNatClampNeg (10 + x2)))) (x2 + 1) q hf hk0
set_option maxRecDepth 20000 in
set_option maxHeartbeats 4000000 in
theorem c_R_debtsOf (N : Nat) (v0 : VR) (R : Int32) (hf : f_R_debtsOf N v0 = some R) : Ct zMX12_debtsOf 2 0 0 0 [.ref 0] ([kR 0 v0] : List (List zE)).flatten (fun v cc => v = some (.int R) ∧ cc = ([kR 0 v0] : List (List zE)).flatten) := by
  refine Ct.of zMX12_debtsOf_ok (by decide) (Nat.le_of_ble_eq_true rfl) ?_
  intro Z hZ hR hN hE
  have hRm : zRoom Z 0 0 := zRoom0 Z
  unfold f_R_debtsOf at hf
  show AW Z 0 0 0 [some (.ref 0), none, none] [] ([kR 0 v0] : List (List zE)).flatten
  refine AW.run hZ hRm [4] 400 ?_
  show AW Z 0 0 4 [some (.ref 0), some (.int 0), some (.int 0)] [] ([kR 0 v0] : List (List zE)).flatten
  obtain ⟨q5, h6, hf⟩ := zbind hf
  refine c_R_debtsOf_L4 hZ hR (by omega) hN hRm N N v0 0 0 q5 h6 ?_
  show AW Z 0 0 30 [none, some (.int q5), none] [] ([kR 0 v0] : List (List zE)).flatten
  refine AW.run hZ hRm [31] 400 ?_
  show AW Z 0 0 31 [none, some (.int q5), none] [.int q5] ([kR 0 v0] : List (List zE)).flatten
  cases hf
  exact AW.iret hZ hE rfl rfl rfl rfl (Nat.le_refl 0) (Nat.le_refl 0) rfl ⟨rfl, rfl⟩
