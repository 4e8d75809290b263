def f_R_law_L35 (N : Nat) : Nat → VR → Int64 → Int32 → (Nat → Int32) → (Nat → Int32) → (Nat → Int32) → Option (Int64 × (Nat → Int32) × (Nat → Int32) × (Nat → Int32))
  | 0, _, _, _, _, _, _ => none
  | fuel + 1, v0, x2, x4, m_facts0, m_pile1, m_state2 => (if ((R_lotsMany v0) ≤ x4) then (some (x2, m_facts0, m_pile1, m_state2)) else ((f_R_weekBy N (R_s_facts_pile_state v0 m_facts0 m_pile1 m_state2) x4).bind (fun q5 => ((f_R_allHarm N (R_s_facts_pile_state v0 q5.1 q5.2.1 q5.2.2) 1584 0).bind (fun q6 => (f_R_law_L35 N fuel v0 (x2 + (Int32.toInt64 q6)) (x4 + 1) q5.1 q5.2.1 q5.2.2))))))
def f_R_law (N : Nat) (v0 : VR) (a1 : Int32) : Option (Int32 × Int32 × (Nat → Int32) × (Nat → Int32) × (Nat → Int32) × Int32) := ((f_R_within N a1 0 999).bind (fun q1 => (if (q1 = 0) then (some ((-1), 0, (R_facts v0), (R_pile v0), (R_state v0), (R_signed v0))) else (if ((R_lotsMany v0) = 0) then (some ((-1), 0, (R_facts v0), (R_pile v0), (R_state v0), (R_signed v0))) else ((f_R_law_L35 N N (R_s_thrown_signed v0 0 a1) 0 0 (R_facts v0) (R_pile v0) (R_state v0)).bind (fun q9 => (if ((Int32.toInt64 (R_lotsMany v0)) = 0) then none else (some ((Int64.toInt32 ((q9.1 * 1000) / (Int32.toInt64 (R_lotsMany v0)))), 0, q9.2.1, q9.2.2.1, q9.2.2.2, ((R_towns v0) (Int32.toNatClampNeg 2)))))))))))
set_option maxRecDepth 20000 in
set_option maxHeartbeats 4000000 in
theorem c_R_law_L35 {Z : zCtx} {D n0w nf mcw msw : Nat} (hZ : zOk Z zMX12_law) (hR : zCan Z D mcw msw) (hDd : 6 ≤ D) (hN : zNew Z n0w nf) (hRm : zRoom Z 0 0) (N : Nat) : ∀ (fuel : Nat) (v0 : VR) (x2 : Int64) (x4 : Int32) (m_facts0 : (Nat → Int32)) (m_pile1 : (Nat → Int32)) (m_state2 : (Nat → Int32)) (q : (Int64 × (Nat → Int32) × (Nat → Int32) × (Nat → Int32))), f_R_law_L35 N fuel v0 x2 x4 m_facts0 m_pile1 m_state2 = some q → (AW Z 0 0 68 [some (.ref 0), none, some (.long q.1), none, none] [] ([kR 0 (R_s_facts_pile_state v0 q.2.1 q.2.2.1 q.2.2.2)] : List (List zE)).flatten) → AW Z 0 0 35 [some (.ref 0), none, some (.long x2), none, some (.int x4)] [] ([kR 0 (R_s_facts_pile_state v0 m_facts0 m_pile1 m_state2)] : List (List zE)).flatten := by
  intro fuel
  induction fuel with
  | zero =>
    intro v0 x2 x4 m_facts0 m_pile1 m_state2 q hf hk0
    simp [f_R_law_L35] at hf
  | succ fuel ih =>
    intro v0 x2 x4 m_facts0 m_pile1 m_state2 q hf hk0
    rw [f_R_law_L35] at hf
    refine AW.run hZ hRm [47, 68] 400 ?_
    show ((((R_lotsMany v0) ≤ x4) → AW Z 0 0 68 [some (.ref 0), none, some (.long x2), none, some (.int x4)] [] ([kR 0 (R_s_facts_pile_state v0 m_facts0 m_pile1 m_state2)] : List (List zE)).flatten) ∧ (¬ ((R_lotsMany v0) ≤ x4) → AW Z 0 0 47 [some (.ref 0), none, some (.long x2), none, some (.int x4)] [.int x4, .ref 0] ([kR 0 (R_s_facts_pile_state v0 m_facts0 m_pile1 m_state2)] : List (List zE)).flatten))
    refine ⟨fun c4 => ?_, fun c4 => ?_⟩
    · rw [if_pos c4] at hf
      cases hf
      refine AW.forget [true, false, true, false, false] ?_
      show AW Z 0 0 68 [some (.ref 0), none, some (.long x2), none, none] [] ([kR 0 (R_s_facts_pile_state v0 m_facts0 m_pile1 m_state2)] : List (List zE)).flatten
      exact hk0
    · rw [if_neg c4] at hf
      obtain ⟨q5, h8, hf⟩ := zbind hf
      refine AW.callVc hZ hR hN (c_R_weekBy N (R_s_facts_pile_state v0 m_facts0 m_pile1 m_state2) x4 q5 h8) zMX12_weekBy_ok rfl rfl zK_BorrowedLivesModel_415 zV_X12_weekBy rfl [25] [0] [0, 1, 2, 3, 4, 5, 6, 7, 8, 9, 10, 11, 12, 13, 14, 15, 16, 17, 18, 19, 20, 21, 22, 23, 24] rfl rfl rfl (by decide) (by decide) (by omega) (by decide) (Nat.zero_le _) (Nat.zero_le _) rfl rfl rfl rfl rfl ?_
      rintro v cc ⟨rfl, rfl⟩
      refine ⟨_, rfl, rfl, ?_⟩
      show AW Z 0 0 50 [some (.ref 0), none, some (.long x2), none, some (.int x4)] [] ([kR 0 (R_s_facts_pile_state v0 q5.1 q5.2.1 q5.2.2)] : List (List zE)).flatten
      refine AW.run hZ hRm [56] 400 ?_
      show AW Z 0 0 56 [some (.ref 0), none, some (.long x2), none, some (.int x4)] [.int 0, .int 1584, .ref 0, .long x2] ([kR 0 (R_s_facts_pile_state v0 q5.1 q5.2.1 q5.2.2)] : List (List zE)).flatten
      obtain ⟨q6, h7, hf⟩ := zbind hf
      refine AW.callVc hZ hR hN (c_R_allHarm N (R_s_facts_pile_state v0 q5.1 q5.2.1 q5.2.2) 1584 0 q6 h7) zMX12_allHarm_ok rfl rfl zK_BorrowedLivesModel_352 zV_X12_allHarm rfl [25] [0] [0, 1, 2, 3, 4, 5, 6, 7, 8, 9, 10, 11, 12, 13, 14, 15, 16, 17, 18, 19, 20, 21, 22, 23, 24] rfl rfl rfl (by decide) (by decide) (by omega) (by decide) (Nat.zero_le _) (Nat.zero_le _) rfl rfl rfl rfl rfl ?_
      rintro v cc ⟨rfl, rfl⟩
      refine ⟨_, rfl, rfl, ?_⟩
      show AW Z 0 0 59 [some (.ref 0), none, some (.long x2), none, some (.int x4)] [.int q6, .long x2] ([kR 0 (R_s_facts_pile_state v0 q5.1 q5.2.1 q5.2.2)] : List (List zE)).flatten
      refine AW.run hZ hRm [35] 400 ?_
      show AW Z 0 0 35 [some (.ref 0), none, some (.long (x2 + (Int32.toInt64 q6))), none, some (.int (x4 + 1))] [] ([kR 0 (R_s_facts_pile_state v0 q5.1 q5.2.1 q5.2.2)] : List (List zE)).flatten
      exact ih v0 (x2 + (Int32.toInt64 q6)) (x4 + 1) q5.1 q5.2.1 q5.2.2 q hf hk0
set_option maxRecDepth 20000 in
set_option maxHeartbeats 4000000 in
theorem c_R_law (N : Nat) (v0 : VR) (a1 : Int32) (R : Int32 × Int32 × (Nat → Int32) × (Nat → Int32) × (Nat → Int32) × Int32) (hf : f_R_law N v0 a1 = some R) : Ct zMX12_law 6 0 0 0 [.ref 0, .int a1] ([kR 0 v0] : List (List zE)).flatten (fun v cc => v = some (.int R.1) ∧ cc = ([kR 0 (R_s_thrown_facts_pile_state_signed v0 R.2.1 R.2.2.1 R.2.2.2.1 R.2.2.2.2.1 R.2.2.2.2.2)] : List (List zE)).flatten) := by
  refine Ct.of zMX12_law_ok (by decide) (Nat.le_of_ble_eq_true rfl) ?_
  intro Z hZ hR hN hE
  have hRm : zRoom Z 0 0 := zRoom0 Z
  unfold f_R_law at hf
  show AW Z 0 0 0 [some (.ref 0), some (.int a1), none, none, none] [] ([kR 0 v0] : List (List zE)).flatten
  refine AW.run hZ hRm [10] 400 ?_
  show AW Z 0 0 10 [some (.ref 0), some (.int a1), none, none, none] [.int 999, .int 0, .int a1] ([kR 0 (R_thrown_s v0 0)] : List (List zE)).flatten
  obtain ⟨q1, h12, hf⟩ := zbind hf
  refine AW.callSc hZ hR hN (c_R_within N a1 0 999 q1 h12) zMX12_within_ok rfl rfl zK_BorrowedLivesModel_359 zV_X12_within rfl [25] [] [] rfl rfl rfl (by decide) (by decide) (by omega) (by decide) (Nat.zero_le _) (Nat.zero_le _) rfl rfl ?_
  rintro v cc ⟨rfl, rfl⟩
  refine ⟨_, rfl, rfl, ?_⟩
  show AW Z 0 0 13 [some (.ref 0), some (.int a1), none, none, none] [.int q1] ([kR 0 (R_thrown_s v0 0)] : List (List zE)).flatten
  refine AW.run hZ hRm [24, 35] 400 ?_
  show (((q1 = 0) → AW Z 0 0 24 [some (.ref 0), some (.int a1), none, none, none] [.int (-1)] ([kR 0 (R_thrown_s v0 0)] : List (List zE)).flatten) ∧ (¬ (q1 = 0) → ((¬ ((R_lotsMany v0) = 0) → AW Z 0 0 35 [some (.ref 0), some (.int a1), some (.long 0), none, some (.int 0)] [] ([kR 0 (R_s_thrown_signed v0 0 a1)] : List (List zE)).flatten) ∧ (((R_lotsMany v0) = 0) → AW Z 0 0 24 [some (.ref 0), some (.int a1), none, none, none] [.int (-1)] ([kR 0 (R_thrown_s v0 0)] : List (List zE)).flatten))))
  refine ⟨fun c2 => ?_, fun c2 => ?_⟩
  · rw [if_pos c2] at hf
    cases hf
    exact AW.iret hZ hE rfl rfl rfl rfl (Nat.le_refl 0) (Nat.le_refl 0) rfl ⟨rfl, rfl⟩
  · rw [if_neg c2] at hf
    refine ⟨fun c3 => ?_, fun c3 => ?_⟩
    · rw [if_neg c3] at hf
      obtain ⟨q9, h10, hf⟩ := zbind hf
      refine AW.forget [true, false, true, false, true] ?_
      show AW Z 0 0 35 [some (.ref 0), none, some (.long 0), none, some (.int 0)] [] ([kR 0 (R_s_thrown_signed v0 0 a1)] : List (List zE)).flatten
      refine c_R_law_L35 hZ hR (by omega) hN hRm N N (R_s_thrown_signed v0 0 a1) 0 0 (R_facts v0) (R_pile v0) (R_state v0) q9 h10 ?_
      show AW Z 0 0 68 [some (.ref 0), none, some (.long q9.1), none, none] [] ([kR 0 (R_s_thrown_facts_pile_state_signed v0 0 q9.2.1 q9.2.2.1 q9.2.2.2 a1)] : List (List zE)).flatten
      refine AW.run hZ hRm [90] 400 ?_
      show (¬ ((2 : Int32) < 0 ∨ 160 ≤ Int32.toNatClampNeg 2) ∧ (¬ ((Int32.toInt64 (R_lotsMany v0)) = 0) ∧ AW Z 0 0 90 [some (.ref 0), none, some (.long q9.1), none, none] [.int (Int64.toInt32 ((q9.1 * 1000) / (Int32.toInt64 (R_lotsMany v0))))] ([kR 0 (R_s_thrown_facts_pile_state_signed v0 0 q9.2.1 q9.2.2.1 q9.2.2.2 ((R_towns v0) (Int32.toNatClampNeg 2)))] : List (List zE)).flatten))
      refine ⟨(by decide), ?_⟩
      obtain ⟨b11, hf⟩ := zneed hf
      refine ⟨b11, ?_⟩
      cases hf
      exact AW.iret hZ hE rfl rfl rfl rfl (Nat.le_refl 0) (Nat.le_refl 0) rfl ⟨rfl, rfl⟩
    · rw [if_pos c3] at hf
      cases hf
      exact AW.iret hZ hE rfl rfl rfl rfl (Nat.le_refl 0) (Nat.le_refl 0) rfl ⟨rfl, rfl⟩
def f_R_goodOf (N : Nat) (v0 : VR) (a1 : Int32) (a2 : Int32) (a3 : Int32) : Option (Int32 × (Nat → Int32) × (Nat → Int32)) := (if (0 ≤ ((R_towns v0) (Int32.toNatClampNeg 5))) then ((f_R_worthAt N (R_facts_s v0 (upd (upd (upd (R_facts v0) (Int32.toNatClampNeg 0) a1) (Int32.toNatClampNeg 1) a2) (Int32.toNatClampNeg 2) a3)) ((R_towns v0) (Int32.toNatClampNeg 5))).bind (fun q2 => (zlet ((upd (upd (upd (R_facts v0) (Int32.toNatClampNeg 0) a1) (Int32.toNatClampNeg 1) a2) (Int32.toNatClampNeg 2) a3) : (Nat → Int32)) (fun z3 => (some (q2.1, z3, q2.2)))))) else (some (((a1 - (a2 * 2)) + (a3 * 10)), (upd (upd (upd (R_facts v0) (Int32.toNatClampNeg 0) a1) (Int32.toNatClampNeg 1) a2) (Int32.toNatClampNeg 2) a3), (R_pile v0))))
set_option maxRecDepth 20000 in
set_option maxHeartbeats 4000000 in
theorem c_R_goodOf (N : Nat) (v0 : VR) (a1 : Int32) (a2 : Int32) (a3 : Int32) (R : Int32 × (Nat → Int32) × (Nat → Int32)) (hf : f_R_goodOf N v0 a1 a2 a3 = some R) : Ct zMX12_goodOf 3 0 0 0 [.ref 0, .int a1, .int a2, .int a3] ([kR 0 v0] : List (List zE)).flatten (fun v cc => v = some (.int R.1) ∧ cc = ([kR 0 (R_s_facts_pile v0 R.2.1 R.2.2)] : List (List zE)).flatten) := by
  refine Ct.of zMX12_goodOf_ok (by decide) (Nat.le_of_ble_eq_true rfl) ?_
  intro Z hZ hR hN hE
  have hRm : zRoom Z 0 0 := zRoom0 Z
  unfold f_R_goodOf at hf
  show AW Z 0 0 0 [some (.ref 0), some (.int a1), some (.int a2), some (.int a3)] [] ([kR 0 v0] : List (List zE)).flatten
  refine AW.run hZ hRm [50, 53] 400 ?_
  show (¬ ((0 : Int32) < 0 ∨ 5 ≤ Int32.toNatClampNeg 0) ∧ (¬ ((1 : Int32) < 0 ∨ 5 ≤ Int32.toNatClampNeg 1) ∧ (¬ ((2 : Int32) < 0 ∨ 5 ≤ Int32.toNatClampNeg 2) ∧ (¬ ((5 : Int32) < 0 ∨ 160 ≤ Int32.toNatClampNeg 5) ∧ (((0 ≤ ((R_towns v0) (Int32.toNatClampNeg 5))) → (¬ ((5 : Int32) < 0 ∨ 160 ≤ Int32.toNatClampNeg 5) ∧ AW Z 0 0 50 [some (.ref 0), some (.int a1), some (.int a2), some (.int a3)] [.int ((R_towns v0) (Int32.toNatClampNeg 5)), .ref 0] ([kR 0 (R_facts_s v0 (upd (upd (upd (R_facts v0) (Int32.toNatClampNeg 0) a1) (Int32.toNatClampNeg 1) a2) (Int32.toNatClampNeg 2) a3))] : List (List zE)).flatten)) ∧ (¬ (0 ≤ ((R_towns v0) (Int32.toNatClampNeg 5))) → AW Z 0 0 53 [some (.ref 0), some (.int a1), some (.int a2), some (.int a3)] [.int ((a1 - (a2 * 2)) + (a3 * 10))] ([kR 0 (R_facts_s v0 (upd (upd (upd (R_facts v0) (Int32.toNatClampNeg 0) a1) (Int32.toNatClampNeg 1) a2) (Int32.toNatClampNeg 2) a3))] : List (List zE)).flatten))))))
  refine ⟨(by decide), ?_⟩
  refine ⟨(by decide), ?_⟩
  refine ⟨(by decide), ?_⟩
  refine ⟨(by decide), ?_⟩
  refine ⟨fun c1 => ?_, fun c1 => ?_⟩
  · rw [if_pos c1] at hf
    refine ⟨(by decide), ?_⟩
    obtain ⟨q2, h4, hf⟩ := zbind hf
    refine AW.callVc hZ hR hN (c_R_worthAt N (R_facts_s v0 (upd (upd (upd (R_facts v0) (Int32.toNatClampNeg 0) a1) (Int32.toNatClampNeg 1) a2) (Int32.toNatClampNeg 2) a3)) ((R_towns v0) (Int32.toNatClampNeg 5)) q2 h4) zMX12_worthAt_ok rfl rfl zK_BorrowedLivesModel_331 zV_X12_worthAt rfl [25] [0] [0, 1, 2, 3, 4, 5, 6, 7, 8, 9, 10, 11, 12, 13, 14, 15, 16, 17, 18, 19, 20, 21, 22, 23, 24] rfl rfl rfl (by decide) (by decide) (by omega) (by decide) (Nat.zero_le _) (Nat.zero_le _) rfl rfl rfl rfl rfl ?_
    rintro v cc ⟨rfl, rfl⟩
    refine ⟨_, rfl, rfl, ?_⟩
    show AW Z 0 0 53 [some (.ref 0), some (.int a1), some (.int a2), some (.int a3)] [.int q2.1] ([kR 0 (R_s_facts_pile v0 (upd (upd (upd (R_facts v0) (Int32.toNatClampNeg 0) a1) (Int32.toNatClampNeg 1) a2) (Int32.toNatClampNeg 2) a3) q2.2)] : List (List zE)).flatten
    replace hf := zlet_gen hf
    generalize ((upd (upd (upd (R_facts v0) (Int32.toNatClampNeg 0) a1) (Int32.toNatClampNeg 1) a2) (Int32.toNatClampNeg 2) a3) : (Nat → Int32)) = z3 at hf ⊢
    cases hf
    exact AW.iret hZ hE rfl rfl rfl rfl (Nat.le_refl 0) (Nat.le_refl 0) rfl ⟨rfl, rfl⟩
  · rw [if_neg c1] at hf
    cases hf
    exact AW.iret hZ hE rfl rfl rfl rfl (Nat.le_refl 0) (Nat.le_refl 0) rfl ⟨rfl, rfl⟩
def f_R_deedsFrom_L62 (r_f_R_deedsFrom : (VR → Int32 → Int32 → Int32 → Int32 → Int32 → Int32 → Option ((Nat → Int32) × (Nat → Int32) × (Nat → Int32) × (Nat → Int32) × Int32 × Int32))) (N : Nat) : Nat → VR → Int32 → Int32 → (Nat → Int32) → Option ((Nat → Int32))
  | 0, _, _, _, _ => none
  | fuel + 1, v0, y1, x8, m_bestDeeds0 => (if (y1 ≤ x8) then (some m_bestDeeds0) else (if (x8 < 0 ∨ 7 ≤ Int32.toNatClampNeg x8) then none else (if (x8 < 0 ∨ 7 ≤ Int32.toNatClampNeg x8) then none else (f_R_deedsFrom_L62 r_f_R_deedsFrom N fuel v0 y1 (x8 + 1) (upd m_bestDeeds0 (Int32.toNatClampNeg x8) ((R_deed v0) (Int32.toNatClampNeg x8)))))))
def f_R_deedsFrom_b (r_f_R_deedsFrom : (VR → Int32 → Int32 → Int32 → Int32 → Int32 → Int32 → Option ((Nat → Int32) × (Nat → Int32) × (Nat → Int32) × (Nat → Int32) × Int32 × Int32))) (N : Nat) (v0 : VR) (a1 : Int32) (a2 : Int32) (a3 : Int32) (a4 : Int32) (a5 : Int32) (a6 : Int32) : Option ((Nat → Int32) × (Nat → Int32) × (Nat → Int32) × (Nat → Int32) × Int32 × Int32) := (if (a1 = (R_deedsMany v0)) then ((f_R_goodOf N v0 (if (a4 ≤ a3) then (a3 - a4) else 0) a5 a6).bind (fun q26 => (if ((R_isFound v0) = 0) then ((f_R_deedsFrom_L62 r_f_R_deedsFrom N N (R_s_facts_pile_mostGood_isFound v0 q26.2.1 q26.2.2 q26.1 1) a1 0 (R_bestDeeds v0)).bind (fun q31 => (some (q26.2.1, q26.2.2, (R_deed v0), q31, q26.1, 1)))) else (if (q26.1 ≤ (R_mostGood v0)) then (some (q26.2.1, q26.2.2, (R_deed v0), (R_bestDeeds v0), (R_mostGood v0), (R_isFound v0))) else ((f_R_deedsFrom_L62 r_f_R_deedsFrom N N (R_s_facts_pile_mostGood_isFound v0 q26.2.1 q26.2.2 q26.1 1) a1 0 (R_bestDeeds v0)).bind (fun q34 => (some (q26.2.1, q26.2.2, (R_deed v0), q34, q26.1, 1)))))))) else (zlet ((if (((if (10 ≤ a5) then 10 else a5) : Int32) ≤ a3) then (if (10 ≤ a5) then 10 else a5) else a3) : Int32) (fun z8 => (if (a1 < 0 ∨ 7 ≤ Int32.toNatClampNeg a1) then none else ((r_f_R_deedsFrom (R_deed_s v0 (upd (R_deed v0) (Int32.toNatClampNeg a1) 0)) (a1 + 1) a2 (if ((a3 + a2) ≤ 9999) then (a3 + a2) else 9999) a4 a5 a6).bind (fun q11 => (if (a1 < 0 ∨ 7 ≤ Int32.toNatClampNeg a1) then none else ((r_f_R_deedsFrom (R_s_facts_pile_deed_bestDeeds_mostGood_isFound v0 q11.1 q11.2.1 (upd q11.2.2.1 (Int32.toNatClampNeg a1) 1) q11.2.2.2.1 q11.2.2.2.2.1 q11.2.2.2.2.2) (a1 + 1) a2 (a3 - z8) a4 (a5 - z8) a6).bind (fun q12 => (if (a1 < 0 ∨ 7 ≤ Int32.toNatClampNeg a1) then none else (zlet ((upd q12.2.2.1 (Int32.toNatClampNeg a1) 2) : (Nat → Int32)) (fun z15 => (zlet ((if ((a6 + (if (a2 ≤ 4) then 1 else 2)) ≤ 9) then (a6 + (if (a2 ≤ 4) then 1 else 2)) else 9) : Int32) (fun z16 => ((r_f_R_deedsFrom (R_s_facts_pile_deed_bestDeeds_mostGood_isFound v0 q12.1 q12.2.1 z15 q12.2.2.2.1 q12.2.2.2.2.1 q12.2.2.2.2.2) (a1 + 1) a2 a3 a4 a5 z16).bind (fun q17 => (some (q17.1, q17.2.1, q17.2.2.1, q17.2.2.2.1, q17.2.2.2.2.1, q17.2.2.2.2.2))))))))))))))))))
def g_R_deedsFrom (N : Nat) : Nat → (VR → Int32 → Int32 → Int32 → Int32 → Int32 → Int32 → Option ((Nat → Int32) × (Nat → Int32) × (Nat → Int32) × (Nat → Int32) × Int32 × Int32))
  | 0 => (fun _ _ _ _ _ _ _ => none)
  | n + 1 => f_R_deedsFrom_b (g_R_deedsFrom N n) N
def f_R_deedsFrom (e N : Nat) (v0 : VR) (a1 : Int32) (a2 : Int32) (a3 : Int32) (a4 : Int32) (a5 : Int32) (a6 : Int32) : Option ((Nat → Int32) × (Nat → Int32) × (Nat → Int32) × (Nat → Int32) × Int32 × Int32) := (g_R_deedsFrom N e) v0 a1 a2 a3 a4 a5 a6
set_option maxRecDepth 20000 in
set_option maxHeartbeats 4000000 in
theorem c_R_deedsFrom_L62 {r_f_R_deedsFrom : (VR → Int32 → Int32 → Int32 → Int32 → Int32 → Int32 → Option ((Nat → Int32) × (Nat → Int32) × (Nat → Int32) × (Nat → Int32) × Int32 × Int32))} {e : Nat} {Z : zCtx} {D n0w nf mcw msw : Nat} (hZ : zOk Z zMX12_deedsFrom) (hR : zCan Z D mcw msw) (hDd : e + 4 ≤ D) (hN : zNew Z n0w nf) (hRm : zRoom Z 0 0) (hr_f_R_deedsFrom : ∀ (v0 : VR) (a1 : Int32) (a2 : Int32) (a3 : Int32) (a4 : Int32) (a5 : Int32) (a6 : Int32) (R : (Nat → Int32) × (Nat → Int32) × (Nat → Int32) × (Nat → Int32) × Int32 × Int32), r_f_R_deedsFrom v0 a1 a2 a3 a4 a5 a6 = some R → Ct zMX12_deedsFrom (e + 3) 0 0 0 [.ref 0, .int a1, .int a2, .int a3, .int a4, .int a5, .int a6] ([kR 0 v0] : List (List zE)).flatten (fun v cc => v = none ∧ cc = ([kR 0 (R_s_facts_pile_deed_bestDeeds_mostGood_isFound v0 R.1 R.2.1 R.2.2.1 R.2.2.2.1 R.2.2.2.2.1 R.2.2.2.2.2)] : List (List zE)).flatten)) (N : Nat) : ∀ (fuel : Nat) (v0 : VR) (y1 : Int32) (x8 : Int32) (m_bestDeeds0 : (Nat → Int32)) (q : ((Nat → Int32))), f_R_deedsFrom_L62 r_f_R_deedsFrom N fuel v0 y1 x8 m_bestDeeds0 = some q → (AW Z 0 0 88 [none, none, none, none, none, none, none, none, none, none] [] ([kR 0 (R_bestDeeds_s v0 q)] : List (List zE)).flatten) → AW Z 0 0 62 [some (.ref 0), some (.int y1), none, none, none, none, none, none, some (.int x8), none] [] ([kR 0 (R_bestDeeds_s v0 m_bestDeeds0)] : List (List zE)).flatten := by
  intro fuel
  induction fuel with
  | zero =>
    intro v0 y1 x8 m_bestDeeds0 q hf hk0
    simp [f_R_deedsFrom_L62] at hf
  | succ fuel ih =>
    intro v0 y1 x8 m_bestDeeds0 q hf hk0
    rw [f_R_deedsFrom_L62] at hf
    refine AW.run hZ hRm [62, 88] 400 ?_
    show (((y1 ≤ x8) → AW Z 0 0 88 [some (.ref 0), some (.int y1), none, none, none, none, none, none, some (.int x8), none] [] ([kR 0 (R_bestDeeds_s v0 m_bestDeeds0)] : List (List zE)).flatten) ∧ (¬ (y1 ≤ x8) → (¬ (x8 < 0 ∨ 7 ≤ Int32.toNatClampNeg x8) ∧ (¬ (x8 < 0 ∨ 7 ≤ Int32.toNatClampNeg x8) ∧ AW Z 0 0 62 [some (.ref 0), some (.int y1), none, none, none, none, none, none, some (.int (x8 + 1)), none] [] ([kR 0 (R_bestDeeds_s v0 (upd m_bestDeeds0 (Int32.toNatClampNeg x8) ((R_deed v0) (Int32.toNatClampNeg x8))))] : List (List zE)).flatten))))
    refine ⟨fun c28 => ?_, fun c28 => ?_⟩
    · rw [if_pos c28] at hf
      cases hf
      refine AW.forget [false, false, false, false, false, false, false, false, false, false] ?_
      show AW Z 0 0 88 [none, none, none, none, none, none, none, none, none, none] [] ([kR 0 (R_bestDeeds_s v0 m_bestDeeds0)] : List (List zE)).flatten
      exact hk0
    · rw [if_neg c28] at hf
      obtain ⟨b30, hf⟩ := zneed hf
      refine ⟨b30, ?_⟩
      obtain ⟨b29, hf⟩ := zneed hf
      refine ⟨b29, ?_⟩
      exact ih v0 y1 (x8 + 1) (upd m_bestDeeds0 (Int32.toNatClampNeg x8) ((R_deed v0) (Int32.toNatClampNeg x8))) q hf hk0
set_option maxRecDepth 20000 in
set_option maxHeartbeats 4000000 in
theorem c_R_deedsFrom_b {r_f_R_deedsFrom : (VR → Int32 → Int32 → Int32 → Int32 → Int32 → Int32 → Option ((Nat → Int32) × (Nat → Int32) × (Nat → Int32) × (Nat → Int32) × Int32 × Int32))} {e : Nat} (hr_f_R_deedsFrom : ∀ (v0 : VR) (a1 : Int32) (a2 : Int32) (a3 : Int32) (a4 : Int32) (a5 : Int32) (a6 : Int32) (R : (Nat → Int32) × (Nat → Int32) × (Nat → Int32) × (Nat → Int32) × Int32 × Int32), r_f_R_deedsFrom v0 a1 a2 a3 a4 a5 a6 = some R → Ct zMX12_deedsFrom (e + 3) 0 0 0 [.ref 0, .int a1, .int a2, .int a3, .int a4, .int a5, .int a6] ([kR 0 v0] : List (List zE)).flatten (fun v cc => v = none ∧ cc = ([kR 0 (R_s_facts_pile_deed_bestDeeds_mostGood_isFound v0 R.1 R.2.1 R.2.2.1 R.2.2.2.1 R.2.2.2.2.1 R.2.2.2.2.2)] : List (List zE)).flatten)) (N : Nat) (v0 : VR) (a1 : Int32) (a2 : Int32) (a3 : Int32) (a4 : Int32) (a5 : Int32) (a6 : Int32) (R : (Nat → Int32) × (Nat → Int32) × (Nat → Int32) × (Nat → Int32) × Int32 × Int32) (hf : f_R_deedsFrom_b r_f_R_deedsFrom N v0 a1 a2 a3 a4 a5 a6 = some R) : Ct zMX12_deedsFrom (e + 4) 0 0 0 [.ref 0, .int a1, .int a2, .int a3, .int a4, .int a5, .int a6] ([kR 0 v0] : List (List zE)).flatten (fun v cc => v = none ∧ cc = ([kR 0 (R_s_facts_pile_deed_bestDeeds_mostGood_isFound v0 R.1 R.2.1 R.2.2.1 R.2.2.2.1 R.2.2.2.2.1 R.2.2.2.2.2)] : List (List zE)).flatten) := by
  refine Ct.of zMX12_deedsFrom_ok (by omega) (Nat.le_of_ble_eq_true rfl) ?_
  intro Z hZ hR hN hE
  have hRm : zRoom Z 0 0 := zRoom0 Z
  unfold f_R_deedsFrom_b at hf
  show AW Z 0 0 0 [some (.ref 0), some (.int a1), some (.int a2), some (.int a3), some (.int a4), some (.int a5), some (.int a6), none, none, none] [] ([kR 0 v0] : List (List zE)).flatten
  refine AW.run hZ hRm [12, 95] 400 ?_
  show ((¬ (a1 = (R_deedsMany v0)) → AW Z 0 0 95 [some (.ref 0), some (.int a1), some (.int a2), some (.int a3), some (.int a4), some (.int a5), some (.int a6), none, none, none] [.int 9999, .int (a3 + a2)] ([kR 0 v0] : List (List zE)).flatten) ∧ ((a1 = (R_deedsMany v0)) → AW Z 0 0 12 [some (.ref 0), some (.int a1), some (.int a2), some (.int a3), some (.int a4), some (.int a5), some (.int a6), none, none, none] [.int a4, .int a3, .ref 0] ([kR 0 v0] : List (List zE)).flatten))
  refine ⟨fun c1 => ?_, fun c1 => ?_⟩
  · rw [if_neg c1] at hf
    suffices H2 : AW Z 0 0 107 [some (.ref 0), some (.int a1), some (.int a2), some (.int a3), some (.int a4), some (.int a5), some (.int a6), none, none, none] [.int (if ((a3 + a2) ≤ 9999) then (a3 + a2) else 9999)] ([kR 0 v0] : List (List zE)).flatten from by
      refine AW.run hZ hRm [107] 400 ?_
      show ((((a3 + a2) ≤ 9999) → AW Z 0 0 107 [some (.ref 0), some (.int a1), some (.int a2), some (.int a3), some (.int a4), some (.int a5), some (.int a6), none, none, none] [.int (a3 + a2)] ([kR 0 v0] : List (List zE)).flatten) ∧ (¬ ((a3 + a2) ≤ 9999) → AW Z 0 0 107 [some (.ref 0), some (.int a1), some (.int a2), some (.int a3), some (.int a4), some (.int a5), some (.int a6), none, none, none] [.int 9999] ([kR 0 v0] : List (List zE)).flatten))
      refine ⟨fun c3 => ?_, fun c3 => ?_⟩
      · simpa only [if_pos c3] using H2
      · simpa only [if_neg c3] using H2
    refine AW.run hZ hRm [113] 400 ?_
    show AW Z 0 0 113 [some (.ref 0), some (.int a1), some (.int a2), some (.int a3), some (.int a4), some (.int a5), some (.int a6), some (.int (if ((a3 + a2) ≤ 9999) then (a3 + a2) else 9999)), none, none] [.int 10, .int a5] ([kR 0 v0] : List (List zE)).flatten
    suffices H4 : AW Z 0 0 123 [some (.ref 0), some (.int a1), some (.int a2), some (.int a3), some (.int a4), some (.int a5), some (.int a6), some (.int (if ((a3 + a2) ≤ 9999) then (a3 + a2) else 9999)), none, none] [.int (if (10 ≤ a5) then 10 else a5)] ([kR 0 v0] : List (List zE)).flatten from by
      refine AW.run hZ hRm [123] 400 ?_
      show (((10 ≤ a5) → AW Z 0 0 123 [some (.ref 0), some (.int a1), some (.int a2), some (.int a3), some (.int a4), some (.int a5), some (.int a6), some (.int (if ((a3 + a2) ≤ 9999) then (a3 + a2) else 9999)), none, none] [.int 10] ([kR 0 v0] : List (List zE)).flatten) ∧ (¬ (10 ≤ a5) → AW Z 0 0 123 [some (.ref 0), some (.int a1), some (.int a2), some (.int a3), some (.int a4), some (.int a5), some (.int a6), some (.int (if ((a3 + a2) ≤ 9999) then (a3 + a2) else 9999)), none, none] [.int a5] ([kR 0 v0] : List (List zE)).flatten))
      refine ⟨fun c5 => ?_, fun c5 => ?_⟩
      · simpa only [if_pos c5] using H4
      · simpa only [if_neg c5] using H4
    refine AW.run hZ hRm [128] 400 ?_
    show AW Z 0 0 128 [some (.ref 0), some (.int a1), some (.int a2), some (.int a3), some (.int a4), some (.int a5), some (.int a6), some (.int (if ((a3 + a2) ≤ 9999) then (a3 + a2) else 9999)), some (.int (if (10 ≤ a5) then 10 else a5)), none] [.int (if (10 ≤ a5) then 10 else a5), .int a3] ([kR 0 v0] : List (List zE)).flatten
    suffices H6 : AW Z 0 0 137 [some (.ref 0), some (.int a1), some (.int a2), some (.int a3), some (.int a4), some (.int a5), some (.int a6), some (.int (if ((a3 + a2) ≤ 9999) then (a3 + a2) else 9999)), none, none] [.int (if (((if (10 ≤ a5) then 10 else a5) : Int32) ≤ a3) then (if (10 ≤ a5) then 10 else a5) else a3)] ([kR 0 v0] : List (List zE)).flatten from by
      refine AW.run hZ hRm [137] 400 ?_
      show (((((if (10 ≤ a5) then 10 else a5) : Int32) ≤ a3) → AW Z 0 0 137 [some (.ref 0), some (.int a1), some (.int a2), some (.int a3), some (.int a4), some (.int a5), some (.int a6), some (.int (if ((a3 + a2) ≤ 9999) then (a3 + a2) else 9999)), some (.int (if (10 ≤ a5) then 10 else a5)), none] [.int (if (10 ≤ a5) then 10 else a5)] ([kR 0 v0] : List (List zE)).flatten) ∧ (¬ (((if (10 ≤ a5) then 10 else a5) : Int32) ≤ a3) → AW Z 0 0 137 [some (.ref 0), some (.int a1), some (.int a2), some (.int a3), some (.int a4), some (.int a5), some (.int a6), some (.int (if ((a3 + a2) ≤ 9999) then (a3 + a2) else 9999)), some (.int (if (10 ≤ a5) then 10 else a5)), none] [.int a3] ([kR 0 v0] : List (List zE)).flatten))
      refine ⟨fun c7 => ?_, fun c7 => ?_⟩
      · refine AW.forget [true, true, true, true, true, true, true, true, false, false] ?_
        show AW Z 0 0 137 [some (.ref 0), some (.int a1), some (.int a2), some (.int a3), some (.int a4), some (.int a5), some (.int a6), some (.int (if ((a3 + a2) ≤ 9999) then (a3 + a2) else 9999)), none, none] [.int (if (10 ≤ a5) then 10 else a5)] ([kR 0 v0] : List (List zE)).flatten
        simpa only [if_pos c7] using H6
      · refine AW.forget [true, true, true, true, true, true, true, true, false, false] ?_
        show AW Z 0 0 137 [some (.ref 0), some (.int a1), some (.int a2), some (.int a3), some (.int a4), some (.int a5), some (.int a6), some (.int (if ((a3 + a2) ≤ 9999) then (a3 + a2) else 9999)), none, none] [.int a3] ([kR 0 v0] : List (List zE)).flatten
        simpa only [if_neg c7] using H6
    replace hf := zlet_gen hf
    generalize ((if (((if (10 ≤ a5) then 10 else a5) : Int32) ≤ a3) then (if (10 ≤ a5) then 10 else a5) else a3) : Int32) = z8 at hf ⊢
    refine AW.run hZ hRm [143] 400 ?_
    show AW Z 0 0 143 [some (.ref 0), some (.int a1), some (.int a2), some (.int a3), some (.int a4), some (.int a5), some (.int a6), some (.int (if ((a3 + a2) ≤ 9999) then (a3 + a2) else 9999)), some (.int z8), none] [.int 4, .int a2, .int a6] ([kR 0 v0] : List (List zE)).flatten
    suffices H9 : AW Z 0 0 151 [some (.ref 0), some (.int a1), some (.int a2), some (.int a3), some (.int a4), some (.int a5), some (.int a6), some (.int (if ((a3 + a2) ≤ 9999) then (a3 + a2) else 9999)), some (.int z8), none] [.int (if (a2 ≤ 4) then 1 else 2), .int a6] ([kR 0 v0] : List (List zE)).flatten from by
      refine AW.run hZ hRm [151] 400 ?_
      show (((a2 ≤ 4) → AW Z 0 0 151 [some (.ref 0), some (.int a1), some (.int a2), some (.int a3), some (.int a4), some (.int a5), some (.int a6), some (.int (if ((a3 + a2) ≤ 9999) then (a3 + a2) else 9999)), some (.int z8), none] [.int 1, .int a6] ([kR 0 v0] : List (List zE)).flatten) ∧ (¬ (a2 ≤ 4) → AW Z 0 0 151 [some (.ref 0), some (.int a1), some (.int a2), some (.int a3), some (.int a4), some (.int a5), some (.int a6), some (.int (if ((a3 + a2) ≤ 9999) then (a3 + a2) else 9999)), some (.int z8), none] [.int 2, .int a6] ([kR 0 v0] : List (List zE)).flatten))
      refine ⟨fun c10 => ?_, fun c10 => ?_⟩
      · simpa only [if_pos c10] using H9
      · simpa only [if_neg c10] using H9
    refine AW.run hZ hRm [174] 400 ?_
    show (¬ (a1 < 0 ∨ 7 ≤ Int32.toNatClampNeg a1) ∧ AW Z 0 0 174 [some (.ref 0), some (.int a1), some (.int a2), some (.int a3), some (.int a4), some (.int a5), some (.int a6), some (.int (if ((a3 + a2) ≤ 9999) then (a3 + a2) else 9999)), some (.int z8), some (.int (a6 + (if (a2 ≤ 4) then 1 else 2)))] [.int a6, .int a5, .int a4, .int (if ((a3 + a2) ≤ 9999) then (a3 + a2) else 9999), .int a2, .int (a1 + 1), .ref 0] ([kR 0 (R_deed_s v0 (upd (R_deed v0) (Int32.toNatClampNeg a1) 0))] : List (List zE)).flatten)
    obtain ⟨b23, hf⟩ := zneed hf
    refine ⟨b23, ?_⟩
    obtain ⟨q11, h22, hf⟩ := zbind hf
    refine AW.callVc hZ hR hN (hr_f_R_deedsFrom (R_deed_s v0 (upd (R_deed v0) (Int32.toNatClampNeg a1) 0)) (a1 + 1) a2 (if ((a3 + a2) ≤ 9999) then (a3 + a2) else 9999) a4 a5 a6 q11 h22) zMX12_deedsFrom_ok rfl rfl zK_BorrowedLivesModel_434 zV_X12_deedsFrom rfl [25] [0] [0, 1, 2, 3, 4, 5, 6, 7, 8, 9, 10, 11, 12, 13, 14, 15, 16, 17, 18, 19, 20, 21, 22, 23, 24] rfl rfl rfl (by decide) (by decide) (by omega) (by decide) (Nat.zero_le _) (Nat.zero_le _) rfl rfl rfl rfl rfl ?_
    rintro v cc ⟨rfl, rfl⟩
    refine ⟨_, rfl, rfl, ?_⟩
    show AW Z 0 0 177 [some (.ref 0), some (.int a1), some (.int a2), some (.int a3), some (.int a4), some (.int a5), some (.int a6), some (.int (if ((a3 + a2) ≤ 9999) then (a3 + a2) else 9999)), some (.int z8), some (.int (a6 + (if (a2 ≤ 4) then 1 else 2)))] [] ([kR 0 (R_s_facts_pile_deed_bestDeeds_mostGood_isFound v0 q11.1 q11.2.1 q11.2.2.1 q11.2.2.2.1 q11.2.2.2.2.1 q11.2.2.2.2.2)] : List (List zE)).flatten
    refine AW.run hZ hRm [202] 400 ?_
    show (¬ (a1 < 0 ∨ 7 ≤ Int32.toNatClampNeg a1) ∧ AW Z 0 0 202 [some (.ref 0), some (.int a1), some (.int a2), some (.int a3), some (.int a4), some (.int a5), some (.int a6), some (.int (if ((a3 + a2) ≤ 9999) then (a3 + a2) else 9999)), some (.int z8), some (.int (a6 + (if (a2 ≤ 4) then 1 else 2)))] [.int a6, .int (a5 - z8), .int a4, .int (a3 - z8), .int a2, .int (a1 + 1), .ref 0] ([kR 0 (R_s_facts_pile_deed_bestDeeds_mostGood_isFound v0 q11.1 q11.2.1 (upd q11.2.2.1 (Int32.toNatClampNeg a1) 1) q11.2.2.2.1 q11.2.2.2.2.1 q11.2.2.2.2.2)] : List (List zE)).flatten)
    obtain ⟨b21, hf⟩ := zneed hf
    refine ⟨b21, ?_⟩
    obtain ⟨q12, h20, hf⟩ := zbind hf
    refine AW.callVc hZ hR hN (hr_f_R_deedsFrom (R_s_facts_pile_deed_bestDeeds_mostGood_isFound v0 q11.1 q11.2.1 (upd q11.2.2.1 (Int32.toNatClampNeg a1) 1) q11.2.2.2.1 q11.2.2.2.2.1 q11.2.2.2.2.2) (a1 + 1) a2 (a3 - z8) a4 (a5 - z8) a6 q12 h20) zMX12_deedsFrom_ok rfl rfl zK_BorrowedLivesModel_434 zV_X12_deedsFrom rfl [25] [0] [0, 1, 2, 3, 4, 5, 6, 7, 8, 9, 10, 11, 12, 13, 14, 15, 16, 17, 18, 19, 20, 21, 22, 23, 24] rfl rfl rfl (by decide) (by decide) (by omega) (by decide) (Nat.zero_le _) (Nat.zero_le _) rfl rfl rfl rfl rfl ?_
    rintro v cc ⟨rfl, rfl⟩
    refine ⟨_, rfl, rfl, ?_⟩
    show AW Z 0 0 205 [some (.ref 0), some (.int a1), some (.int a2), some (.int a3), some (.int a4), some (.int a5), some (.int a6), some (.int (if ((a3 + a2) ≤ 9999) then (a3 + a2) else 9999)), some (.int z8), some (.int (a6 + (if (a2 ≤ 4) then 1 else 2)))] [] ([kR 0 (R_s_facts_pile_deed_bestDeeds_mostGood_isFound v0 q12.1 q12.2.1 q12.2.2.1 q12.2.2.2.1 q12.2.2.2.2.1 q12.2.2.2.2.2)] : List (List zE)).flatten
    refine AW.run hZ hRm [226] 400 ?_
    show (¬ (a1 < 0 ∨ 7 ≤ Int32.toNatClampNeg a1) ∧ AW Z 0 0 226 [some (.ref 0), some (.int a1), some (.int a2), some (.int a3), some (.int a4), some (.int a5), some (.int a6), some (.int (if ((a3 + a2) ≤ 9999) then (a3 + a2) else 9999)), some (.int z8), some (.int (a6 + (if (a2 ≤ 4) then 1 else 2)))] [.int 9, .int (a6 + (if (a2 ≤ 4) then 1 else 2)), .int a5, .int a4, .int a3, .int a2, .int (a1 + 1), .ref 0] ([kR 0 (R_s_facts_pile_deed_bestDeeds_mostGood_isFound v0 q12.1 q12.2.1 (upd q12.2.2.1 (Int32.toNatClampNeg a1) 2) q12.2.2.2.1 q12.2.2.2.2.1 q12.2.2.2.2.2)] : List (List zE)).flatten)
    obtain ⟨b19, hf⟩ := zneed hf
    refine ⟨b19, ?_⟩
    suffices H13 : AW Z 0 0 236 [none, none, none, none, none, none, none, none, none, none] [.int (if ((a6 + (if (a2 ≤ 4) then 1 else 2)) ≤ 9) then (a6 + (if (a2 ≤ 4) then 1 else 2)) else 9), .int a5, .int a4, .int a3, .int a2, .int (a1 + 1), .ref 0] ([kR 0 (R_s_facts_pile_deed_bestDeeds_mostGood_isFound v0 q12.1 q12.2.1 (upd q12.2.2.1 (Int32.toNatClampNeg a1) 2) q12.2.2.2.1 q12.2.2.2.2.1 q12.2.2.2.2.2)] : List (List zE)).flatten from by
      refine AW.run hZ hRm [236] 400 ?_
      show ((((a6 + (if (a2 ≤ 4) then 1 else 2)) ≤ 9) → AW Z 0 0 236 [some (.ref 0), some (.int a1), some (.int a2), some (.int a3), some (.int a4), some (.int a5), some (.int a6), some (.int (if ((a3 + a2) ≤ 9999) then (a3 + a2) else 9999)), some (.int z8), some (.int (a6 + (if (a2 ≤ 4) then 1 else 2)))] [.int (a6 + (if (a2 ≤ 4) then 1 else 2)), .int a5, .int a4, .int a3, .int a2, .int (a1 + 1), .ref 0] ([kR 0 (R_s_facts_pile_deed_bestDeeds_mostGood_isFound v0 q12.1 q12.2.1 (upd q12.2.2.1 (Int32.toNatClampNeg a1) 2) q12.2.2.2.1 q12.2.2.2.2.1 q12.2.2.2.2.2)] : List (List zE)).flatten) ∧ (¬ ((a6 + (if (a2 ≤ 4) then 1 else 2)) ≤ 9) → AW Z 0 0 236 [some (.ref 0), some (.int a1), some (.int a2), some (.int a3), some (.int a4), some (.int a5), some (.int a6), some (.int (if ((a3 + a2) ≤ 9999) then (a3 + a2) else 9999)), some (.int z8), some (.int (a6 + (if (a2 ≤ 4) then 1 else 2)))] [.int 9, .int a5, .int a4, .int a3, .int a2, .int (a1 + 1), .ref 0] ([kR 0 (R_s_facts_pile_deed_bestDeeds_mostGood_isFound v0 q12.1 q12.2.1 (upd q12.2.2.1 (Int32.toNatClampNeg a1) 2) q12.2.2.2.1 q12.2.2.2.2.1 q12.2.2.2.2.2)] : List (List zE)).flatten))
      refine ⟨fun c14 => ?_, fun c14 => ?_⟩
      · refine AW.forget [false, false, false, false, false, false, false, false, false, false] ?_
        show AW Z 0 0 236 [none, none, none, none, none, none, none, none, none, none] [.int (a6 + (if (a2 ≤ 4) then 1 else 2)), .int a5, .int a4, .int a3, .int a2, .int (a1 + 1), .ref 0] ([kR 0 (R_s_facts_pile_deed_bestDeeds_mostGood_isFound v0 q12.1 q12.2.1 (upd q12.2.2.1 (Int32.toNatClampNeg a1) 2) q12.2.2.2.1 q12.2.2.2.2.1 q12.2.2.2.2.2)] : List (List zE)).flatten
        simpa only [if_pos c14] using H13
      · refine AW.forget [false, false, false, false, false, false, false, false, false, false] ?_
        show AW Z 0 0 236 [none, none, none, none, none, none, none, none, none, none] [.int 9, .int a5, .int a4, .int a3, .int a2, .int (a1 + 1), .ref 0] ([kR 0 (R_s_facts_pile_deed_bestDeeds_mostGood_isFound v0 q12.1 q12.2.1 (upd q12.2.2.1 (Int32.toNatClampNeg a1) 2) q12.2.2.2.1 q12.2.2.2.2.1 q12.2.2.2.2.2)] : List (List zE)).flatten
        simpa only [if_neg c14] using H13
    replace hf := zlet_gen hf
    generalize ((upd q12.2.2.1 (Int32.toNatClampNeg a1) 2) : (Nat → Int32)) = z15 at hf ⊢
    replace hf := zlet_gen hf
    generalize ((if ((a6 + (if (a2 ≤ 4) then 1 else 2)) ≤ 9) then (a6 + (if (a2 ≤ 4) then 1 else 2)) else 9) : Int32) = z16 at hf ⊢
    obtain ⟨q17, h18, hf⟩ := zbind hf
    refine AW.callVc hZ hR hN (hr_f_R_deedsFrom (R_s_facts_pile_deed_bestDeeds_mostGood_isFound v0 q12.1 q12.2.1 z15 q12.2.2.2.1 q12.2.2.2.2.1 q12.2.2.2.2.2) (a1 + 1) a2 a3 a4 a5 z16 q17 h18) zMX12_deedsFrom_ok rfl rfl zK_BorrowedLivesModel_434 zV_X12_deedsFrom rfl [25] [0] [0, 1, 2, 3, 4, 5, 6, 7, 8, 9, 10, 11, 12, 13, 14, 15, 16, 17, 18, 19, 20, 21, 22, 23, 24] rfl rfl rfl (by decide) (by decide) (by omega) (by decide) (Nat.zero_le _) (Nat.zero_le _) rfl rfl rfl rfl rfl ?_
    rintro v cc ⟨rfl, rfl⟩
    refine ⟨_, rfl, rfl, ?_⟩
    show AW Z 0 0 239 [none, none, none, none, none, none, none, none, none, none] [] ([kR 0 (R_s_facts_pile_deed_bestDeeds_mostGood_isFound v0 q17.1 q17.2.1 q17.2.2.1 q17.2.2.2.1 q17.2.2.2.2.1 q17.2.2.2.2.2)] : List (List zE)).flatten
    cases hf
    exact AW.vret hZ hE rfl rfl rfl (Nat.le_refl 0) (Nat.le_refl 0) rfl ⟨rfl, rfl⟩
  · rw [if_pos c1] at hf
    suffices H24 : AW Z 0 0 23 [some (.ref 0), some (.int a1), none, none, none, some (.int a5), some (.int a6), none, none, none] [.int (if (a4 ≤ a3) then (a3 - a4) else 0), .ref 0] ([kR 0 v0] : List (List zE)).flatten from by
      refine AW.run hZ hRm [23] 400 ?_
      show (((a4 ≤ a3) → AW Z 0 0 23 [some (.ref 0), some (.int a1), some (.int a2), some (.int a3), some (.int a4), some (.int a5), some (.int a6), none, none, none] [.int (a3 - a4), .ref 0] ([kR 0 v0] : List (List zE)).flatten) ∧ (¬ (a4 ≤ a3) → AW Z 0 0 23 [some (.ref 0), some (.int a1), some (.int a2), some (.int a3), some (.int a4), some (.int a5), some (.int a6), none, none, none] [.int 0, .ref 0] ([kR 0 v0] : List (List zE)).flatten))
      refine ⟨fun c25 => ?_, fun c25 => ?_⟩
      · refine AW.forget [true, true, false, false, false, true, true, false, false, false] ?_
        show AW Z 0 0 23 [some (.ref 0), some (.int a1), none, none, none, some (.int a5), some (.int a6), none, none, none] [.int (a3 - a4), .ref 0] ([kR 0 v0] : List (List zE)).flatten
        simpa only [if_pos c25] using H24
      · refine AW.forget [true, true, false, false, false, true, true, false, false, false] ?_
        show AW Z 0 0 23 [some (.ref 0), some (.int a1), none, none, none, some (.int a5), some (.int a6), none, none, none] [.int 0, .ref 0] ([kR 0 v0] : List (List zE)).flatten
        simpa only [if_neg c25] using H24
    refine AW.run hZ hRm [27] 400 ?_
    show AW Z 0 0 27 [some (.ref 0), some (.int a1), none, none, none, some (.int a5), some (.int a6), none, none, none] [.int a6, .int a5, .int (if (a4 ≤ a3) then (a3 - a4) else 0), .ref 0] ([kR 0 v0] : List (List zE)).flatten
    obtain ⟨q26, h36, hf⟩ := zbind hf
    refine AW.callVc hZ hR hN (c_R_goodOf N v0 (if (a4 ≤ a3) then (a3 - a4) else 0) a5 a6 q26 h36) zMX12_goodOf_ok rfl rfl zK_BorrowedLivesModel_425 zV_X12_goodOf rfl [25] [0] [0, 1, 2, 3, 4, 5, 6, 7, 8, 9, 10, 11, 12, 13, 14, 15, 16, 17, 18, 19, 20, 21, 22, 23, 24] rfl rfl rfl (by decide) (by decide) (by omega) (by decide) (Nat.zero_le _) (Nat.zero_le _) rfl rfl rfl rfl rfl ?_
    rintro v cc ⟨rfl, rfl⟩
    refine ⟨_, rfl, rfl, ?_⟩
    show AW Z 0 0 30 [some (.ref 0), some (.int a1), none, none, none, some (.int a5), some (.int a6), none, none, none] [.int q26.1] ([kR 0 (R_s_facts_pile v0 q26.2.1 q26.2.2)] : List (List zE)).flatten
    refine AW.run hZ hRm [62, 88] 400 ?_
    show ((((R_isFound v0) = 0) → (((1 : Int32) = 0 ∨ (1 : Int32) = 1) ∧ AW Z 0 0 62 [some (.ref 0), some (.int a1), none, none, none, some (.int a5), some (.int a6), some (.int q26.1), some (.int 0), none] [] ([kR 0 (R_s_facts_pile_mostGood_isFound v0 q26.2.1 q26.2.2 q26.1 1)] : List (List zE)).flatten)) ∧ (¬ ((R_isFound v0) = 0) → (((q26.1 ≤ (R_mostGood v0)) → AW Z 0 0 88 [some (.ref 0), some (.int a1), none, none, none, some (.int a5), some (.int a6), some (.int q26.1), none, none] [] ([kR 0 (R_s_facts_pile v0 q26.2.1 q26.2.2)] : List (List zE)).flatten) ∧ (¬ (q26.1 ≤ (R_mostGood v0)) → (((1 : Int32) = 0 ∨ (1 : Int32) = 1) ∧ AW Z 0 0 62 [some (.ref 0), some (.int a1), none, none, none, some (.int a5), some (.int a6), some (.int q26.1), some (.int 0), none] [] ([kR 0 (R_s_facts_pile_mostGood_isFound v0 q26.2.1 q26.2.2 q26.1 1)] : List (List zE)).flatten)))))
    refine ⟨fun c27 => ?_, fun c27 => ?_⟩
    · rw [if_pos c27] at hf
      refine ⟨(by decide), ?_⟩
      obtain ⟨q31, h32, hf⟩ := zbind hf
      refine AW.forget [true, true, false, false, false, false, false, false, true, false] ?_
      show AW Z 0 0 62 [some (.ref 0), some (.int a1), none, none, none, none, none, none, some (.int 0), none] [] ([kR 0 (R_s_facts_pile_mostGood_isFound v0 q26.2.1 q26.2.2 q26.1 1)] : List (List zE)).flatten
      refine c_R_deedsFrom_L62 hZ hR (by omega) hN hRm hr_f_R_deedsFrom N N (R_s_facts_pile_mostGood_isFound v0 q26.2.1 q26.2.2 q26.1 1) a1 0 (R_bestDeeds v0) q31 h32 ?_
      show AW Z 0 0 88 [none, none, none, none, none, none, none, none, none, none] [] ([kR 0 (R_s_facts_pile_bestDeeds_mostGood_isFound v0 q26.2.1 q26.2.2 q31 q26.1 1)] : List (List zE)).flatten
      cases hf
      exact AW.vret hZ hE rfl rfl rfl (Nat.le_refl 0) (Nat.le_refl 0) rfl ⟨rfl, rfl⟩
    · rw [if_neg c27] at hf
      refine ⟨fun c33 => ?_, fun c33 => ?_⟩
      · rw [if_pos c33] at hf
        cases hf
        exact AW.vret hZ hE rfl rfl rfl (Nat.le_refl 0) (Nat.le_refl 0) rfl ⟨rfl, rfl⟩
      · rw [if_neg c33] at hf
        refine ⟨(by decide), ?_⟩
        obtain ⟨q34, h35, hf⟩ := zbind hf
        refine AW.forget [true, true, false, false, false, false, false, false, true, false] ?_
        show AW Z 0 0 62 [some (.ref 0), some (.int a1), none, none, none, none, none, none, some (.int 0), none] [] ([kR 0 (R_s_facts_pile_mostGood_isFound v0 q26.2.1 q26.2.2 q26.1 1)] : List (List zE)).flatten
        refine c_R_deedsFrom_L62 hZ hR (by omega) hN hRm hr_f_R_deedsFrom N N (R_s_facts_pile_mostGood_isFound v0 q26.2.1 q26.2.2 q26.1 1) a1 0 (R_bestDeeds v0) q34 h35 ?_
        show AW Z 0 0 88 [none, none, none, none, none, none, none, none, none, none] [] ([kR 0 (R_s_facts_pile_bestDeeds_mostGood_isFound v0 q26.2.1 q26.2.2 q34 q26.1 1)] : List (List zE)).flatten
        cases hf
        exact AW.vret hZ hE rfl rfl rfl (Nat.le_refl 0) (Nat.le_refl 0) rfl ⟨rfl, rfl⟩
set_option maxRecDepth 20000 in
set_option maxHeartbeats 4000000 in
theorem c_g_R_deedsFrom (N : Nat) : ∀ e : Nat, (∀ (v0 : VR) (a1 : Int32) (a2 : Int32) (a3 : Int32) (a4 : Int32) (a5 : Int32) (a6 : Int32) (R : (Nat → Int32) × (Nat → Int32) × (Nat → Int32) × (Nat → Int32) × Int32 × Int32), (g_R_deedsFrom N e) v0 a1 a2 a3 a4 a5 a6 = some R → Ct zMX12_deedsFrom (e + 3) 0 0 0 [.ref 0, .int a1, .int a2, .int a3, .int a4, .int a5, .int a6] ([kR 0 v0] : List (List zE)).flatten (fun v cc => v = none ∧ cc = ([kR 0 (R_s_facts_pile_deed_bestDeeds_mostGood_isFound v0 R.1 R.2.1 R.2.2.1 R.2.2.2.1 R.2.2.2.2.1 R.2.2.2.2.2)] : List (List zE)).flatten)) := by
  intro e
  induction e with
  | zero => exact (fun _ _ _ _ _ _ _ R h => by cases h)
  | succ e ih =>
    exact (fun v0 a1 a2 a3 a4 a5 a6 R h => by
      have h9 := c_R_deedsFrom_b ih N v0 a1 a2 a3 a4 a5 a6 R h
      rw [show e + 1 + 3 = e + 4 by omega]
      exact h9)
set_option maxRecDepth 20000 in
set_option maxHeartbeats 4000000 in
theorem c_R_deedsFrom (e N : Nat) (v0 : VR) (a1 : Int32) (a2 : Int32) (a3 : Int32) (a4 : Int32) (a5 : Int32) (a6 : Int32) (R : (Nat → Int32) × (Nat → Int32) × (Nat → Int32) × (Nat → Int32) × Int32 × Int32) (hf : f_R_deedsFrom e N v0 a1 a2 a3 a4 a5 a6 = some R) : Ct zMX12_deedsFrom (e + 3) 0 0 0 [.ref 0, .int a1, .int a2, .int a3, .int a4, .int a5, .int a6] ([kR 0 v0] : List (List zE)).flatten (fun v cc => v = none ∧ cc = ([kR 0 (R_s_facts_pile_deed_bestDeeds_mostGood_isFound v0 R.1 R.2.1 R.2.2.1 R.2.2.2.1 R.2.2.2.2.1 R.2.2.2.2.2)] : List (List zE)).flatten) := by
  exact (c_g_R_deedsFrom N e) v0 a1 a2 a3 a4 a5 a6 R hf
def f_R_deeds (N : Nat) (v0 : VR) (a1 : Int32) (a2 : Int32) (a3 : Int32) (a4 : Int32) : Option (Int32 × Int32 × (Nat → Int32) × (Nat → Int32) × (Nat → Int32) × (Nat → Int32) × Int32 × Int32 × Int32) := ((f_R_isPerson N v0 a1).bind (fun q1 => (if (q1 = 0) then (some (0, 1, (R_facts v0), (R_pile v0), (R_deed v0), (R_bestDeeds v0), (R_mostGood v0), (R_isFound v0), (R_deedsMany v0))) else ((f_R_isPerson N v0 a2).bind (fun q3 => (if (q3 = 0) then (some (0, 1, (R_facts v0), (R_pile v0), (R_deed v0), (R_bestDeeds v0), (R_mostGood v0), (R_isFound v0), (R_deedsMany v0))) else ((f_R_within N a3 1 7).bind (fun q5 => (if (q5 = 0) then (some (0, 1, (R_facts v0), (R_pile v0), (R_deed v0), (R_bestDeeds v0), (R_mostGood v0), (R_isFound v0), (R_deedsMany v0))) else ((f_R_within N a4 (-1) (a3 - 1)).bind (fun q7 => (if (((if (q7 = 0) then 1 else 0) : Int32) ≤ 0) then ((f_R_personOf N (R_s_thrown_isFound_deedsMany v0 (if (q7 = 0) then 1 else 0) 0 a3) a1 1).bind (fun q11 => (if ((4 + a2) < 0 ∨ 1656 ≤ Int32.toNatClampNeg (4 + a2)) then none else (if ((22 + a2) < 0 ∨ 1656 ≤ Int32.toNatClampNeg (22 + a2)) then none else (if ((10 + a2) < 0 ∨ 1656 ≤ Int32.toNatClampNeg (10 + a2)) then none else (if ((16 + a2) < 0 ∨ 1656 ≤ Int32.toNatClampNeg (16 + a2)) then none else ((f_R_deedsFrom 64 N (R_s_thrown_isFound_deedsMany v0 (if (q7 = 0) then 1 else 0) 0 a3) 0 q11 ((R_state v0) (Int32.toNatClampNeg (4 + a2))) ((R_state v0) (Int32.toNatClampNeg (22 + a2))) ((R_state v0) (Int32.toNatClampNeg (10 + a2))) ((R_state v0) (Int32.toNatClampNeg (16 + a2)))).bind (fun q12 => (if (0 ≤ a4) then (if (a4 < 0 ∨ 7 ≤ Int32.toNatClampNeg a4) then none else (some ((q12.2.2.2.1 (Int32.toNatClampNeg a4)), (if (q7 = 0) then 1 else 0), q12.1, q12.2.1, q12.2.2.1, q12.2.2.2.1, q12.2.2.2.2.1, q12.2.2.2.2.2, a3))) else (some (q12.2.2.2.2.1, (if (q7 = 0) then 1 else 0), q12.1, q12.2.1, q12.2.2.1, q12.2.2.2.1, q12.2.2.2.2.1, q12.2.2.2.2.2, a3))))))))))) else (some (0, (if (q7 = 0) then 1 else 0), (R_facts v0), (R_pile v0), (R_deed v0), (R_bestDeeds v0), (R_mostGood v0), (R_isFound v0), (R_deedsMany v0)))))))))))))))
set_option maxRecDepth 20000 in
set_option maxHeartbeats 4000000 in
theorem c_R_deeds (N : Nat) (v0 : VR) (a1 : Int32) (a2 : Int32) (a3 : Int32) (a4 : Int32) (R : Int32 × Int32 × (Nat → Int32) × (Nat → Int32) × (Nat → Int32) × (Nat → Int32) × Int32 × Int32 × Int32) (hf : f_R_deeds N v0 a1 a2 a3 a4 = some R) : Ct zMX12_deeds 68 0 0 0 [.ref 0, .int a1, .int a2, .int a3, .int a4] ([kR 0 v0] : List (List zE)).flatten (fun v cc => v = some (.int R.1) ∧ cc = ([kR 0 (R_s_thrown_facts_pile_deed_bestDeeds_mostGood_isFound_deedsMany v0 R.2.1 R.2.2.1 R.2.2.2.1 R.2.2.2.2.1 R.2.2.2.2.2.1 R.2.2.2.2.2.2.1 R.2.2.2.2.2.2.2.1 R.2.2.2.2.2.2.2.2)] : List (List zE)).flatten) := by
  refine Ct.of zMX12_deeds_ok (by decide) (Nat.le_of_ble_eq_true rfl) ?_
  intro Z hZ hR hN hE
  have hRm : zRoom Z 0 0 := zRoom0 Z
  unfold f_R_deeds at hf
  show AW Z 0 0 0 [some (.ref 0), some (.int a1), some (.int a2), some (.int a3), some (.int a4)] [] ([kR 0 v0] : List (List zE)).flatten
  refine AW.run hZ hRm [3] 400 ?_
  show AW Z 0 0 3 [some (.ref 0), some (.int a1), some (.int a2), some (.int a3), some (.int a4)] [.int a1, .ref 0, .ref 0] ([kR 0 v0] : List (List zE)).flatten
  obtain ⟨q1, h24, hf⟩ := zbind hf
  refine AW.callVc hZ hR hN (c_R_isPerson N v0 a1 q1 h24) zMX12_isPerson_ok rfl rfl zK_BorrowedLivesModel_356 zV_X12_isPerson rfl [25] [0] [0, 1, 2, 3, 4, 5, 6, 7, 8, 9, 10, 11, 12, 13, 14, 15, 16, 17, 18, 19, 20, 21, 22, 23, 24] rfl rfl rfl (by decide) (by decide) (by omega) (by decide) (Nat.zero_le _) (Nat.zero_le _) rfl rfl rfl rfl rfl ?_
  rintro v cc ⟨rfl, rfl⟩
  refine ⟨_, rfl, rfl, ?_⟩
  show AW Z 0 0 6 [some (.ref 0), some (.int a1), some (.int a2), some (.int a3), some (.int a4)] [.int q1, .ref 0] ([kR 0 v0] : List (List zE)).flatten
  refine AW.run hZ hRm [11, 55] 400 ?_
  show (((q1 = 0) → ((((1 : Int32) ≤ 0) → (((0 : Int32) = 0 ∨ (0 : Int32) = 1) ∧ AW Z 0 0 71 [some (.ref 0), some (.int a1), some (.int a2), some (.int a3), some (.int a4)] [.int 1, .int a1, .ref 0, .int 0, .ref 0] ([kR 0 (R_s_thrown_isFound_deedsMany v0 1 0 a3)] : List (List zE)).flatten)) ∧ (¬ ((1 : Int32) ≤ 0) → AW Z 0 0 55 [some (.ref 0), some (.int a1), some (.int a2), some (.int a3), some (.int a4)] [.int 0] ([kR 0 (R_thrown_s v0 1)] : List (List zE)).flatten))) ∧ (¬ (q1 = 0) → AW Z 0 0 11 [some (.ref 0), some (.int a1), some (.int a2), some (.int a3), some (.int a4)] [.int a2, .ref 0, .ref 0] ([kR 0 v0] : List (List zE)).flatten))
  refine ⟨fun c2 => ?_, fun c2 => ?_⟩
  · rw [if_pos c2] at hf
    refine ⟨fun h => absurd h (by decide), fun _ => ?_⟩
    cases hf
    exact AW.iret hZ hE rfl rfl rfl rfl (Nat.le_refl 0) (Nat.le_refl 0) rfl ⟨rfl, rfl⟩
  · rw [if_neg c2] at hf
    obtain ⟨q3, h23, hf⟩ := zbind hf
    refine AW.callVc hZ hR hN (c_R_isPerson N v0 a2 q3 h23) zMX12_isPerson_ok rfl rfl zK_BorrowedLivesModel_356 zV_X12_isPerson rfl [25] [0] [0, 1, 2, 3, 4, 5, 6, 7, 8, 9, 10, 11, 12, 13, 14, 15, 16, 17, 18, 19, 20, 21, 22, 23, 24] rfl rfl rfl (by decide) (by decide) (by omega) (by decide) (Nat.zero_le _) (Nat.zero_le _) rfl rfl rfl rfl rfl ?_
    rintro v cc ⟨rfl, rfl⟩
    refine ⟨_, rfl, rfl, ?_⟩
    show AW Z 0 0 14 [some (.ref 0), some (.int a1), some (.int a2), some (.int a3), some (.int a4)] [.int q3, .ref 0] ([kR 0 v0] : List (List zE)).flatten
    refine AW.run hZ hRm [21, 55] 400 ?_
    show (((q3 = 0) → ((((1 : Int32) ≤ 0) → (((0 : Int32) = 0 ∨ (0 : Int32) = 1) ∧ AW Z 0 0 71 [some (.ref 0), some (.int a1), some (.int a2), some (.int a3), some (.int a4)] [.int 1, .int a1, .ref 0, .int 0, .ref 0] ([kR 0 (R_s_thrown_isFound_deedsMany v0 1 0 a3)] : List (List zE)).flatten)) ∧ (¬ ((1 : Int32) ≤ 0) → AW Z 0 0 55 [some (.ref 0), some (.int a1), some (.int a2), some (.int a3), some (.int a4)] [.int 0] ([kR 0 (R_thrown_s v0 1)] : List (List zE)).flatten))) ∧ (¬ (q3 = 0) → AW Z 0 0 21 [some (.ref 0), some (.int a1), some (.int a2), some (.int a3), some (.int a4)] [.int 7, .int 1, .int a3, .ref 0] ([kR 0 v0] : List (List zE)).flatten))
    refine ⟨fun c4 => ?_, fun c4 => ?_⟩
    · rw [if_pos c4] at hf
      refine ⟨fun h => absurd h (by decide), fun _ => ?_⟩
      cases hf
      exact AW.iret hZ hE rfl rfl rfl rfl (Nat.le_refl 0) (Nat.le_refl 0) rfl ⟨rfl, rfl⟩
    · rw [if_neg c4] at hf
      obtain ⟨q5, h22, hf⟩ := zbind hf
      refine AW.callSc hZ hR hN (c_R_within N a3 1 7 q5 h22) zMX12_within_ok rfl rfl zK_BorrowedLivesModel_359 zV_X12_within rfl [25] [] [] rfl rfl rfl (by decide) (by decide) (by omega) (by decide) (Nat.zero_le _) (Nat.zero_le _) rfl rfl ?_
      rintro v cc ⟨rfl, rfl⟩
      refine ⟨_, rfl, rfl, ?_⟩
      show AW Z 0 0 24 [some (.ref 0), some (.int a1), some (.int a2), some (.int a3), some (.int a4)] [.int q5, .ref 0] ([kR 0 v0] : List (List zE)).flatten
      refine AW.run hZ hRm [33, 55] 400 ?_
      show (((q5 = 0) → ((((1 : Int32) ≤ 0) → (((0 : Int32) = 0 ∨ (0 : Int32) = 1) ∧ AW Z 0 0 71 [some (.ref 0), some (.int a1), some (.int a2), some (.int a3), some (.int a4)] [.int 1, .int a1, .ref 0, .int 0, .ref 0] ([kR 0 (R_s_thrown_isFound_deedsMany v0 1 0 a3)] : List (List zE)).flatten)) ∧ (¬ ((1 : Int32) ≤ 0) → AW Z 0 0 55 [some (.ref 0), some (.int a1), some (.int a2), some (.int a3), some (.int a4)] [.int 0] ([kR 0 (R_thrown_s v0 1)] : List (List zE)).flatten))) ∧ (¬ (q5 = 0) → AW Z 0 0 33 [some (.ref 0), some (.int a1), some (.int a2), some (.int a3), some (.int a4)] [.int (a3 - 1), .int (-1), .int a4, .ref 0] ([kR 0 v0] : List (List zE)).flatten))
      refine ⟨fun c6 => ?_, fun c6 => ?_⟩
      · rw [if_pos c6] at hf
        refine ⟨fun h => absurd h (by decide), fun _ => ?_⟩
        cases hf
        exact AW.iret hZ hE rfl rfl rfl rfl (Nat.le_refl 0) (Nat.le_refl 0) rfl ⟨rfl, rfl⟩
      · rw [if_neg c6] at hf
        obtain ⟨q7, h21, hf⟩ := zbind hf
        refine AW.callSc hZ hR hN (c_R_within N a4 (-1) (a3 - 1) q7 h21) zMX12_within_ok rfl rfl zK_BorrowedLivesModel_359 zV_X12_within rfl [25] [] [] rfl rfl rfl (by decide) (by decide) (by omega) (by decide) (Nat.zero_le _) (Nat.zero_le _) rfl rfl ?_
        rintro v cc ⟨rfl, rfl⟩
        refine ⟨_, rfl, rfl, ?_⟩
        show AW Z 0 0 36 [some (.ref 0), some (.int a1), some (.int a2), some (.int a3), some (.int a4)] [.int q7, .ref 0] ([kR 0 v0] : List (List zE)).flatten
        suffices H8 : AW Z 0 0 44 [some (.ref 0), some (.int a1), some (.int a2), some (.int a3), some (.int a4)] [.int (if (q7 = 0) then 1 else 0), .ref 0] ([kR 0 v0] : List (List zE)).flatten from by
          refine AW.run hZ hRm [44] 400 ?_
          show (((q7 = 0) → AW Z 0 0 44 [some (.ref 0), some (.int a1), some (.int a2), some (.int a3), some (.int a4)] [.int 1, .ref 0] ([kR 0 v0] : List (List zE)).flatten) ∧ (¬ (q7 = 0) → AW Z 0 0 44 [some (.ref 0), some (.int a1), some (.int a2), some (.int a3), some (.int a4)] [.int 0, .ref 0] ([kR 0 v0] : List (List zE)).flatten))
          refine ⟨fun c9 => ?_, fun c9 => ?_⟩
          · simpa only [if_pos c9] using H8
          · simpa only [if_neg c9] using H8
        refine AW.run hZ hRm [55, 71] 400 ?_
        show (((((if (q7 = 0) then 1 else 0) : Int32) ≤ 0) → (((0 : Int32) = 0 ∨ (0 : Int32) = 1) ∧ AW Z 0 0 71 [some (.ref 0), some (.int a1), some (.int a2), some (.int a3), some (.int a4)] [.int 1, .int a1, .ref 0, .int 0, .ref 0] ([kR 0 (R_s_thrown_isFound_deedsMany v0 (if (q7 = 0) then 1 else 0) 0 a3)] : List (List zE)).flatten)) ∧ (¬ (((if (q7 = 0) then 1 else 0) : Int32) ≤ 0) → AW Z 0 0 55 [some (.ref 0), some (.int a1), some (.int a2), some (.int a3), some (.int a4)] [.int 0] ([kR 0 (R_thrown_s v0 (if (q7 = 0) then 1 else 0))] : List (List zE)).flatten))
        refine ⟨fun c10 => ?_, fun c10 => ?_⟩
        · rw [if_pos c10] at hf
          refine ⟨(by decide), ?_⟩
          obtain ⟨q11, h20, hf⟩ := zbind hf
          refine AW.callVc hZ hR hN (c_R_personOf N (R_s_thrown_isFound_deedsMany v0 (if (q7 = 0) then 1 else 0) 0 a3) a1 1 q11 h20) zMX12_personOf_ok rfl rfl zK_BorrowedLivesModel_294 zV_X12_personOf rfl [25] [0] [0, 1, 2, 3, 4, 5, 6, 7, 8, 9, 10, 11, 12, 13, 14, 15, 16, 17, 18, 19, 20, 21, 22, 23, 24] rfl rfl rfl (by decide) (by decide) (by omega) (by decide) (Nat.zero_le _) (Nat.zero_le _) rfl rfl rfl rfl rfl ?_
          rintro v cc ⟨rfl, rfl⟩
          refine ⟨_, rfl, rfl, ?_⟩
          show AW Z 0 0 74 [some (.ref 0), some (.int a1), some (.int a2), some (.int a3), some (.int a4)] [.int q11, .int 0, .ref 0] ([kR 0 (R_s_thrown_isFound_deedsMany v0 (if (q7 = 0) then 1 else 0) 0 a3)] : List (List zE)).flatten
          refine AW.run hZ hRm [109] 400 ?_
          show (¬ ((4 + a2) < 0 ∨ 1656 ≤ Int32.toNatClampNeg (4 + a2)) ∧ (¬ ((22 + a2) < 0 ∨ 1656 ≤ Int32.toNatClampNeg (22 + a2)) ∧ (¬ ((10 + a2) < 0 ∨ 1656 ≤ Int32.toNatClampNeg (10 + a2)) ∧ (¬ ((16 + a2) < 0 ∨ 1656 ≤ Int32.toNatClampNeg (16 + a2)) ∧ AW Z 0 0 109 [some (.ref 0), some (.int a1), some (.int a2), some (.int a3), some (.int a4)] [.int ((R_state v0) (Int32.toNatClampNeg (16 + a2))), .int ((R_state v0) (Int32.toNatClampNeg (10 + a2))), .int ((R_state v0) (Int32.toNatClampNeg (22 + a2))), .int ((R_state v0) (Int32.toNatClampNeg (4 + a2))), .int q11, .int 0, .ref 0] ([kR 0 (R_s_thrown_isFound_deedsMany v0 (if (q7 = 0) then 1 else 0) 0 a3)] : List (List zE)).flatten))))
          obtain ⟨b19, hf⟩ := zneed hf
          refine ⟨b19, ?_⟩
          obtain ⟨b18, hf⟩ := zneed hf
          refine ⟨b18, ?_⟩
          obtain ⟨b17, hf⟩ := zneed hf
          refine ⟨b17, ?_⟩
          obtain ⟨b16, hf⟩ := zneed hf
          refine ⟨b16, ?_⟩
          obtain ⟨q12, h15, hf⟩ := zbind hf
          refine AW.callVc hZ hR hN (c_R_deedsFrom 64 N (R_s_thrown_isFound_deedsMany v0 (if (q7 = 0) then 1 else 0) 0 a3) 0 q11 ((R_state v0) (Int32.toNatClampNeg (4 + a2))) ((R_state v0) (Int32.toNatClampNeg (22 + a2))) ((R_state v0) (Int32.toNatClampNeg (10 + a2))) ((R_state v0) (Int32.toNatClampNeg (16 + a2))) q12 h15) zMX12_deedsFrom_ok rfl rfl zK_BorrowedLivesModel_434 zV_X12_deedsFrom rfl [25] [0] [0, 1, 2, 3, 4, 5, 6, 7, 8, 9, 10, 11, 12, 13, 14, 15, 16, 17, 18, 19, 20, 21, 22, 23, 24] rfl rfl rfl (by decide) (by decide) (by omega) (by decide) (Nat.zero_le _) (Nat.zero_le _) rfl rfl rfl rfl rfl ?_
          rintro v cc ⟨rfl, rfl⟩
          refine ⟨_, rfl, rfl, ?_⟩
          show AW Z 0 0 112 [some (.ref 0), some (.int a1), some (.int a2), some (.int a3), some (.int a4)] [] ([kR 0 (R_s_thrown_facts_pile_deed_bestDeeds_mostGood_isFound_deedsMany v0 (if (q7 = 0) then 1 else 0) q12.1 q12.2.1 q12.2.2.1 q12.2.2.2.1 q12.2.2.2.2.1 q12.2.2.2.2.2 a3)] : List (List zE)).flatten
          refine AW.run hZ hRm [131] 400 ?_
          show (((0 ≤ a4) → (¬ (a4 < 0 ∨ 7 ≤ Int32.toNatClampNeg a4) ∧ AW Z 0 0 131 [some (.ref 0), some (.int a1), some (.int a2), some (.int a3), some (.int a4)] [.int (q12.2.2.2.1 (Int32.toNatClampNeg a4))] ([kR 0 (R_s_thrown_facts_pile_deed_bestDeeds_mostGood_isFound_deedsMany v0 (if (q7 = 0) then 1 else 0) q12.1 q12.2.1 q12.2.2.1 q12.2.2.2.1 q12.2.2.2.2.1 q12.2.2.2.2.2 a3)] : List (List zE)).flatten)) ∧ (¬ (0 ≤ a4) → AW Z 0 0 131 [some (.ref 0), some (.int a1), some (.int a2), some (.int a3), some (.int a4)] [.int q12.2.2.2.2.1] ([kR 0 (R_s_thrown_facts_pile_deed_bestDeeds_mostGood_isFound_deedsMany v0 (if (q7 = 0) then 1 else 0) q12.1 q12.2.1 q12.2.2.1 q12.2.2.2.1 q12.2.2.2.2.1 q12.2.2.2.2.2 a3)] : List (List zE)).flatten))
          refine ⟨fun c13 => ?_, fun c13 => ?_⟩
          · rw [if_pos c13] at hf
            obtain ⟨b14, hf⟩ := zneed hf
            refine ⟨b14, ?_⟩
            cases hf
            exact AW.iret hZ hE rfl rfl rfl rfl (Nat.le_refl 0) (Nat.le_refl 0) rfl ⟨rfl, rfl⟩
          · rw [if_neg c13] at hf
            cases hf
            exact AW.iret hZ hE rfl rfl rfl rfl (Nat.le_refl 0) (Nat.le_refl 0) rfl ⟨rfl, rfl⟩
        · rw [if_neg c10] at hf
          cases hf
          exact AW.iret hZ hE rfl rfl rfl rfl (Nat.le_refl 0) (Nat.le_refl 0) rfl ⟨rfl, rfl⟩
def f_R_wishOf (N : Nat) (v0 : VR) (a1 : Int32) (a2 : Int32) : Option (Int32 × (Nat → Int32) × (Nat → Int32)) := ((f_R_laysFacts N v0 0 a2 a1 0).bind (fun q1 => (if (0 ≤ ((R_towns v0) (Int32.toNatClampNeg 6))) then ((f_R_worthAt N (R_facts_s v0 q1) ((R_towns v0) (Int32.toNatClampNeg 6))).bind (fun q3 => (some (q3.1, q1, q3.2)))) else (some ((((q1 (Int32.toNatClampNeg 0)) - (q1 (Int32.toNatClampNeg 1))) + ((q1 (Int32.toNatClampNeg 2)) * 5)), q1, (R_pile v0))))))
set_option maxRecDepth 20000 in
set_option maxHeartbeats 4000000 in
theorem c_R_wishOf (N : Nat) (v0 : VR) (a1 : Int32) (a2 : Int32) (R : Int32 × (Nat → Int32) × (Nat → Int32)) (hf : f_R_wishOf N v0 a1 a2 = some R) : Ct zMX12_wishOf 3 0 0 0 [.ref 0, .int a1, .int a2] ([kR 0 v0] : List (List zE)).flatten (fun v cc => v = some (.int R.1) ∧ cc = ([kR 0 (R_s_facts_pile v0 R.2.1 R.2.2)] : List (List zE)).flatten) := by
  refine Ct.of zMX12_wishOf_ok (by decide) (Nat.le_of_ble_eq_true rfl) ?_
  intro Z hZ hR hN hE
  have hRm : zRoom Z 0 0 := zRoom0 Z
  unfold f_R_wishOf at hf
  show AW Z 0 0 0 [some (.ref 0), some (.int a1), some (.int a2)] [] ([kR 0 v0] : List (List zE)).flatten
  refine AW.run hZ hRm [5] 400 ?_
  show AW Z 0 0 5 [some (.ref 0), some (.int a1), some (.int a2)] [.int 0, .int a1, .int a2, .int 0, .ref 0] ([kR 0 v0] : List (List zE)).flatten
  obtain ⟨q1, h5, hf⟩ := zbind hf
  refine AW.callVc hZ hR hN (c_R_laysFacts N v0 0 a2 a1 0 q1 h5) zMX12_laysFacts_ok rfl rfl zK_BorrowedLivesModel_327 zV_X12_laysFacts rfl [25] [0] [0, 1, 2, 3, 4, 5, 6, 7, 8, 9, 10, 11, 12, 13, 14, 15, 16, 17, 18, 19, 20, 21, 22, 23, 24] rfl rfl rfl (by decide) (by decide) (by omega) (by decide) (Nat.zero_le _) (Nat.zero_le _) rfl rfl rfl rfl rfl ?_
  rintro v cc ⟨rfl, rfl⟩
  refine ⟨_, rfl, rfl, ?_⟩
  show AW Z 0 0 8 [some (.ref 0), some (.int a1), some (.int a2)] [] ([kR 0 (R_facts_s v0 q1)] : List (List zE)).flatten
  refine AW.run hZ hRm [51, 54] 400 ?_
  show (¬ ((6 : Int32) < 0 ∨ 160 ≤ Int32.toNatClampNeg 6) ∧ (((0 ≤ ((R_towns v0) (Int32.toNatClampNeg 6))) → (¬ ((6 : Int32) < 0 ∨ 160 ≤ Int32.toNatClampNeg 6) ∧ AW Z 0 0 51 [some (.ref 0), some (.int a1), some (.int a2)] [.int ((R_towns v0) (Int32.toNatClampNeg 6)), .ref 0] ([kR 0 (R_facts_s v0 q1)] : List (List zE)).flatten)) ∧ (¬ (0 ≤ ((R_towns v0) (Int32.toNatClampNeg 6))) → (¬ ((0 : Int32) < 0 ∨ 5 ≤ Int32.toNatClampNeg 0) ∧ (¬ ((1 : Int32) < 0 ∨ 5 ≤ Int32.toNatClampNeg 1) ∧ (¬ ((2 : Int32) < 0 ∨ 5 ≤ Int32.toNatClampNeg 2) ∧ AW Z 0 0 54 [some (.ref 0), some (.int a1), some (.int a2)] [.int (((q1 (Int32.toNatClampNeg 0)) - (q1 (Int32.toNatClampNeg 1))) + ((q1 (Int32.toNatClampNeg 2)) * 5))] ([kR 0 (R_facts_s v0 q1)] : List (List zE)).flatten))))))
  refine ⟨(by decide), ?_⟩
  refine ⟨fun c2 => ?_, fun c2 => ?_⟩
  · rw [if_pos c2] at hf
    refine ⟨(by decide), ?_⟩
    obtain ⟨q3, h4, hf⟩ := zbind hf
    refine AW.callVc hZ hR hN (c_R_worthAt N (R_facts_s v0 q1) ((R_towns v0) (Int32.toNatClampNeg 6)) q3 h4) zMX12_worthAt_ok rfl rfl zK_BorrowedLivesModel_331 zV_X12_worthAt rfl [25] [0] [0, 1, 2, 3, 4, 5, 6, 7, 8, 9, 10, 11, 12, 13, 14, 15, 16, 17, 18, 19, 20, 21, 22, 23, 24] rfl rfl rfl (by decide) (by decide) (by omega) (by decide) (Nat.zero_le _) (Nat.zero_le _) rfl rfl rfl rfl rfl ?_
    rintro v cc ⟨rfl, rfl⟩
    refine ⟨_, rfl, rfl, ?_⟩
    show AW Z 0 0 54 [some (.ref 0), some (.int a1), some (.int a2)] [.int q3.1] ([kR 0 (R_s_facts_pile v0 q1 q3.2)] : List (List zE)).flatten
    cases hf
    exact AW.iret hZ hE rfl rfl rfl rfl (Nat.le_refl 0) (Nat.le_refl 0) rfl ⟨rfl, rfl⟩
  · rw [if_neg c2] at hf
    refine ⟨(by decide), ?_⟩
    refine ⟨(by decide), ?_⟩
    refine ⟨(by decide), ?_⟩
    cases hf
    exact AW.iret hZ hE rfl rfl rfl rfl (Nat.le_refl 0) (Nat.le_refl 0) rfl ⟨rfl, rfl⟩
