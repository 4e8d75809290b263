def f_R_isAsTold_L19 (N : Nat) : Nat → VR → Int32 → Int32 → Int32 → Option (Int32)
  | 0, _, _, _, _ => none
  | fuel + 1, v0, y2, x1, x3 => (if (((R_state v0) (Int32.toNatClampNeg 46)) ≤ x3) then (some x1) else (if (x1 = 0) then (f_R_isAsTold_L19 N fuel v0 y2 0 (x3 + 1)) else (if (((47 + (3 * x3)) + 1) < 0 ∨ 1656 ≤ Int32.toNatClampNeg ((47 + (3 * x3)) + 1)) then none else (if (((R_state v0) (Int32.toNatClampNeg ((47 + (3 * x3)) + 1))) = y2) then (if ((47 + (3 * x3)) < 0 ∨ 1656 ≤ Int32.toNatClampNeg (47 + (3 * x3))) then none else (if ((1588 + ((R_state v0) (Int32.toNatClampNeg (47 + (3 * x3))))) < 0 ∨ 1656 ≤ Int32.toNatClampNeg (1588 + ((R_state v0) (Int32.toNatClampNeg (47 + (3 * x3)))))) then none else (if (((47 + (3 * x3)) + 2) < 0 ∨ 1656 ≤ Int32.toNatClampNeg ((47 + (3 * x3)) + 2)) then none else (zlet ((if (((R_state v0) (Int32.toNatClampNeg (1588 + ((R_state v0) (Int32.toNatClampNeg (47 + (3 * x3))))))) = ((R_state v0) (Int32.toNatClampNeg ((47 + (3 * x3)) + 2)))) then 1 else 0) : Int32) (fun z8 => (f_R_isAsTold_L19 N fuel v0 y2 z8 (x3 + 1))))))) else (f_R_isAsTold_L19 N fuel v0 y2 1 (x3 + 1))))))
def f_R_isAsTold_L4 (N : Nat) : Nat → VR → Int32 → Int32 → (Nat → Int32) → (Nat → Int32) → (Nat → Int32) → Option (Int32 × (Nat → Int32) × (Nat → Int32) × (Nat → Int32))
  | 0, _, _, _, _, _, _ => none
  | fuel + 1, v0, x1, x2, m_facts0, m_pile1, m_state2 => (if (7 < x2) then (some (x1, m_facts0, m_pile1, m_state2)) else ((f_R_passes N (R_s_facts_pile_state v0 m_facts0 m_pile1 m_state2) 1584).bind (fun q2 => ((f_R_isAsTold_L19 N N (R_s_facts_pile_state v0 q2.1 q2.2.1 q2.2.2) x2 x1 0).bind (fun q13 => (f_R_isAsTold_L4 N fuel v0 q13 (x2 + 1) q2.1 q2.2.1 q2.2.2))))))
def f_R_isAsTold (N : Nat) (v0 : VR) : Option (Int32 × (Nat → Int32) × (Nat → Int32) × (Nat → Int32)) := ((f_R_isAsTold_L4 N N v0 1 1 (R_facts v0) (R_pile v0) (R_state v0)).bind (fun q16 => (if (q16.1 = 0 ∨ q16.1 = 1) then (some (q16.1, q16.2.1, q16.2.2.1, q16.2.2.2)) else none)))
set_option maxRecDepth 20000 in
set_option maxHeartbeats 4000000 in
theorem c_R_isAsTold_L19 {Z : zCtx} {D n0w nf mcw msw : Nat} (hZ : zOk Z zMX12_isAsTold) (hR : zCan Z D mcw msw) (hDd : 5 ≤ D) (hN : zNew Z n0w nf) (hRm : zRoom Z 0 0) (N : Nat) : ∀ (fuel : Nat) (v0 : VR) (y2 : Int32) (x1 : Int32) (x3 : Int32) (q : (Int32)), f_R_isAsTold_L19 N fuel v0 y2 x1 x3 = some q → (AW Z 0 0 95 [some (.ref 0), some (.int q), some (.int y2), none, none] [] ([kR 0 v0] : List (List zE)).flatten) → AW Z 0 0 19 [some (.ref 0), some (.int x1), some (.int y2), some (.int x3), none] [] ([kR 0 v0] : List (List zE)).flatten := by
  intro fuel
  induction fuel with
  | zero =>
    intro v0 y2 x1 x3 q hf hk0
    simp [f_R_isAsTold_L19] at hf
  | succ fuel ih =>
    intro v0 y2 x1 x3 q hf hk0
    rw [f_R_isAsTold_L19] at hf
    refine AW.run hZ hRm [19, 80, 95] 400 ?_
    show (¬ ((46 : Int32) < 0 ∨ 1656 ≤ Int32.toNatClampNeg 46) ∧ (((((R_state v0) (Int32.toNatClampNeg 46)) ≤ x3) → AW Z 0 0 95 [some (.ref 0), some (.int x1), some (.int y2), some (.int x3), none] [] ([kR 0 v0] : List (List zE)).flatten) ∧ (¬ (((R_state v0) (Int32.toNatClampNeg 46)) ≤ x3) → (((x1 = 0) → AW Z 0 0 19 [some (.ref 0), some (.int 0), some (.int y2), some (.int (x3 + 1)), some (.int (47 + (3 * x3)))] [] ([kR 0 v0] : List (List zE)).flatten) ∧ (¬ (x1 = 0) → (¬ (((47 + (3 * x3)) + 1) < 0 ∨ 1656 ≤ Int32.toNatClampNeg ((47 + (3 * x3)) + 1)) ∧ ((¬ (((R_state v0) (Int32.toNatClampNeg ((47 + (3 * x3)) + 1))) = y2) → AW Z 0 0 19 [some (.ref 0), some (.int 1), some (.int y2), some (.int (x3 + 1)), some (.int (47 + (3 * x3)))] [] ([kR 0 v0] : List (List zE)).flatten) ∧ ((((R_state v0) (Int32.toNatClampNeg ((47 + (3 * x3)) + 1))) = y2) → (¬ ((47 + (3 * x3)) < 0 ∨ 1656 ≤ Int32.toNatClampNeg (47 + (3 * x3))) ∧ (¬ ((1588 + ((R_state v0) (Int32.toNatClampNeg (47 + (3 * x3))))) < 0 ∨ 1656 ≤ Int32.toNatClampNeg (1588 + ((R_state v0) (Int32.toNatClampNeg (47 + (3 * x3)))))) ∧ (¬ (((47 + (3 * x3)) + 2) < 0 ∨ 1656 ≤ Int32.toNatClampNeg ((47 + (3 * x3)) + 2)) ∧ AW Z 0 0 80 [some (.ref 0), some (.int x1), some (.int y2), some (.int x3), some (.int (47 + (3 * x3)))] [.int ((R_state v0) (Int32.toNatClampNeg ((47 + (3 * x3)) + 2))), .int ((R_state v0) (Int32.toNatClampNeg (1588 + ((R_state v0) (Int32.toNatClampNeg (47 + (3 * x3)))))))] ([kR 0 v0] : List (List zE)).flatten)))))))))))
    refine ⟨(by decide), ?_⟩
    refine ⟨fun c3 => ?_, fun c3 => ?_⟩
    · rw [if_pos c3] at hf
      cases hf
      refine AW.forget [true, true, true, false, false] ?_
      show AW Z 0 0 95 [some (.ref 0), some (.int x1), some (.int y2), none, none] [] ([kR 0 v0] : List (List zE)).flatten
      exact hk0
    · rw [if_neg c3] at hf
      refine ⟨fun c4 => ?_, fun c4 => ?_⟩
      · rw [if_pos c4] at hf
        refine AW.forget [true, true, true, true, false] ?_
        show AW Z 0 0 19 [some (.ref 0), some (.int 0), some (.int y2), some (.int (x3 + 1)), none] [] ([kR 0 v0] : List (List zE)).flatten
        exact ih v0 y2 0 (x3 + 1) q hf hk0
      · rw [if_neg c4] at hf
        obtain ⟨b12, hf⟩ := zneed hf
        refine ⟨b12, ?_⟩
        refine ⟨fun c5 => ?_, fun c5 => ?_⟩
        · rw [if_neg c5] at hf
          refine AW.forget [true, true, true, true, false] ?_
          show AW Z 0 0 19 [some (.ref 0), some (.int 1), some (.int y2), some (.int (x3 + 1)), none] [] ([kR 0 v0] : List (List zE)).flatten
          exact ih v0 y2 1 (x3 + 1) q hf hk0
        · rw [if_pos c5] at hf
          obtain ⟨b11, hf⟩ := zneed hf
          refine ⟨b11, ?_⟩
          obtain ⟨b10, hf⟩ := zneed hf
          refine ⟨b10, ?_⟩
          obtain ⟨b9, hf⟩ := zneed hf
          refine ⟨b9, ?_⟩
          suffices H6 : AW Z 0 0 88 [some (.ref 0), none, some (.int y2), some (.int x3), none] [.int (if (((R_state v0) (Int32.toNatClampNeg (1588 + ((R_state v0) (Int32.toNatClampNeg (47 + (3 * x3))))))) = ((R_state v0) (Int32.toNatClampNeg ((47 + (3 * x3)) + 2)))) then 1 else 0)] ([kR 0 v0] : List (List zE)).flatten from by
            refine AW.run hZ hRm [88] 400 ?_
            show ((¬ (((R_state v0) (Int32.toNatClampNeg (1588 + ((R_state v0) (Int32.toNatClampNeg (47 + (3 * x3))))))) = ((R_state v0) (Int32.toNatClampNeg ((47 + (3 * x3)) + 2)))) → AW Z 0 0 88 [some (.ref 0), some (.int x1), some (.int y2), some (.int x3), some (.int (47 + (3 * x3)))] [.int 0] ([kR 0 v0] : List (List zE)).flatten) ∧ ((((R_state v0) (Int32.toNatClampNeg (1588 + ((R_state v0) (Int32.toNatClampNeg (47 + (3 * x3))))))) = ((R_state v0) (Int32.toNatClampNeg ((47 + (3 * x3)) + 2)))) → AW Z 0 0 88 [some (.ref 0), some (.int x1), some (.int y2), some (.int x3), some (.int (47 + (3 * x3)))] [.int 1] ([kR 0 v0] : List (List zE)).flatten))
            refine ⟨fun c7 => ?_, fun c7 => ?_⟩
            · refine AW.forget [true, false, true, true, false] ?_
              show AW Z 0 0 88 [some (.ref 0), none, some (.int y2), some (.int x3), none] [.int 0] ([kR 0 v0] : List (List zE)).flatten
              simpa only [if_neg c7] using H6
            · refine AW.forget [true, false, true, true, false] ?_
              show AW Z 0 0 88 [some (.ref 0), none, some (.int y2), some (.int x3), none] [.int 1] ([kR 0 v0] : List (List zE)).flatten
              simpa only [if_pos c7] using H6
          replace hf := zlet_gen hf
          generalize ((if (((R_state v0) (Int32.toNatClampNeg (1588 + ((R_state v0) (Int32.toNatClampNeg (47 + (3 * x3))))))) = ((R_state v0) (Int32.toNatClampNeg ((47 + (3 * x3)) + 2)))) then 1 else 0) : Int32) = z8 at hf ⊢
          refine AW.run hZ hRm [19] 400 ?_
          show AW Z 0 0 19 [some (.ref 0), some (.int z8), some (.int y2), some (.int (x3 + 1)), none] [] ([kR 0 v0] : List (List zE)).flatten
          exact ih v0 y2 z8 (x3 + 1) q hf hk0
set_option maxRecDepth 20000 in
set_option maxHeartbeats 4000000 in
theorem c_R_isAsTold_L4 {Z : zCtx} {D n0w nf mcw msw : Nat} (hZ : zOk Z zMX12_isAsTold) (hR : zCan Z D mcw msw) (hDd : 5 ≤ D) (hN : zNew Z n0w nf) (hRm : zRoom Z 0 0) (N : Nat) : ∀ (fuel : Nat) (v0 : VR) (x1 : Int32) (x2 : Int32) (m_facts0 : (Nat → Int32)) (m_pile1 : (Nat → Int32)) (m_state2 : (Nat → Int32)) (q : (Int32 × (Nat → Int32) × (Nat → Int32) × (Nat → Int32))), f_R_isAsTold_L4 N fuel v0 x1 x2 m_facts0 m_pile1 m_state2 = some q → (AW Z 0 0 101 [none, some (.int q.1), none, none, none] [] ([kR 0 (R_s_facts_pile_state v0 q.2.1 q.2.2.1 q.2.2.2)] : List (List zE)).flatten) → AW Z 0 0 4 [some (.ref 0), some (.int x1), some (.int x2), none, none] [] ([kR 0 (R_s_facts_pile_state v0 m_facts0 m_pile1 m_state2)] : List (List zE)).flatten := by
  intro fuel
  induction fuel with
  | zero =>
    intro v0 x1 x2 m_facts0 m_pile1 m_state2 q hf hk0
    simp [f_R_isAsTold_L4] at hf
  | succ fuel ih =>
    intro v0 x1 x2 m_facts0 m_pile1 m_state2 q hf hk0
    rw [f_R_isAsTold_L4] at hf
    refine AW.run hZ hRm [14, 101] 400 ?_
    show (((7 < x2) → AW Z 0 0 101 [some (.ref 0), some (.int x1), some (.int x2), none, none] [] ([kR 0 (R_s_facts_pile_state v0 m_facts0 m_pile1 m_state2)] : List (List zE)).flatten) ∧ (¬ (7 < x2) → AW Z 0 0 14 [some (.ref 0), some (.int x1), some (.int x2), none, none] [.int 1584, .ref 0] ([kR 0 (R_s_facts_pile_state v0 m_facts0 m_pile1 m_state2)] : List (List zE)).flatten))
    refine ⟨fun c1 => ?_, fun c1 => ?_⟩
    · rw [if_pos c1] at hf
      cases hf
      refine AW.forget [false, true, false, false, false] ?_
      show AW Z 0 0 101 [none, some (.int x1), none, none, none] [] ([kR 0 (R_s_facts_pile_state v0 m_facts0 m_pile1 m_state2)] : List (List zE)).flatten
      exact hk0
    · rw [if_neg c1] at hf
      obtain ⟨q2, h15, hf⟩ := zbind hf
      refine AW.callVc hZ hR hN (c_R_passes N (R_s_facts_pile_state v0 m_facts0 m_pile1 m_state2) 1584 q2 h15) zMX12_passes_ok rfl rfl zK_BorrowedLivesModel_402 zV_X12_passes rfl [25] [0] [0, 1, 2, 3, 4, 5, 6, 7, 8, 9, 10, 11, 12, 13, 14, 15, 16, 17, 18, 19, 20, 21, 22, 23, 24] rfl rfl rfl (by decide) (by decide) (by omega) (by decide) (Nat.zero_le _) (Nat.zero_le _) rfl rfl rfl rfl rfl ?_
      rintro v cc ⟨rfl, rfl⟩
      refine ⟨_, rfl, rfl, ?_⟩
      show AW Z 0 0 17 [some (.ref 0), some (.int x1), some (.int x2), none, none] [] ([kR 0 (R_s_facts_pile_state v0 q2.1 q2.2.1 q2.2.2)] : List (List zE)).flatten
      refine AW.run hZ hRm [19] 400 ?_
      show AW Z 0 0 19 [some (.ref 0), some (.int x1), some (.int x2), some (.int 0), none] [] ([kR 0 (R_s_facts_pile_state v0 q2.1 q2.2.1 q2.2.2)] : List (List zE)).flatten
      obtain ⟨q13, h14, hf⟩ := zbind hf
      refine c_R_isAsTold_L19 hZ hR (by omega) hN hRm N N (R_s_facts_pile_state v0 q2.1 q2.2.1 q2.2.2) x2 x1 0 q13 h14 ?_
      show AW Z 0 0 95 [some (.ref 0), some (.int q13), some (.int x2), none, none] [] ([kR 0 (R_s_facts_pile_state v0 q2.1 q2.2.1 q2.2.2)] : List (List zE)).flatten
      refine AW.run hZ hRm [4] 400 ?_
      show AW Z 0 0 4 [some (.ref 0), some (.int q13), some (.int (x2 + 1)), none, none] [] ([kR 0 (R_s_facts_pile_state v0 q2.1 q2.2.1 q2.2.2)] : List (List zE)).flatten
      exact ih v0 q13 (x2 + 1) q2.1 q2.2.1 q2.2.2 q hf hk0
set_option maxRecDepth 20000 in
set_option maxHeartbeats 4000000 in
theorem c_R_isAsTold (N : Nat) (v0 : VR) (R : Int32 × (Nat → Int32) × (Nat → Int32) × (Nat → Int32)) (hf : f_R_isAsTold N v0 = some R) : Ct zMX12_isAsTold 5 0 0 0 [.ref 0] ([kR 0 v0] : List (List zE)).flatten (fun v cc => v = some (.int R.1) ∧ cc = ([kR 0 (R_s_facts_pile_state v0 R.2.1 R.2.2.1 R.2.2.2)] : List (List zE)).flatten) := by
  refine Ct.of zMX12_isAsTold_ok (by decide) (Nat.le_of_ble_eq_true rfl) ?_
  intro Z hZ hR hN hE
  have hRm : zRoom Z 0 0 := zRoom0 Z
  unfold f_R_isAsTold at hf
  show AW Z 0 0 0 [some (.ref 0), none, none, none, none] [] ([kR 0 v0] : List (List zE)).flatten
  refine AW.run hZ hRm [4] 400 ?_
  show AW Z 0 0 4 [some (.ref 0), some (.int 1), some (.int 1), none, none] [] ([kR 0 v0] : List (List zE)).flatten
  obtain ⟨q16, h17, hf⟩ := zbind hf
  refine c_R_isAsTold_L4 hZ hR (by omega) hN hRm N N v0 1 1 (R_facts v0) (R_pile v0) (R_state v0) q16 h17 ?_
  show AW Z 0 0 101 [none, some (.int q16.1), none, none, none] [] ([kR 0 (R_s_facts_pile_state v0 q16.2.1 q16.2.2.1 q16.2.2.2)] : List (List zE)).flatten
  refine AW.run hZ hRm [102] 400 ?_
  show AW Z 0 0 102 [none, some (.int q16.1), none, none, none] [.int q16.1] ([kR 0 (R_s_facts_pile_state v0 q16.2.1 q16.2.2.1 q16.2.2.2)] : List (List zE)).flatten
  obtain ⟨b18, hf⟩ := zneedP hf
  cases hf
  exact AW.iret hZ hE rfl rfl rfl (znarZ b18) (Nat.le_refl 0) (Nat.le_refl 0) rfl ⟨rfl, rfl⟩
def f_R_findFitting_L7 (N : Nat) : Nat → VR → Int32 → (Nat → Int32) → (Nat → Int32) → (Nat → Int32) → (Nat → Int32) → Int32 → Option ((Nat → Int32) × (Nat → Int32) × (Nat → Int32) × (Nat → Int32) × Int32)
  | 0, _, _, _, _, _, _, _ => none
  | fuel + 1, v0, x1, m_facts0, m_pile1, m_state2, m_fits3, m_fitting4 => (if ((R_lotsMany v0) ≤ x1) then (some (m_facts0, m_pile1, m_state2, m_fits3, m_fitting4)) else ((f_R_copies N (R_s_facts_pile_state_fits_fitting v0 m_facts0 m_pile1 m_state2 m_fits3 m_fitting4) 0 1584 46).bind (fun q2 => ((f_R_leaves N (R_s_facts_pile_state_fits_fitting v0 m_facts0 m_pile1 q2 m_fits3 m_fitting4) 1584 x1).bind (fun q3 => ((f_R_isAsTold N (R_s_facts_pile_state_fits_fitting v0 m_facts0 m_pile1 q3 m_fits3 m_fitting4)).bind (fun q4 => (if (x1 < 0 ∨ 265 ≤ Int32.toNatClampNeg x1) then none else (zlet ((upd m_fits3 (Int32.toNatClampNeg x1) (vp_nar .boolean q4.1)) : (Nat → Int32)) (fun z5 => (if (x1 < 0 ∨ 265 ≤ Int32.toNatClampNeg x1) then none else (f_R_findFitting_L7 N fuel v0 (x1 + 1) q4.2.1 q4.2.2.1 q4.2.2.2 z5 (m_fitting4 + (if ((z5 (Int32.toNatClampNeg x1)) = 0) then 0 else 1))))))))))))))
def f_R_findFitting (N : Nat) (v0 : VR) : Option ((Nat → Int32) × (Nat → Int32) × (Nat → Int32) × (Nat → Int32) × Int32) := ((f_R_findFitting_L7 N N (R_fitting_s v0 0) 0 (R_facts v0) (R_pile v0) (R_state v0) (R_fits v0) 0).bind (fun q13 => (some (q13.1, q13.2.1, q13.2.2.1, q13.2.2.2.1, q13.2.2.2.2))))
set_option maxRecDepth 20000 in
set_option maxHeartbeats 4000000 in
theorem c_R_findFitting_L7 {Z : zCtx} {D n0w nf mcw msw : Nat} (hZ : zOk Z zMX12_findFitting) (hR : zCan Z D mcw msw) (hDd : 6 ≤ D) (hN : zNew Z n0w nf) (hRm : zRoom Z 0 0) (N : Nat) : ∀ (fuel : Nat) (v0 : VR) (x1 : Int32) (m_facts0 : (Nat → Int32)) (m_pile1 : (Nat → Int32)) (m_state2 : (Nat → Int32)) (m_fits3 : (Nat → Int32)) (m_fitting4 : Int32) (q : ((Nat → Int32) × (Nat → Int32) × (Nat → Int32) × (Nat → Int32) × Int32)), f_R_findFitting_L7 N fuel v0 x1 m_facts0 m_pile1 m_state2 m_fits3 m_fitting4 = some q → (AW Z 0 0 72 [none, none] [] ([kR 0 (R_s_facts_pile_state_fits_fitting v0 q.1 q.2.1 q.2.2.1 q.2.2.2.1 q.2.2.2.2)] : List (List zE)).flatten) → AW Z 0 0 7 [some (.ref 0), some (.int x1)] [] ([kR 0 (R_s_facts_pile_state_fits_fitting v0 m_facts0 m_pile1 m_state2 m_fits3 m_fitting4)] : List (List zE)).flatten := by
  intro fuel
  induction fuel with
  | zero =>
    intro v0 x1 m_facts0 m_pile1 m_state2 m_fits3 m_fitting4 q hf hk0
    simp [f_R_findFitting_L7] at hf
  | succ fuel ih =>
    intro v0 x1 m_facts0 m_pile1 m_state2 m_fits3 m_fitting4 q hf hk0
    rw [f_R_findFitting_L7] at hf
    refine AW.run hZ hRm [22, 72] 400 ?_
    show ((((R_lotsMany v0) ≤ x1) → AW Z 0 0 72 [some (.ref 0), some (.int x1)] [] ([kR 0 (R_s_facts_pile_state_fits_fitting v0 m_facts0 m_pile1 m_state2 m_fits3 m_fitting4)] : List (List zE)).flatten) ∧ (¬ ((R_lotsMany v0) ≤ x1) → AW Z 0 0 22 [some (.ref 0), some (.int x1)] [.int 46, .int 1584, .int 0, .ref 0] ([kR 0 (R_s_facts_pile_state_fits_fitting v0 m_facts0 m_pile1 m_state2 m_fits3 m_fitting4)] : List (List zE)).flatten))
    refine ⟨fun c1 => ?_, fun c1 => ?_⟩
    · rw [if_pos c1] at hf
      cases hf
      refine AW.forget [false, false] ?_
      show AW Z 0 0 72 [none, none] [] ([kR 0 (R_s_facts_pile_state_fits_fitting v0 m_facts0 m_pile1 m_state2 m_fits3 m_fitting4)] : List (List zE)).flatten
      exact hk0
    · rw [if_neg c1] at hf
      obtain ⟨q2, h12, hf⟩ := zbind hf
      refine AW.callVc hZ hR hN (c_R_copies N (R_s_facts_pile_state_fits_fitting v0 m_facts0 m_pile1 m_state2 m_fits3 m_fitting4) 0 1584 46 q2 h12) zMX12_copies_ok rfl rfl zK_BorrowedLivesModel_309 zV_X12_copies rfl [25] [0] [0, 1, 2, 3, 4, 5, 6, 7, 8, 9, 10, 11, 12, 13, 14, 15, 16, 17, 18, 19, 20, 21, 22, 23, 24] rfl rfl rfl (by decide) (by decide) (by omega) (by decide) (Nat.zero_le _) (Nat.zero_le _) rfl rfl rfl rfl rfl ?_
      rintro v cc ⟨rfl, rfl⟩
      refine ⟨_, rfl, rfl, ?_⟩
      show AW Z 0 0 25 [some (.ref 0), some (.int x1)] [] ([kR 0 (R_s_facts_pile_state_fits_fitting v0 m_facts0 m_pile1 q2 m_fits3 m_fitting4)] : List (List zE)).flatten
      refine AW.run hZ hRm [30] 400 ?_
      show AW Z 0 0 30 [some (.ref 0), some (.int x1)] [.int x1, .int 1584, .ref 0] ([kR 0 (R_s_facts_pile_state_fits_fitting v0 m_facts0 m_pile1 q2 m_fits3 m_fitting4)] : List (List zE)).flatten
      obtain ⟨q3, h11, hf⟩ := zbind hf
      refine AW.callVc hZ hR hN (c_R_leaves N (R_s_facts_pile_state_fits_fitting v0 m_facts0 m_pile1 q2 m_fits3 m_fitting4) 1584 x1 q3 h11) zMX12_leaves_ok rfl rfl zK_BorrowedLivesModel_387 zV_X12_leaves rfl [25] [0] [0, 1, 2, 3, 4, 5, 6, 7, 8, 9, 10, 11, 12, 13, 14, 15, 16, 17, 18, 19, 20, 21, 22, 23, 24] rfl rfl rfl (by decide) (by decide) (by omega) (by decide) (Nat.zero_le _) (Nat.zero_le _) rfl rfl rfl rfl rfl ?_
      rintro v cc ⟨rfl, rfl⟩
      refine ⟨_, rfl, rfl, ?_⟩
      show AW Z 0 0 33 [some (.ref 0), some (.int x1)] [] ([kR 0 (R_s_facts_pile_state_fits_fitting v0 m_facts0 m_pile1 q3 m_fits3 m_fitting4)] : List (List zE)).flatten
      refine AW.run hZ hRm [39] 400 ?_
      show AW Z 0 0 39 [some (.ref 0), some (.int x1)] [.ref 0, .int x1, .ref 24] ([kR 0 (R_s_facts_pile_state_fits_fitting v0 m_facts0 m_pile1 q3 m_fits3 m_fitting4)] : List (List zE)).flatten
      obtain ⟨q4, h10, hf⟩ := zbind hf
      refine AW.callVc hZ hR hN (c_R_isAsTold N (R_s_facts_pile_state_fits_fitting v0 m_facts0 m_pile1 q3 m_fits3 m_fitting4) q4 h10) zMX12_isAsTold_ok rfl rfl zK_BorrowedLivesModel_450 zV_X12_isAsTold rfl [25] [0] [0, 1, 2, 3, 4, 5, 6, 7, 8, 9, 10, 11, 12, 13, 14, 15, 16, 17, 18, 19, 20, 21, 22, 23, 24] rfl rfl rfl (by decide) (by decide) (by omega) (by decide) (Nat.zero_le _) (Nat.zero_le _) rfl rfl rfl rfl rfl ?_
      rintro v cc ⟨rfl, rfl⟩
      refine ⟨_, rfl, rfl, ?_⟩
      show AW Z 0 0 42 [some (.ref 0), some (.int x1)] [.int q4.1, .int x1, .ref 24] ([kR 0 (R_s_facts_pile_state_fits_fitting v0 q4.2.1 q4.2.2.1 q4.2.2.2 m_fits3 m_fitting4)] : List (List zE)).flatten
      refine AW.run hZ hRm [43] 400 ?_
      show (¬ (x1 < 0 ∨ 265 ≤ Int32.toNatClampNeg x1) ∧ AW Z 0 0 43 [some (.ref 0), some (.int x1)] [] ([kR 0 (R_s_facts_pile_state_fits_fitting v0 q4.2.1 q4.2.2.1 q4.2.2.2 (upd m_fits3 (Int32.toNatClampNeg x1) (vp_nar .boolean q4.1)) m_fitting4)] : List (List zE)).flatten)
      obtain ⟨b9, hf⟩ := zneed hf
      refine ⟨b9, ?_⟩
      replace hf := zlet_gen hf
      generalize ((upd m_fits3 (Int32.toNatClampNeg x1) (vp_nar .boolean q4.1)) : (Nat → Int32)) = z5 at hf ⊢
      as_aux_lemma =>
        refine AW.run hZ hRm [54] 400 ?_
        show (¬ (x1 < 0 ∨ 265 ≤ Int32.toNatClampNeg x1) ∧ AW Z 0 0 54 [some (.ref 0), some (.int x1)] [.int (z5 (Int32.toNatClampNeg x1)), .int m_fitting4, .ref 0] ([kR 0 (R_s_facts_pile_state_fits_fitting v0 q4.2.1 q4.2.2.1 q4.2.2.2 z5 m_fitting4)] : List (List zE)).flatten)
        obtain ⟨b8, hf⟩ := zneed hf
        refine ⟨b8, ?_⟩
        suffices H6 : AW Z 0 0 62 [some (.ref 0), some (.int x1)] [.int (if ((z5 (Int32.toNatClampNeg x1)) = 0) then 0 else 1), .int m_fitting4, .ref 0] ([kR 0 (R_s_facts_pile_state_fits_fitting v0 q4.2.1 q4.2.2.1 q4.2.2.2 z5 m_fitting4)] : List (List zE)).flatten from by
          refine AW.run hZ hRm [62] 400 ?_
          show ((((z5 (Int32.toNatClampNeg x1)) = 0) → AW Z 0 0 62 [some (.ref 0), some (.int x1)] [.int 0, .int m_fitting4, .ref 0] ([kR 0 (R_s_facts_pile_state_fits_fitting v0 q4.2.1 q4.2.2.1 q4.2.2.2 z5 m_fitting4)] : List (List zE)).flatten) ∧ (¬ ((z5 (Int32.toNatClampNeg x1)) = 0) → AW Z 0 0 62 [some (.ref 0), some (.int x1)] [.int 1, .int m_fitting4, .ref 0] ([kR 0 (R_s_facts_pile_state_fits_fitting v0 q4.2.1 q4.2.2.1 q4.2.2.2 z5 m_fitting4)] : List (List zE)).flatten))
          refine ⟨fun c7 => ?_, fun c7 => ?_⟩
          · simpa only [if_pos c7] using H6
          · simpa only [if_neg c7] using H6
        refine AW.run hZ hRm [7] 400 ?_
        show AW Z 0 0 7 [some (.ref 0), some (.int (x1 + 1))] [] ([kR 0 (R_s_facts_pile_state_fits_fitting v0 q4.2.1 q4.2.2.1 q4.2.2.2 z5 (m_fitting4 + (if ((z5 (Int32.toNatClampNeg x1)) = 0) then 0 else 1)))] : List (List zE)).flatten
        exact ih v0 (x1 + 1) q4.2.1 q4.2.2.1 q4.2.2.2 z5 (m_fitting4 + (if ((z5 (Int32.toNatClampNeg x1)) = 0) then 0 else 1)) q hf hk0
set_option maxRecDepth 20000 in
set_option maxHeartbeats 4000000 in
theorem c_R_findFitting (N : Nat) (v0 : VR) (R : (Nat → Int32) × (Nat → Int32) × (Nat → Int32) × (Nat → Int32) × Int32) (hf : f_R_findFitting N v0 = some R) : Ct zMX12_findFitting 6 0 0 0 [.ref 0] ([kR 0 v0] : List (List zE)).flatten (fun v cc => v = none ∧ cc = ([kR 0 (R_s_facts_pile_state_fits_fitting v0 R.1 R.2.1 R.2.2.1 R.2.2.2.1 R.2.2.2.2)] : List (List zE)).flatten) := by
  refine Ct.of zMX12_findFitting_ok (by decide) (Nat.le_of_ble_eq_true rfl) ?_
  intro Z hZ hR hN hE
  have hRm : zRoom Z 0 0 := zRoom0 Z
  unfold f_R_findFitting at hf
  show AW Z 0 0 0 [some (.ref 0), none] [] ([kR 0 v0] : List (List zE)).flatten
  refine AW.run hZ hRm [7] 400 ?_
  show AW Z 0 0 7 [some (.ref 0), some (.int 0)] [] ([kR 0 (R_fitting_s v0 0)] : List (List zE)).flatten
  obtain ⟨q13, h14, hf⟩ := zbind hf
  refine c_R_findFitting_L7 hZ hR (by omega) hN hRm N N (R_fitting_s v0 0) 0 (R_facts v0) (R_pile v0) (R_state v0) (R_fits v0) 0 q13 h14 ?_
  show AW Z 0 0 72 [none, none] [] ([kR 0 (R_s_facts_pile_state_fits_fitting v0 q13.1 q13.2.1 q13.2.2.1 q13.2.2.2.1 q13.2.2.2.2)] : List (List zE)).flatten
  cases hf
  exact AW.vret hZ hE rfl rfl rfl (Nat.le_refl 0) (Nat.le_refl 0) rfl ⟨rfl, rfl⟩
def f_R_findPurses_L30 (N : Nat) : Nat → VR → Int32 → Int32 → Int32 → (Nat → Int32) → (Nat → Int32) → (Nat → Int32) → Option ((Nat → Int32) × (Nat → Int32) × (Nat → Int32))
  | 0, _, _, _, _, _, _, _ => none
  | fuel + 1, v0, y1, y2, x3, m_facts0, m_pile1, m_state2 => (if (y1 ≤ x3) then (some (m_facts0, m_pile1, m_state2)) else ((f_R_passes N (R_s_facts_pile_state v0 m_facts0 m_pile1 m_state2) 1584).bind (fun q5 => (f_R_findPurses_L30 N fuel v0 y1 y2 (x3 + 1) q5.1 q5.2.1 q5.2.2))))
def f_R_findPurses_L50 (N : Nat) : Nat → VR → Int32 → Int32 → Int32 → (Nat → Int32) → Option ((Nat → Int32))
  | 0, _, _, _, _, _ => none
  | fuel + 1, v0, y1, y2, x3, m_purses0 => ((f_R_people N (R_purses_s v0 m_purses0)).bind (fun q9 => (if (q9 ≤ x3) then (some m_purses0) else (if ((1588 + x3) < 0 ∨ 1656 ≤ Int32.toNatClampNeg (1588 + x3)) then none else (if (((6 * y2) + x3) < 0 ∨ 1590 ≤ Int32.toNatClampNeg ((6 * y2) + x3)) then none else (zlet ((upd m_purses0 (Int32.toNatClampNeg ((6 * y2) + x3)) ((R_state v0) (Int32.toNatClampNeg (1588 + x3)))) : (Nat → Int32)) (fun z11 => (f_R_findPurses_L50 N fuel v0 y1 y2 (x3 + 1) z11))))))))
def f_R_findPurses_L2 (N : Nat) : Nat → VR → Int32 → Int32 → (Nat → Int32) → (Nat → Int32) → (Nat → Int32) → (Nat → Int32) → Option ((Nat → Int32) × (Nat → Int32) × (Nat → Int32) × (Nat → Int32))
  | 0, _, _, _, _, _, _, _ => none
  | fuel + 1, v0, y1, x2, m_facts0, m_pile1, m_state2, m_purses3 => (if ((R_lotsMany v0) ≤ x2) then (some (m_facts0, m_pile1, m_state2, m_purses3)) else ((f_R_copies N (R_s_facts_pile_state_purses v0 m_facts0 m_pile1 m_state2 m_purses3) 0 1584 46).bind (fun q2 => ((f_R_leaves N (R_s_facts_pile_state_purses v0 m_facts0 m_pile1 q2 m_purses3) 1584 x2).bind (fun q3 => ((f_R_findPurses_L30 N N (R_s_facts_pile_state_purses v0 m_facts0 m_pile1 q3 m_purses3) y1 x2 0 m_facts0 m_pile1 q3).bind (fun q7 => ((f_R_findPurses_L50 N N (R_s_facts_pile_state_purses v0 q7.1 q7.2.1 q7.2.2 m_purses3) y1 x2 0 m_purses3).bind (fun q15 => (f_R_findPurses_L2 N fuel v0 y1 (x2 + 1) q7.1 q7.2.1 q7.2.2 q15))))))))))
def f_R_findPurses (N : Nat) (v0 : VR) (a1 : Int32) : Option ((Nat → Int32) × (Nat → Int32) × (Nat → Int32) × (Nat → Int32)) := ((f_R_findPurses_L2 N N v0 a1 0 (R_facts v0) (R_pile v0) (R_state v0) (R_purses v0)).bind (fun q19 => (some (q19.1, q19.2.1, q19.2.2.1, q19.2.2.2))))
set_option maxRecDepth 20000 in
set_option maxHeartbeats 4000000 in
theorem c_R_findPurses_L30 {Z : zCtx} {D n0w nf mcw msw : Nat} (hZ : zOk Z zMX12_findPurses) (hR : zCan Z D mcw msw) (hDd : 5 ≤ D) (hN : zNew Z n0w nf) (hRm : zRoom Z 0 0) (N : Nat) : ∀ (fuel : Nat) (v0 : VR) (y1 : Int32) (y2 : Int32) (x3 : Int32) (m_facts0 : (Nat → Int32)) (m_pile1 : (Nat → Int32)) (m_state2 : (Nat → Int32)) (q : ((Nat → Int32) × (Nat → Int32) × (Nat → Int32))), f_R_findPurses_L30 N fuel v0 y1 y2 x3 m_facts0 m_pile1 m_state2 = some q → (AW Z 0 0 48 [some (.ref 0), some (.int y1), some (.int y2), none] [] ([kR 0 (R_s_facts_pile_state v0 q.1 q.2.1 q.2.2)] : List (List zE)).flatten) → AW Z 0 0 30 [some (.ref 0), some (.int y1), some (.int y2), some (.int x3)] [] ([kR 0 (R_s_facts_pile_state v0 m_facts0 m_pile1 m_state2)] : List (List zE)).flatten := by
  intro fuel
  induction fuel with
  | zero =>
    intro v0 y1 y2 x3 m_facts0 m_pile1 m_state2 q hf hk0
    simp [f_R_findPurses_L30] at hf
  | succ fuel ih =>
    intro v0 y1 y2 x3 m_facts0 m_pile1 m_state2 q hf hk0
    rw [f_R_findPurses_L30] at hf
    refine AW.run hZ hRm [39, 48] 400 ?_
    show (((y1 ≤ x3) → AW Z 0 0 48 [some (.ref 0), some (.int y1), some (.int y2), some (.int x3)] [] ([kR 0 (R_s_facts_pile_state v0 m_facts0 m_pile1 m_state2)] : List (List zE)).flatten) ∧ (¬ (y1 ≤ x3) → AW Z 0 0 39 [some (.ref 0), some (.int y1), some (.int y2), some (.int x3)] [.int 1584, .ref 0] ([kR 0 (R_s_facts_pile_state v0 m_facts0 m_pile1 m_state2)] : List (List zE)).flatten))
    refine ⟨fun c4 => ?_, fun c4 => ?_⟩
    · rw [if_pos c4] at hf
      cases hf
      refine AW.forget [true, true, true, false] ?_
      show AW Z 0 0 48 [some (.ref 0), some (.int y1), some (.int y2), none] [] ([kR 0 (R_s_facts_pile_state v0 m_facts0 m_pile1 m_state2)] : List (List zE)).flatten
      exact hk0
    · rw [if_neg c4] at hf
      obtain ⟨q5, h6, hf⟩ := zbind hf
      refine AW.callVc hZ hR hN (c_R_passes N (R_s_facts_pile_state v0 m_facts0 m_pile1 m_state2) 1584 q5 h6) zMX12_passes_ok rfl rfl zK_BorrowedLivesModel_402 zV_X12_passes rfl [25] [0] [0, 1, 2, 3, 4, 5, 6, 7, 8, 9, 10, 11, 12, 13, 14, 15, 16, 17, 18, 19, 20, 21, 22, 23, 24] rfl rfl rfl (by decide) (by decide) (by omega) (by decide) (Nat.zero_le _) (Nat.zero_le _) rfl rfl rfl rfl rfl ?_
      rintro v cc ⟨rfl, rfl⟩
      refine ⟨_, rfl, rfl, ?_⟩
      show AW Z 0 0 42 [some (.ref 0), some (.int y1), some (.int y2), some (.int x3)] [] ([kR 0 (R_s_facts_pile_state v0 q5.1 q5.2.1 q5.2.2)] : List (List zE)).flatten
      refine AW.run hZ hRm [30] 400 ?_
      show AW Z 0 0 30 [some (.ref 0), some (.int y1), some (.int y2), some (.int (x3 + 1))] [] ([kR 0 (R_s_facts_pile_state v0 q5.1 q5.2.1 q5.2.2)] : List (List zE)).flatten
      exact ih v0 y1 y2 (x3 + 1) q5.1 q5.2.1 q5.2.2 q hf hk0
set_option maxRecDepth 20000 in
set_option maxHeartbeats 4000000 in
theorem c_R_findPurses_L50 {Z : zCtx} {D n0w nf mcw msw : Nat} (hZ : zOk Z zMX12_findPurses) (hR : zCan Z D mcw msw) (hDd : 5 ≤ D) (hN : zNew Z n0w nf) (hRm : zRoom Z 0 0) (N : Nat) : ∀ (fuel : Nat) (v0 : VR) (y1 : Int32) (y2 : Int32) (x3 : Int32) (m_purses0 : (Nat → Int32)) (q : ((Nat → Int32))), f_R_findPurses_L50 N fuel v0 y1 y2 x3 m_purses0 = some q → (AW Z 0 0 85 [some (.ref 0), some (.int y1), some (.int y2), none] [] ([kR 0 (R_purses_s v0 q)] : List (List zE)).flatten) → AW Z 0 0 50 [some (.ref 0), some (.int y1), some (.int y2), some (.int x3)] [] ([kR 0 (R_purses_s v0 m_purses0)] : List (List zE)).flatten := by
  intro fuel
  induction fuel with
  | zero =>
    intro v0 y1 y2 x3 m_purses0 q hf hk0
    simp [f_R_findPurses_L50] at hf
  | succ fuel ih =>
    intro v0 y1 y2 x3 m_purses0 q hf hk0
    rw [f_R_findPurses_L50] at hf
    refine AW.run hZ hRm [52] 400 ?_
    show AW Z 0 0 52 [some (.ref 0), some (.int y1), some (.int y2), some (.int x3)] [.ref 0, .int x3] ([kR 0 (R_purses_s v0 m_purses0)] : List (List zE)).flatten
    obtain ⟨q9, h14, hf⟩ := zbind hf
    refine AW.callVc hZ hR hN (c_R_people N (R_purses_s v0 m_purses0) q9 h14) zMX12_people_ok rfl rfl zK_BorrowedLivesModel_291 zV_X12_people rfl [25] [0] [0, 1, 2, 3, 4, 5, 6, 7, 8, 9, 10, 11, 12, 13, 14, 15, 16, 17, 18, 19, 20, 21, 22, 23, 24] rfl rfl rfl (by decide) (by decide) (by omega) (by decide) (Nat.zero_le _) (Nat.zero_le _) rfl rfl rfl rfl rfl ?_
    rintro v cc ⟨rfl, rfl⟩
    refine ⟨_, rfl, rfl, ?_⟩
    show AW Z 0 0 55 [some (.ref 0), some (.int y1), some (.int y2), some (.int x3)] [.int q9, .int x3] ([kR 0 (R_purses_s v0 m_purses0)] : List (List zE)).flatten
    refine AW.run hZ hRm [79, 85] 400 ?_
    show (((q9 ≤ x3) → AW Z 0 0 85 [some (.ref 0), some (.int y1), some (.int y2), some (.int x3)] [] ([kR 0 (R_purses_s v0 m_purses0)] : List (List zE)).flatten) ∧ (¬ (q9 ≤ x3) → (¬ ((1588 + x3) < 0 ∨ 1656 ≤ Int32.toNatClampNeg (1588 + x3)) ∧ (¬ (((6 * y2) + x3) < 0 ∨ 1590 ≤ Int32.toNatClampNeg ((6 * y2) + x3)) ∧ AW Z 0 0 79 [some (.ref 0), some (.int y1), some (.int y2), some (.int x3)] [] ([kR 0 (R_purses_s v0 (upd m_purses0 (Int32.toNatClampNeg ((6 * y2) + x3)) ((R_state v0) (Int32.toNatClampNeg (1588 + x3)))))] : List (List zE)).flatten))))
    refine ⟨fun c10 => ?_, fun c10 => ?_⟩
    · rw [if_pos c10] at hf
      cases hf
      refine AW.forget [true, true, true, false] ?_
      show AW Z 0 0 85 [some (.ref 0), some (.int y1), some (.int y2), none] [] ([kR 0 (R_purses_s v0 m_purses0)] : List (List zE)).flatten
      exact hk0
    · rw [if_neg c10] at hf
      obtain ⟨b13, hf⟩ := zneed hf
      refine ⟨b13, ?_⟩
      obtain ⟨b12, hf⟩ := zneed hf
      refine ⟨b12, ?_⟩
      replace hf := zlet_gen hf
      generalize ((upd m_purses0 (Int32.toNatClampNeg ((6 * y2) + x3)) ((R_state v0) (Int32.toNatClampNeg (1588 + x3)))) : (Nat → Int32)) = z11 at hf ⊢
      as_aux_lemma =>
        refine AW.run hZ hRm [50] 400 ?_
        show AW Z 0 0 50 [some (.ref 0), some (.int y1), some (.int y2), some (.int (x3 + 1))] [] ([kR 0 (R_purses_s v0 z11)] : List (List zE)).flatten
        exact ih v0 y1 y2 (x3 + 1) z11 q hf hk0
set_option maxRecDepth 20000 in
set_option maxHeartbeats 4000000 in
theorem c_R_findPurses_L2 {Z : zCtx} {D n0w nf mcw msw : Nat} (hZ : zOk Z zMX12_findPurses) (hR : zCan Z D mcw msw) (hDd : 5 ≤ D) (hN : zNew Z n0w nf) (hRm : zRoom Z 0 0) (N : Nat) : ∀ (fuel : Nat) (v0 : VR) (y1 : Int32) (x2 : Int32) (m_facts0 : (Nat → Int32)) (m_pile1 : (Nat → Int32)) (m_state2 : (Nat → Int32)) (m_purses3 : (Nat → Int32)) (q : ((Nat → Int32) × (Nat → Int32) × (Nat → Int32) × (Nat → Int32))), f_R_findPurses_L2 N fuel v0 y1 x2 m_facts0 m_pile1 m_state2 m_purses3 = some q → (AW Z 0 0 91 [none, none, none, none] [] ([kR 0 (R_s_facts_pile_state_purses v0 q.1 q.2.1 q.2.2.1 q.2.2.2)] : List (List zE)).flatten) → AW Z 0 0 2 [some (.ref 0), some (.int y1), some (.int x2), none] [] ([kR 0 (R_s_facts_pile_state_purses v0 m_facts0 m_pile1 m_state2 m_purses3)] : List (List zE)).flatten := by
  intro fuel
  induction fuel with
  | zero =>
    intro v0 y1 x2 m_facts0 m_pile1 m_state2 m_purses3 q hf hk0
    simp [f_R_findPurses_L2] at hf
  | succ fuel ih =>
    intro v0 y1 x2 m_facts0 m_pile1 m_state2 m_purses3 q hf hk0
    rw [f_R_findPurses_L2] at hf
    refine AW.run hZ hRm [17, 91] 400 ?_
    show ((((R_lotsMany v0) ≤ x2) → AW Z 0 0 91 [some (.ref 0), some (.int y1), some (.int x2), none] [] ([kR 0 (R_s_facts_pile_state_purses v0 m_facts0 m_pile1 m_state2 m_purses3)] : List (List zE)).flatten) ∧ (¬ ((R_lotsMany v0) ≤ x2) → AW Z 0 0 17 [some (.ref 0), some (.int y1), some (.int x2), none] [.int 46, .int 1584, .int 0, .ref 0] ([kR 0 (R_s_facts_pile_state_purses v0 m_facts0 m_pile1 m_state2 m_purses3)] : List (List zE)).flatten))
    refine ⟨fun c1 => ?_, fun c1 => ?_⟩
    · rw [if_pos c1] at hf
      cases hf
      refine AW.forget [false, false, false, false] ?_
      show AW Z 0 0 91 [none, none, none, none] [] ([kR 0 (R_s_facts_pile_state_purses v0 m_facts0 m_pile1 m_state2 m_purses3)] : List (List zE)).flatten
      exact hk0
    · rw [if_neg c1] at hf
      obtain ⟨q2, h18, hf⟩ := zbind hf
      refine AW.callVc hZ hR hN (c_R_copies N (R_s_facts_pile_state_purses v0 m_facts0 m_pile1 m_state2 m_purses3) 0 1584 46 q2 h18) zMX12_copies_ok rfl rfl zK_BorrowedLivesModel_309 zV_X12_copies rfl [25] [0] [0, 1, 2, 3, 4, 5, 6, 7, 8, 9, 10, 11, 12, 13, 14, 15, 16, 17, 18, 19, 20, 21, 22, 23, 24] rfl rfl rfl (by decide) (by decide) (by omega) (by decide) (Nat.zero_le _) (Nat.zero_le _) rfl rfl rfl rfl rfl ?_
      rintro v cc ⟨rfl, rfl⟩
      refine ⟨_, rfl, rfl, ?_⟩
      show AW Z 0 0 20 [some (.ref 0), some (.int y1), some (.int x2), none] [] ([kR 0 (R_s_facts_pile_state_purses v0 m_facts0 m_pile1 q2 m_purses3)] : List (List zE)).flatten
      refine AW.run hZ hRm [25] 400 ?_
      show AW Z 0 0 25 [some (.ref 0), some (.int y1), some (.int x2), none] [.int x2, .int 1584, .ref 0] ([kR 0 (R_s_facts_pile_state_purses v0 m_facts0 m_pile1 q2 m_purses3)] : List (List zE)).flatten
      obtain ⟨q3, h17, hf⟩ := zbind hf
      refine AW.callVc hZ hR hN (c_R_leaves N (R_s_facts_pile_state_purses v0 m_facts0 m_pile1 q2 m_purses3) 1584 x2 q3 h17) zMX12_leaves_ok rfl rfl zK_BorrowedLivesModel_387 zV_X12_leaves rfl [25] [0] [0, 1, 2, 3, 4, 5, 6, 7, 8, 9, 10, 11, 12, 13, 14, 15, 16, 17, 18, 19, 20, 21, 22, 23, 24] rfl rfl rfl (by decide) (by decide) (by omega) (by decide) (Nat.zero_le _) (Nat.zero_le _) rfl rfl rfl rfl rfl ?_
      rintro v cc ⟨rfl, rfl⟩
      refine ⟨_, rfl, rfl, ?_⟩
      show AW Z 0 0 28 [some (.ref 0), some (.int y1), some (.int x2), none] [] ([kR 0 (R_s_facts_pile_state_purses v0 m_facts0 m_pile1 q3 m_purses3)] : List (List zE)).flatten
      refine AW.run hZ hRm [30] 400 ?_
      show AW Z 0 0 30 [some (.ref 0), some (.int y1), some (.int x2), some (.int 0)] [] ([kR 0 (R_s_facts_pile_state_purses v0 m_facts0 m_pile1 q3 m_purses3)] : List (List zE)).flatten
      obtain ⟨q7, h8, hf⟩ := zbind hf
      refine c_R_findPurses_L30 hZ hR (by omega) hN hRm N N (R_s_facts_pile_state_purses v0 m_facts0 m_pile1 q3 m_purses3) y1 x2 0 m_facts0 m_pile1 q3 q7 h8 ?_
      show AW Z 0 0 48 [some (.ref 0), some (.int y1), some (.int x2), none] [] ([kR 0 (R_s_facts_pile_state_purses v0 q7.1 q7.2.1 q7.2.2 m_purses3)] : List (List zE)).flatten
      refine AW.run hZ hRm [50] 400 ?_
      show AW Z 0 0 50 [some (.ref 0), some (.int y1), some (.int x2), some (.int 0)] [] ([kR 0 (R_s_facts_pile_state_purses v0 q7.1 q7.2.1 q7.2.2 m_purses3)] : List (List zE)).flatten
      obtain ⟨q15, h16, hf⟩ := zbind hf
      refine c_R_findPurses_L50 hZ hR (by omega) hN hRm N N (R_s_facts_pile_state_purses v0 q7.1 q7.2.1 q7.2.2 m_purses3) y1 x2 0 m_purses3 q15 h16 ?_
      show AW Z 0 0 85 [some (.ref 0), some (.int y1), some (.int x2), none] [] ([kR 0 (R_s_facts_pile_state_purses v0 q7.1 q7.2.1 q7.2.2 q15)] : List (List zE)).flatten
      refine AW.run hZ hRm [2] 400 ?_
      show AW Z 0 0 2 [some (.ref 0), some (.int y1), some (.int (x2 + 1)), none] [] ([kR 0 (R_s_facts_pile_state_purses v0 q7.1 q7.2.1 q7.2.2 q15)] : List (List zE)).flatten
      exact ih v0 y1 (x2 + 1) q7.1 q7.2.1 q7.2.2 q15 q hf hk0
set_option maxRecDepth 20000 in
set_option maxHeartbeats 4000000 in
theorem c_R_findPurses (N : Nat) (v0 : VR) (a1 : Int32) (R : (Nat → Int32) × (Nat → Int32) × (Nat → Int32) × (Nat → Int32)) (hf : f_R_findPurses N v0 a1 = some R) : Ct zMX12_findPurses 5 0 0 0 [.ref 0, .int a1] ([kR 0 v0] : List (List zE)).flatten (fun v cc => v = none ∧ cc = ([kR 0 (R_s_facts_pile_state_purses v0 R.1 R.2.1 R.2.2.1 R.2.2.2)] : List (List zE)).flatten) := by
  refine Ct.of zMX12_findPurses_ok (by decide) (Nat.le_of_ble_eq_true rfl) ?_
  intro Z hZ hR hN hE
  have hRm : zRoom Z 0 0 := zRoom0 Z
  unfold f_R_findPurses at hf
  show AW Z 0 0 0 [some (.ref 0), some (.int a1), none, none] [] ([kR 0 v0] : List (List zE)).flatten
  refine AW.run hZ hRm [2] 400 ?_
  show AW Z 0 0 2 [some (.ref 0), some (.int a1), some (.int 0), none] [] ([kR 0 v0] : List (List zE)).flatten
  obtain ⟨q19, h20, hf⟩ := zbind hf
  refine c_R_findPurses_L2 hZ hR (by omega) hN hRm N N v0 a1 0 (R_facts v0) (R_pile v0) (R_state v0) (R_purses v0) q19 h20 ?_
  show AW Z 0 0 91 [none, none, none, none] [] ([kR 0 (R_s_facts_pile_state_purses v0 q19.1 q19.2.1 q19.2.2.1 q19.2.2.2)] : List (List zE)).flatten
  cases hf
  exact AW.vret hZ hE rfl rfl rfl (Nat.le_refl 0) (Nat.le_refl 0) rfl ⟨rfl, rfl⟩
def f_R_how (N : Nat) (v0 : VR) : Option (Int32 × Int32 × (Nat → Int32) × (Nat → Int32) × (Nat → Int32) × (Nat → Int32) × Int32) := ((f_R_findFitting N (R_thrown_s v0 0)).bind (fun q1 => (some (q1.2.2.2.2, 0, q1.1, q1.2.1, q1.2.2.1, q1.2.2.2.1, q1.2.2.2.2))))
set_option maxRecDepth 20000 in
set_option maxHeartbeats 4000000 in
theorem c_R_how (N : Nat) (v0 : VR) (R : Int32 × Int32 × (Nat → Int32) × (Nat → Int32) × (Nat → Int32) × (Nat → Int32) × Int32) (hf : f_R_how N v0 = some R) : Ct zMX12_how 7 0 0 0 [.ref 0] ([kR 0 v0] : List (List zE)).flatten (fun v cc => v = some (.int R.1) ∧ cc = ([kR 0 (R_s_thrown_facts_pile_state_fits_fitting v0 R.2.1 R.2.2.1 R.2.2.2.1 R.2.2.2.2.1 R.2.2.2.2.2.1 R.2.2.2.2.2.2)] : List (List zE)).flatten) := by
  refine Ct.of zMX12_how_ok (by decide) (Nat.le_of_ble_eq_true rfl) ?_
  intro Z hZ hR hN hE
  have hRm : zRoom Z 0 0 := zRoom0 Z
  unfold f_R_how at hf
  show AW Z 0 0 0 [some (.ref 0)] [] ([kR 0 v0] : List (List zE)).flatten
  refine AW.run hZ hRm [6] 400 ?_
  show AW Z 0 0 6 [some (.ref 0)] [.ref 0] ([kR 0 (R_thrown_s v0 0)] : List (List zE)).flatten
  obtain ⟨q1, h2, hf⟩ := zbind hf
  refine AW.callVc hZ hR hN (c_R_findFitting N (R_thrown_s v0 0) q1 h2) zMX12_findFitting_ok rfl rfl zK_BorrowedLivesModel_453 zV_X12_findFitting rfl [25] [0] [0, 1, 2, 3, 4, 5, 6, 7, 8, 9, 10, 11, 12, 13, 14, 15, 16, 17, 18, 19, 20, 21, 22, 23, 24] rfl rfl rfl (by decide) (by decide) (by omega) (by decide) (Nat.zero_le _) (Nat.zero_le _) rfl rfl rfl rfl rfl ?_
  rintro v cc ⟨rfl, rfl⟩
  refine ⟨_, rfl, rfl, ?_⟩
  show AW Z 0 0 9 [some (.ref 0)] [] ([kR 0 (R_s_thrown_facts_pile_state_fits_fitting v0 0 q1.1 q1.2.1 q1.2.2.1 q1.2.2.2.1 q1.2.2.2.2)] : List (List zE)).flatten
  refine AW.run hZ hRm [13] 400 ?_
  show AW Z 0 0 13 [some (.ref 0)] [.int q1.2.2.2.2] ([kR 0 (R_s_thrown_facts_pile_state_fits_fitting v0 0 q1.1 q1.2.1 q1.2.2.1 q1.2.2.2.1 q1.2.2.2.2)] : List (List zE)).flatten
  cases hf
  exact AW.iret hZ hE rfl rfl rfl rfl (Nat.le_refl 0) (Nat.le_refl 0) rfl ⟨rfl, rfl⟩
def f_R_who_L26 (N : Nat) : Nat → VR → Int32 → Int32 → Int32 → Int32 → Option (Int32 × Int32)
  | 0, _, _, _, _, _ => none
  | fuel + 1, v0, y1, x2, x3, x4 => (if ((R_lotsMany v0) ≤ x4) then (some (x2, x3)) else (if (x4 < 0 ∨ 265 ≤ Int32.toNatClampNeg x4) then none else (if (((R_fits v0) (Int32.toNatClampNeg x4)) = 0) then (f_R_who_L26 N fuel v0 y1 x2 x3 (x4 + 1)) else (if (x3 = 0) then ((f_R_selfOf N v0 x4 y1).bind (fun q7 => (f_R_who_L26 N fuel v0 y1 q7 0 (x4 + 1)))) else (if (x2 < 0) then ((f_R_selfOf N v0 x4 y1).bind (fun q10 => (f_R_who_L26 N fuel v0 y1 q10 1 (x4 + 1)))) else ((f_R_selfOf N v0 x4 y1).bind (fun q12 => ((f_R_selfOf N v0 x4 y1).bind (fun q15 => (f_R_who_L26 N fuel v0 y1 q15 (if (q12 = x2) then 1 else 0) (x4 + 1)))))))))))
def f_R_who (N : Nat) (v0 : VR) (a1 : Int32) : Option (Int32 × Int32 × (Nat → Int32) × (Nat → Int32) × (Nat → Int32) × (Nat → Int32) × Int32) := ((f_R_isPerson N (R_thrown_s v0 0) a1).bind (fun q1 => (if (q1 = 0) then (some ((-1), 0, (R_facts v0), (R_pile v0), (R_state v0), (R_fits v0), (R_fitting v0))) else ((f_R_findFitting N (R_thrown_s v0 0)).bind (fun q3 => ((f_R_who_L26 N N (R_s_thrown_facts_pile_state_fits_fitting v0 0 q3.1 q3.2.1 q3.2.2.1 q3.2.2.2.1 q3.2.2.2.2) a1 (-1) 1 0).bind (fun q19 => (if (q19.2 = 0) then (some ((-1), 0, q3.1, q3.2.1, q3.2.2.1, q3.2.2.2.1, q3.2.2.2.2)) else (some (q19.1, 0, q3.1, q3.2.1, q3.2.2.1, q3.2.2.2.1, q3.2.2.2.2))))))))))
set_option maxRecDepth 20000 in
set_option maxHeartbeats 4000000 in
theorem c_R_who_L26 {Z : zCtx} {D n0w nf mcw msw : Nat} (hZ : zOk Z zMX12_who) (hR : zCan Z D mcw msw) (hDd : 7 ≤ D) (hN : zNew Z n0w nf) (hRm : zRoom Z 0 0) (N : Nat) : ∀ (fuel : Nat) (v0 : VR) (y1 : Int32) (x2 : Int32) (x3 : Int32) (x4 : Int32) (q : (Int32 × Int32)), f_R_who_L26 N fuel v0 y1 x2 x3 x4 = some q → (AW Z 0 0 84 [none, none, some (.int q.1), some (.int q.2), none] [] ([kR 0 v0] : List (List zE)).flatten) → AW Z 0 0 26 [some (.ref 0), some (.int y1), some (.int x2), some (.int x3), some (.int x4)] [] ([kR 0 v0] : List (List zE)).flatten := by
  intro fuel
  induction fuel with
  | zero =>
    intro v0 y1 x2 x3 x4 q hf hk0
    simp [f_R_who_L26] at hf
  | succ fuel ih =>
    intro v0 y1 x2 x3 x4 q hf hk0
    rw [f_R_who_L26] at hf
    refine AW.run hZ hRm [26, 57, 74, 84] 400 ?_
    show ((((R_lotsMany v0) ≤ x4) → AW Z 0 0 84 [some (.ref 0), some (.int y1), some (.int x2), some (.int x3), some (.int x4)] [] ([kR 0 v0] : List (List zE)).flatten) ∧ (¬ ((R_lotsMany v0) ≤ x4) → (¬ (x4 < 0 ∨ 265 ≤ Int32.toNatClampNeg x4) ∧ (((((R_fits v0) (Int32.toNatClampNeg x4)) = 0) → AW Z 0 0 26 [some (.ref 0), some (.int y1), some (.int x2), some (.int x3), some (.int (x4 + 1))] [] ([kR 0 v0] : List (List zE)).flatten) ∧ (¬ (((R_fits v0) (Int32.toNatClampNeg x4)) = 0) → (((x3 = 0) → AW Z 0 0 74 [some (.ref 0), some (.int y1), some (.int x2), some (.int 0), some (.int x4)] [.int y1, .int x4, .ref 0] ([kR 0 v0] : List (List zE)).flatten) ∧ (¬ (x3 = 0) → (((x2 < 0) → AW Z 0 0 74 [some (.ref 0), some (.int y1), some (.int x2), some (.int 1), some (.int x4)] [.int y1, .int x4, .ref 0] ([kR 0 v0] : List (List zE)).flatten) ∧ (¬ (x2 < 0) → AW Z 0 0 57 [some (.ref 0), some (.int y1), some (.int x2), some (.int x3), some (.int x4)] [.int y1, .int x4, .ref 0] ([kR 0 v0] : List (List zE)).flatten)))))))))
    refine ⟨fun c4 => ?_, fun c4 => ?_⟩
    · rw [if_pos c4] at hf
      cases hf
      refine AW.forget [false, false, true, true, false] ?_
      show AW Z 0 0 84 [none, none, some (.int x2), some (.int x3), none] [] ([kR 0 v0] : List (List zE)).flatten
      exact hk0
    · rw [if_neg c4] at hf
      obtain ⟨b18, hf⟩ := zneed hf
      refine ⟨b18, ?_⟩
      refine ⟨fun c5 => ?_, fun c5 => ?_⟩
      · rw [if_pos c5] at hf
        exact ih v0 y1 x2 x3 (x4 + 1) q hf hk0
      · rw [if_neg c5] at hf
        refine ⟨fun c6 => ?_, fun c6 => ?_⟩
        · rw [if_pos c6] at hf
          obtain ⟨q7, h8, hf⟩ := zbind hf
          refine AW.callVc hZ hR hN (c_R_selfOf N v0 x4 y1 q7 h8) zMX12_selfOf_ok rfl rfl zK_BorrowedLivesModel_346 zV_X12_selfOf rfl [25] [0] [0, 1, 2, 3, 4, 5, 6, 7, 8, 9, 10, 11, 12, 13, 14, 15, 16, 17, 18, 19, 20, 21, 22, 23, 24] rfl rfl rfl (by decide) (by decide) (by omega) (by decide) (Nat.zero_le _) (Nat.zero_le _) rfl rfl rfl rfl rfl ?_
          rintro v cc ⟨rfl, rfl⟩
          refine ⟨_, rfl, rfl, ?_⟩
          show AW Z 0 0 77 [some (.ref 0), some (.int y1), some (.int x2), some (.int 0), some (.int x4)] [.int q7] ([kR 0 v0] : List (List zE)).flatten
          refine AW.run hZ hRm [26] 400 ?_
          show AW Z 0 0 26 [some (.ref 0), some (.int y1), some (.int q7), some (.int 0), some (.int (x4 + 1))] [] ([kR 0 v0] : List (List zE)).flatten
          exact ih v0 y1 q7 0 (x4 + 1) q hf hk0
        · rw [if_neg c6] at hf
          refine ⟨fun c9 => ?_, fun c9 => ?_⟩
          · rw [if_pos c9] at hf
            obtain ⟨q10, h11, hf⟩ := zbind hf
            refine AW.callVc hZ hR hN (c_R_selfOf N v0 x4 y1 q10 h11) zMX12_selfOf_ok rfl rfl zK_BorrowedLivesModel_346 zV_X12_selfOf rfl [25] [0] [0, 1, 2, 3, 4, 5, 6, 7, 8, 9, 10, 11, 12, 13, 14, 15, 16, 17, 18, 19, 20, 21, 22, 23, 24] rfl rfl rfl (by decide) (by decide) (by omega) (by decide) (Nat.zero_le _) (Nat.zero_le _) rfl rfl rfl rfl rfl ?_
            rintro v cc ⟨rfl, rfl⟩
            refine ⟨_, rfl, rfl, ?_⟩
            show AW Z 0 0 77 [some (.ref 0), some (.int y1), some (.int x2), some (.int 1), some (.int x4)] [.int q10] ([kR 0 v0] : List (List zE)).flatten
            refine AW.run hZ hRm [26] 400 ?_
            show AW Z 0 0 26 [some (.ref 0), some (.int y1), some (.int q10), some (.int 1), some (.int (x4 + 1))] [] ([kR 0 v0] : List (List zE)).flatten
            exact ih v0 y1 q10 1 (x4 + 1) q hf hk0
          · rw [if_neg c9] at hf
            obtain ⟨q12, h17, hf⟩ := zbind hf
            refine AW.callVc hZ hR hN (c_R_selfOf N v0 x4 y1 q12 h17) zMX12_selfOf_ok rfl rfl zK_BorrowedLivesModel_346 zV_X12_selfOf rfl [25] [0] [0, 1, 2, 3, 4, 5, 6, 7, 8, 9, 10, 11, 12, 13, 14, 15, 16, 17, 18, 19, 20, 21, 22, 23, 24] rfl rfl rfl (by decide) (by decide) (by omega) (by decide) (Nat.zero_le _) (Nat.zero_le _) rfl rfl rfl rfl rfl ?_
            rintro v cc ⟨rfl, rfl⟩
            refine ⟨_, rfl, rfl, ?_⟩
            show AW Z 0 0 60 [some (.ref 0), some (.int y1), some (.int x2), some (.int x3), some (.int x4)] [.int q12] ([kR 0 v0] : List (List zE)).flatten
            refine AW.run hZ hRm [61] 400 ?_
            show AW Z 0 0 61 [some (.ref 0), some (.int y1), some (.int x2), some (.int x3), some (.int x4)] [.int x2, .int q12] ([kR 0 v0] : List (List zE)).flatten
            suffices H13 : AW Z 0 0 69 [some (.ref 0), some (.int y1), none, none, some (.int x4)] [.int (if (q12 = x2) then 1 else 0)] ([kR 0 v0] : List (List zE)).flatten from by
              refine AW.run hZ hRm [69] 400 ?_
              show ((¬ (q12 = x2) → AW Z 0 0 69 [some (.ref 0), some (.int y1), some (.int x2), some (.int x3), some (.int x4)] [.int 0] ([kR 0 v0] : List (List zE)).flatten) ∧ ((q12 = x2) → AW Z 0 0 69 [some (.ref 0), some (.int y1), some (.int x2), some (.int x3), some (.int x4)] [.int 1] ([kR 0 v0] : List (List zE)).flatten))
              refine ⟨fun c14 => ?_, fun c14 => ?_⟩
              · refine AW.forget [true, true, false, false, true] ?_
                show AW Z 0 0 69 [some (.ref 0), some (.int y1), none, none, some (.int x4)] [.int 0] ([kR 0 v0] : List (List zE)).flatten
                simpa only [if_neg c14] using H13
              · refine AW.forget [true, true, false, false, true] ?_
                show AW Z 0 0 69 [some (.ref 0), some (.int y1), none, none, some (.int x4)] [.int 1] ([kR 0 v0] : List (List zE)).flatten
                simpa only [if_pos c14] using H13
            refine AW.run hZ hRm [74] 400 ?_
            show AW Z 0 0 74 [some (.ref 0), some (.int y1), none, some (.int (if (q12 = x2) then 1 else 0)), some (.int x4)] [.int y1, .int x4, .ref 0] ([kR 0 v0] : List (List zE)).flatten
            obtain ⟨q15, h16, hf⟩ := zbind hf
            refine AW.callVc hZ hR hN (c_R_selfOf N v0 x4 y1 q15 h16) zMX12_selfOf_ok rfl rfl zK_BorrowedLivesModel_346 zV_X12_selfOf rfl [25] [0] [0, 1, 2, 3, 4, 5, 6, 7, 8, 9, 10, 11, 12, 13, 14, 15, 16, 17, 18, 19, 20, 21, 22, 23, 24] rfl rfl rfl (by decide) (by decide) (by omega) (by decide) (Nat.zero_le _) (Nat.zero_le _) rfl rfl rfl rfl rfl ?_
            rintro v cc ⟨rfl, rfl⟩
            refine ⟨_, rfl, rfl, ?_⟩
            show AW Z 0 0 77 [some (.ref 0), some (.int y1), none, some (.int (if (q12 = x2) then 1 else 0)), some (.int x4)] [.int q15] ([kR 0 v0] : List (List zE)).flatten
            refine AW.run hZ hRm [26] 400 ?_
            show AW Z 0 0 26 [some (.ref 0), some (.int y1), some (.int q15), some (.int (if (q12 = x2) then 1 else 0)), some (.int (x4 + 1))] [] ([kR 0 v0] : List (List zE)).flatten
            exact ih v0 y1 q15 (if (q12 = x2) then 1 else 0) (x4 + 1) q hf hk0
set_option maxRecDepth 20000 in
set_option maxHeartbeats 4000000 in
theorem c_R_who (N : Nat) (v0 : VR) (a1 : Int32) (R : Int32 × Int32 × (Nat → Int32) × (Nat → Int32) × (Nat → Int32) × (Nat → Int32) × Int32) (hf : f_R_who N v0 a1 = some R) : Ct zMX12_who 7 0 0 0 [.ref 0, .int a1] ([kR 0 v0] : List (List zE)).flatten (fun v cc => v = some (.int R.1) ∧ cc = ([kR 0 (R_s_thrown_facts_pile_state_fits_fitting v0 R.2.1 R.2.2.1 R.2.2.2.1 R.2.2.2.2.1 R.2.2.2.2.2.1 R.2.2.2.2.2.2)] : List (List zE)).flatten) := by
  refine Ct.of zMX12_who_ok (by decide) (Nat.le_of_ble_eq_true rfl) ?_
  intro Z hZ hR hN hE
  have hRm : zRoom Z 0 0 := zRoom0 Z
  unfold f_R_who at hf
  show AW Z 0 0 0 [some (.ref 0), some (.int a1), none, none, none] [] ([kR 0 v0] : List (List zE)).flatten
  refine AW.run hZ hRm [7] 400 ?_
  show AW Z 0 0 7 [some (.ref 0), some (.int a1), none, none, none] [.int a1, .ref 0] ([kR 0 (R_thrown_s v0 0)] : List (List zE)).flatten
  obtain ⟨q1, h23, hf⟩ := zbind hf
  refine AW.callVc hZ hR hN (c_R_isPerson N (R_thrown_s v0 0) a1 q1 h23) zMX12_isPerson_ok rfl rfl zK_BorrowedLivesModel_356 zV_X12_isPerson rfl [25] [0] [0, 1, 2, 3, 4, 5, 6, 7, 8, 9, 10, 11, 12, 13, 14, 15, 16, 17, 18, 19, 20, 21, 22, 23, 24] rfl rfl rfl (by decide) (by decide) (by omega) (by decide) (Nat.zero_le _) (Nat.zero_le _) rfl rfl rfl rfl rfl ?_
  rintro v cc ⟨rfl, rfl⟩
  refine ⟨_, rfl, rfl, ?_⟩
  show AW Z 0 0 10 [some (.ref 0), some (.int a1), none, none, none] [.int q1] ([kR 0 (R_thrown_s v0 0)] : List (List zE)).flatten
  refine AW.run hZ hRm [14, 16] 400 ?_
  show ((¬ (q1 = 0) → AW Z 0 0 16 [some (.ref 0), some (.int a1), none, none, none] [.ref 0] ([kR 0 (R_thrown_s v0 0)] : List (List zE)).flatten) ∧ ((q1 = 0) → AW Z 0 0 14 [some (.ref 0), some (.int a1), none, none, none] [.int (-1)] ([kR 0 (R_thrown_s v0 0)] : List (List zE)).flatten))
  refine ⟨fun c2 => ?_, fun c2 => ?_⟩
  · rw [if_neg c2] at hf
    obtain ⟨q3, h22, hf⟩ := zbind hf
    refine AW.callVc hZ hR hN (c_R_findFitting N (R_thrown_s v0 0) q3 h22) zMX12_findFitting_ok rfl rfl zK_BorrowedLivesModel_453 zV_X12_findFitting rfl [25] [0] [0, 1, 2, 3, 4, 5, 6, 7, 8, 9, 10, 11, 12, 13, 14, 15, 16, 17, 18, 19, 20, 21, 22, 23, 24] rfl rfl rfl (by decide) (by decide) (by omega) (by decide) (Nat.zero_le _) (Nat.zero_le _) rfl rfl rfl rfl rfl ?_
    rintro v cc ⟨rfl, rfl⟩
    refine ⟨_, rfl, rfl, ?_⟩
    show AW Z 0 0 19 [some (.ref 0), some (.int a1), none, none, none] [] ([kR 0 (R_s_thrown_facts_pile_state_fits_fitting v0 0 q3.1 q3.2.1 q3.2.2.1 q3.2.2.2.1 q3.2.2.2.2)] : List (List zE)).flatten
    refine AW.run hZ hRm [26] 400 ?_
    show AW Z 0 0 26 [some (.ref 0), some (.int a1), some (.int (-1)), some (.int 1), some (.int 0)] [] ([kR 0 (R_s_thrown_facts_pile_state_fits_fitting v0 0 q3.1 q3.2.1 q3.2.2.1 q3.2.2.2.1 q3.2.2.2.2)] : List (List zE)).flatten
    obtain ⟨q19, h20, hf⟩ := zbind hf
    refine c_R_who_L26 hZ hR (by omega) hN hRm N N (R_s_thrown_facts_pile_state_fits_fitting v0 0 q3.1 q3.2.1 q3.2.2.1 q3.2.2.2.1 q3.2.2.2.2) a1 (-1) 1 0 q19 h20 ?_
    show AW Z 0 0 84 [none, none, some (.int q19.1), some (.int q19.2), none] [] ([kR 0 (R_s_thrown_facts_pile_state_fits_fitting v0 0 q3.1 q3.2.1 q3.2.2.1 q3.2.2.2.1 q3.2.2.2.2)] : List (List zE)).flatten
    refine AW.run hZ hRm [93] 400 ?_
    show (((q19.2 = 0) → AW Z 0 0 93 [none, none, some (.int q19.1), some (.int q19.2), none] [.int (-1)] ([kR 0 (R_s_thrown_facts_pile_state_fits_fitting v0 0 q3.1 q3.2.1 q3.2.2.1 q3.2.2.2.1 q3.2.2.2.2)] : List (List zE)).flatten) ∧ (¬ (q19.2 = 0) → AW Z 0 0 93 [none, none, some (.int q19.1), some (.int q19.2), none] [.int q19.1] ([kR 0 (R_s_thrown_facts_pile_state_fits_fitting v0 0 q3.1 q3.2.1 q3.2.2.1 q3.2.2.2.1 q3.2.2.2.2)] : List (List zE)).flatten))
    refine ⟨fun c21 => ?_, fun c21 => ?_⟩
    · rw [if_pos c21] at hf
      cases hf
      exact AW.iret hZ hE rfl rfl rfl rfl (Nat.le_refl 0) (Nat.le_refl 0) rfl ⟨rfl, rfl⟩
    · rw [if_neg c21] at hf
      cases hf
      exact AW.iret hZ hE rfl rfl rfl rfl (Nat.le_refl 0) (Nat.le_refl 0) rfl ⟨rfl, rfl⟩
  · rw [if_pos c2] at hf
    cases hf
    exact AW.iret hZ hE rfl rfl rfl rfl (Nat.le_refl 0) (Nat.le_refl 0) rfl ⟨rfl, rfl⟩
