def f_R_greatestAlike_L18 (N : Nat) : Nat → VR → Int32 → Int32 → Int32 → Int32 → Int32 → Option (Int32)
  | 0, _, _, _, _, _, _ => none
  | fuel + 1, v0, y1, y2, y3, x4, x5 => (if ((R_lotsMany v0) ≤ x5) then (some x4) else (if (y3 < 0 ∨ 265 ≤ Int32.toNatClampNeg y3) then none else (if (((R_fits v0) (Int32.toNatClampNeg y3)) = 0) then (some x4) else (if (x5 < 0 ∨ 265 ≤ Int32.toNatClampNeg x5) then none else (if (((R_fits v0) (Int32.toNatClampNeg x5)) = 0) then (f_R_greatestAlike_L18 N fuel v0 y1 y2 y3 (x4 + 0) (x5 + 1)) else (if (((6 * x5) + y1) < 0 ∨ 1590 ≤ Int32.toNatClampNeg ((6 * x5) + y1)) then none else (if (((6 * y3) + y1) < 0 ∨ 1590 ≤ Int32.toNatClampNeg ((6 * y3) + y1)) then none else (zlet ((if (((R_purses v0) (Int32.toNatClampNeg ((6 * x5) + y1))) = ((R_purses v0) (Int32.toNatClampNeg ((6 * y3) + y1)))) then 1 else 0) : Int32) (fun z7 => (f_R_greatestAlike_L18 N fuel v0 y1 y2 y3 (x4 + z7) (x5 + 1)))))))))))
def f_R_greatestAlike_L4 (N : Nat) : Nat → VR → Int32 → Int32 → Int32 → Option (Int32)
  | 0, _, _, _, _ => none
  | fuel + 1, v0, y1, x2, x3 => (if ((R_lotsMany v0) ≤ x3) then (some x2) else ((f_R_greatestAlike_L18 N N v0 y1 x2 x3 0 0).bind (fun q12 => (f_R_greatestAlike_L4 N fuel v0 y1 (if (q12 ≤ x2) then x2 else q12) (x3 + 1)))))
def f_R_greatestAlike (N : Nat) (v0 : VR) (a1 : Int32) : Option (Int32) := ((f_R_greatestAlike_L4 N N v0 a1 0 0).bind (fun q16 => (some q16)))
set_option maxRecDepth 20000 in
set_option maxHeartbeats 4000000 in
theorem c_R_greatestAlike_L18 {Z : zCtx} {D n0w nf mcw msw : Nat} (hZ : zOk Z zMX12_greatestAlike) (hR : zCan Z D mcw msw) (hDd : 1 ≤ D) (hN : zNew Z n0w nf) (hRm : zRoom Z 0 0) (N : Nat) : ∀ (fuel : Nat) (v0 : VR) (y1 : Int32) (y2 : Int32) (y3 : Int32) (x4 : Int32) (x5 : Int32) (q : (Int32)), f_R_greatestAlike_L18 N fuel v0 y1 y2 y3 x4 x5 = some q → (AW Z 0 0 88 [some (.ref 0), some (.int y1), some (.int y2), some (.int y3), some (.int q), none] [] ([kR 0 v0] : List (List zE)).flatten) → AW Z 0 0 18 [some (.ref 0), some (.int y1), some (.int y2), some (.int y3), some (.int x4), some (.int x5)] [] ([kR 0 v0] : List (List zE)).flatten := by
  intro fuel
  induction fuel with
  | zero =>
    intro v0 y1 y2 y3 x4 x5 q hf hk0
    simp [f_R_greatestAlike_L18] at hf
  | succ fuel ih =>
    intro v0 y1 y2 y3 x4 x5 q hf hk0
    rw [f_R_greatestAlike_L18] at hf
    refine AW.run hZ hRm [18, 71, 88] 400 ?_
    show ((((R_lotsMany v0) ≤ x5) → AW Z 0 0 88 [some (.ref 0), some (.int y1), some (.int y2), some (.int y3), some (.int x4), some (.int x5)] [] ([kR 0 v0] : List (List zE)).flatten) ∧ (¬ ((R_lotsMany v0) ≤ x5) → (¬ (y3 < 0 ∨ 265 ≤ Int32.toNatClampNeg y3) ∧ (((((R_fits v0) (Int32.toNatClampNeg y3)) = 0) → AW Z 0 0 88 [some (.ref 0), some (.int y1), some (.int y2), some (.int y3), some (.int x4), some (.int x5)] [] ([kR 0 v0] : List (List zE)).flatten) ∧ (¬ (((R_fits v0) (Int32.toNatClampNeg y3)) = 0) → (¬ (x5 < 0 ∨ 265 ≤ Int32.toNatClampNeg x5) ∧ (((((R_fits v0) (Int32.toNatClampNeg x5)) = 0) → AW Z 0 0 18 [some (.ref 0), some (.int y1), some (.int y2), some (.int y3), some (.int (x4 + 0)), some (.int (x5 + 1))] [] ([kR 0 v0] : List (List zE)).flatten) ∧ (¬ (((R_fits v0) (Int32.toNatClampNeg x5)) = 0) → (¬ (((6 * x5) + y1) < 0 ∨ 1590 ≤ Int32.toNatClampNeg ((6 * x5) + y1)) ∧ (¬ (((6 * y3) + y1) < 0 ∨ 1590 ≤ Int32.toNatClampNeg ((6 * y3) + y1)) ∧ AW Z 0 0 71 [some (.ref 0), some (.int y1), some (.int y2), some (.int y3), some (.int x4), some (.int x5)] [.int ((R_purses v0) (Int32.toNatClampNeg ((6 * y3) + y1))), .int ((R_purses v0) (Int32.toNatClampNeg ((6 * x5) + y1))), .int x4] ([kR 0 v0] : List (List zE)).flatten))))))))))
    refine ⟨fun c2 => ?_, fun c2 => ?_⟩
    · rw [if_pos c2] at hf
      cases hf
      refine AW.forget [true, true, true, true, true, false] ?_
      show AW Z 0 0 88 [some (.ref 0), some (.int y1), some (.int y2), some (.int y3), some (.int x4), none] [] ([kR 0 v0] : List (List zE)).flatten
      exact hk0
    · rw [if_neg c2] at hf
      obtain ⟨b11, hf⟩ := zneed hf
      refine ⟨b11, ?_⟩
      refine ⟨fun c3 => ?_, fun c3 => ?_⟩
      · rw [if_pos c3] at hf
        cases hf
        refine AW.forget [true, true, true, true, true, false] ?_
        show AW Z 0 0 88 [some (.ref 0), some (.int y1), some (.int y2), some (.int y3), some (.int x4), none] [] ([kR 0 v0] : List (List zE)).flatten
        exact hk0
      · rw [if_neg c3] at hf
        obtain ⟨b10, hf⟩ := zneed hf
        refine ⟨b10, ?_⟩
        refine ⟨fun c4 => ?_, fun c4 => ?_⟩
        · rw [if_pos c4] at hf
          exact ih v0 y1 y2 y3 (x4 + 0) (x5 + 1) q hf hk0
        · rw [if_neg c4] at hf
          obtain ⟨b9, hf⟩ := zneed hf
          refine ⟨b9, ?_⟩
          obtain ⟨b8, hf⟩ := zneed hf
          refine ⟨b8, ?_⟩
          suffices H5 : AW Z 0 0 79 [some (.ref 0), some (.int y1), some (.int y2), some (.int y3), none, some (.int x5)] [.int (if (((R_purses v0) (Int32.toNatClampNeg ((6 * x5) + y1))) = ((R_purses v0) (Int32.toNatClampNeg ((6 * y3) + y1)))) then 1 else 0), .int x4] ([kR 0 v0] : List (List zE)).flatten from by
            refine AW.run hZ hRm [79] 400 ?_
            show ((¬ (((R_purses v0) (Int32.toNatClampNeg ((6 * x5) + y1))) = ((R_purses v0) (Int32.toNatClampNeg ((6 * y3) + y1)))) → AW Z 0 0 79 [some (.ref 0), some (.int y1), some (.int y2), some (.int y3), some (.int x4), some (.int x5)] [.int 0, .int x4] ([kR 0 v0] : List (List zE)).flatten) ∧ ((((R_purses v0) (Int32.toNatClampNeg ((6 * x5) + y1))) = ((R_purses v0) (Int32.toNatClampNeg ((6 * y3) + y1)))) → AW Z 0 0 79 [some (.ref 0), some (.int y1), some (.int y2), some (.int y3), some (.int x4), some (.int x5)] [.int 1, .int x4] ([kR 0 v0] : List (List zE)).flatten))
            refine ⟨fun c6 => ?_, fun c6 => ?_⟩
            · refine AW.forget [true, true, true, true, false, true] ?_
              show AW Z 0 0 79 [some (.ref 0), some (.int y1), some (.int y2), some (.int y3), none, some (.int x5)] [.int 0, .int x4] ([kR 0 v0] : List (List zE)).flatten
              simpa only [if_neg c6] using H5
            · refine AW.forget [true, true, true, true, false, true] ?_
              show AW Z 0 0 79 [some (.ref 0), some (.int y1), some (.int y2), some (.int y3), none, some (.int x5)] [.int 1, .int x4] ([kR 0 v0] : List (List zE)).flatten
              simpa only [if_pos c6] using H5
          replace hf := zlet_gen hf
          generalize ((if (((R_purses v0) (Int32.toNatClampNeg ((6 * x5) + y1))) = ((R_purses v0) (Int32.toNatClampNeg ((6 * y3) + y1)))) then 1 else 0) : Int32) = z7 at hf ⊢
          refine AW.run hZ hRm [18] 400 ?_
          show AW Z 0 0 18 [some (.ref 0), some (.int y1), some (.int y2), some (.int y3), some (.int (x4 + z7)), some (.int (x5 + 1))] [] ([kR 0 v0] : List (List zE)).flatten
          exact ih v0 y1 y2 y3 (x4 + z7) (x5 + 1) q hf hk0
set_option maxRecDepth 20000 in
set_option maxHeartbeats 4000000 in
theorem c_R_greatestAlike_L4 {Z : zCtx} {D n0w nf mcw msw : Nat} (hZ : zOk Z zMX12_greatestAlike) (hR : zCan Z D mcw msw) (hDd : 1 ≤ D) (hN : zNew Z n0w nf) (hRm : zRoom Z 0 0) (N : Nat) : ∀ (fuel : Nat) (v0 : VR) (y1 : Int32) (x2 : Int32) (x3 : Int32) (q : (Int32)), f_R_greatestAlike_L4 N fuel v0 y1 x2 x3 = some q → (AW Z 0 0 107 [none, none, some (.int q), none, none, none] [] ([kR 0 v0] : List (List zE)).flatten) → AW Z 0 0 4 [some (.ref 0), some (.int y1), some (.int x2), some (.int x3), none, none] [] ([kR 0 v0] : List (List zE)).flatten := by
  intro fuel
  induction fuel with
  | zero =>
    intro v0 y1 x2 x3 q hf hk0
    simp [f_R_greatestAlike_L4] at hf
  | succ fuel ih =>
    intro v0 y1 x2 x3 q hf hk0
    rw [f_R_greatestAlike_L4] at hf
    refine AW.run hZ hRm [18, 107] 400 ?_
    show ((((R_lotsMany v0) ≤ x3) → AW Z 0 0 107 [some (.ref 0), some (.int y1), some (.int x2), some (.int x3), none, none] [] ([kR 0 v0] : List (List zE)).flatten) ∧ (¬ ((R_lotsMany v0) ≤ x3) → AW Z 0 0 18 [some (.ref 0), some (.int y1), some (.int x2), some (.int x3), some (.int 0), some (.int 0)] [] ([kR 0 v0] : List (List zE)).flatten))
    refine ⟨fun c1 => ?_, fun c1 => ?_⟩
    · rw [if_pos c1] at hf
      cases hf
      refine AW.forget [false, false, true, false, false, false] ?_
      show AW Z 0 0 107 [none, none, some (.int x2), none, none, none] [] ([kR 0 v0] : List (List zE)).flatten
      exact hk0
    · rw [if_neg c1] at hf
      obtain ⟨q12, h13, hf⟩ := zbind hf
      refine c_R_greatestAlike_L18 hZ hR (by omega) hN hRm N N v0 y1 x2 x3 0 0 q12 h13 ?_
      show AW Z 0 0 88 [some (.ref 0), some (.int y1), some (.int x2), some (.int x3), some (.int q12), none] [] ([kR 0 v0] : List (List zE)).flatten
      refine AW.run hZ hRm [91] 400 ?_
      show AW Z 0 0 91 [some (.ref 0), some (.int y1), some (.int x2), some (.int x3), some (.int q12), none] [.int x2, .int q12] ([kR 0 v0] : List (List zE)).flatten
      suffices H14 : AW Z 0 0 100 [some (.ref 0), some (.int y1), none, some (.int x3), none, none] [.int (if (q12 ≤ x2) then x2 else q12)] ([kR 0 v0] : List (List zE)).flatten from by
        refine AW.run hZ hRm [100] 400 ?_
        show (((q12 ≤ x2) → AW Z 0 0 100 [some (.ref 0), some (.int y1), some (.int x2), some (.int x3), some (.int q12), none] [.int x2] ([kR 0 v0] : List (List zE)).flatten) ∧ (¬ (q12 ≤ x2) → AW Z 0 0 100 [some (.ref 0), some (.int y1), some (.int x2), some (.int x3), some (.int q12), none] [.int q12] ([kR 0 v0] : List (List zE)).flatten))
        refine ⟨fun c15 => ?_, fun c15 => ?_⟩
        · refine AW.forget [true, true, false, true, false, false] ?_
          show AW Z 0 0 100 [some (.ref 0), some (.int y1), none, some (.int x3), none, none] [.int x2] ([kR 0 v0] : List (List zE)).flatten
          simpa only [if_pos c15] using H14
        · refine AW.forget [true, true, false, true, false, false] ?_
          show AW Z 0 0 100 [some (.ref 0), some (.int y1), none, some (.int x3), none, none] [.int q12] ([kR 0 v0] : List (List zE)).flatten
          simpa only [if_neg c15] using H14
      refine AW.run hZ hRm [4] 400 ?_
      show AW Z 0 0 4 [some (.ref 0), some (.int y1), some (.int (if (q12 ≤ x2) then x2 else q12)), some (.int (x3 + 1)), none, none] [] ([kR 0 v0] : List (List zE)).flatten
      exact ih v0 y1 (if (q12 ≤ x2) then x2 else q12) (x3 + 1) q hf hk0
set_option maxRecDepth 20000 in
set_option maxHeartbeats 4000000 in
theorem c_R_greatestAlike (N : Nat) (v0 : VR) (a1 : Int32) (R : Int32) (hf : f_R_greatestAlike N v0 a1 = some R) : Ct zMX12_greatestAlike 1 0 0 0 [.ref 0, .int a1] ([kR 0 v0] : List (List zE)).flatten (fun v cc => v = some (.int R) ∧ cc = ([kR 0 v0] : List (List zE)).flatten) := by
  refine Ct.of zMX12_greatestAlike_ok (by decide) (Nat.le_of_ble_eq_true rfl) ?_
  intro Z hZ hR hN hE
  have hRm : zRoom Z 0 0 := zRoom0 Z
  unfold f_R_greatestAlike at hf
  show AW Z 0 0 0 [some (.ref 0), some (.int a1), none, none, none, none] [] ([kR 0 v0] : List (List zE)).flatten
  refine AW.run hZ hRm [4] 400 ?_
  show AW Z 0 0 4 [some (.ref 0), some (.int a1), some (.int 0), some (.int 0), none, none] [] ([kR 0 v0] : List (List zE)).flatten
  obtain ⟨q16, h17, hf⟩ := zbind hf
  refine c_R_greatestAlike_L4 hZ hR (by omega) hN hRm N N v0 a1 0 0 q16 h17 ?_
  show AW Z 0 0 107 [none, none, some (.int q16), none, none, none] [] ([kR 0 v0] : List (List zE)).flatten
  refine AW.run hZ hRm [108] 400 ?_
  show AW Z 0 0 108 [none, none, some (.int q16), none, none, none] [.int q16] ([kR 0 v0] : List (List zE)).flatten
  cases hf
  exact AW.iret hZ hE rfl rfl rfl rfl (Nat.le_refl 0) (Nat.le_refl 0) rfl ⟨rfl, rfl⟩
def f_R_ask_L32 (N : Nat) : Nat → VR → Int32 → Int32 → Int32 → Int32 → Option (Int32 × Int32)
  | 0, _, _, _, _, _ => none
  | fuel + 1, v0, y3, x1, x2, x4 => ((f_R_people N v0).bind (fun q4 => (if (q4 ≤ x4) then (some (x1, x2)) else ((f_R_greatestAlike N v0 x4).bind (fun q6 => (zlet ((if (q6 < x2) then 1 else (if (q6 = x2) then (if (x1 < 0) then 0 else (if (x1 ≤ ((8 * x4) + y3)) then 0 else 1)) else 0)) : Int32) (fun z12 => (f_R_ask_L32 N fuel v0 y3 (if (z12 = 0) then x1 else ((8 * x4) + y3)) (if (z12 = 0) then x2 else q6) (x4 + 1)))))))))
def f_R_ask_L18 (N : Nat) : Nat → VR → Int32 → Int32 → Int32 → (Nat → Int32) → (Nat → Int32) → (Nat → Int32) → (Nat → Int32) → Option (Int32 × (Nat → Int32) × (Nat → Int32) × (Nat → Int32) × (Nat → Int32))
  | 0, _, _, _, _, _, _, _, _ => none
  | fuel + 1, v0, x1, x2, x3, m_facts0, m_pile1, m_state2, m_purses3 => (if (7 < x3) then (some (x1, m_facts0, m_pile1, m_state2, m_purses3)) else ((f_R_findPurses N (R_s_facts_pile_state_purses v0 m_facts0 m_pile1 m_state2 m_purses3) x3).bind (fun q3 => ((f_R_ask_L32 N N (R_s_facts_pile_state_purses v0 q3.1 q3.2.1 q3.2.2.1 q3.2.2.2) x3 x1 x2 0).bind (fun q19 => (f_R_ask_L18 N fuel v0 q19.1 q19.2 (x3 + 1) q3.1 q3.2.1 q3.2.2.1 q3.2.2.2))))))
def f_R_ask (N : Nat) (v0 : VR) : Option (Int32 × Int32 × (Nat → Int32) × (Nat → Int32) × (Nat → Int32) × (Nat → Int32) × (Nat → Int32) × Int32) := ((f_R_findFitting N (R_thrown_s v0 0)).bind (fun q1 => ((f_R_ask_L18 N N (R_s_thrown_facts_pile_state_fits_fitting v0 0 q1.1 q1.2.1 q1.2.2.1 q1.2.2.2.1 q1.2.2.2.2) (-1) q1.2.2.2.2 1 q1.1 q1.2.1 q1.2.2.1 (R_purses v0)).bind (fun q22 => (some (q22.1, 0, q22.2.1, q22.2.2.1, q22.2.2.2.1, q22.2.2.2.2, q1.2.2.2.1, q1.2.2.2.2))))))
set_option maxRecDepth 20000 in
set_option maxHeartbeats 4000000 in
theorem c_R_ask_L32 {Z : zCtx} {D n0w nf mcw msw : Nat} (hZ : zOk Z zMX12_ask) (hR : zCan Z D mcw msw) (hDd : 7 ≤ D) (hN : zNew Z n0w nf) (hRm : zRoom Z 0 0) (N : Nat) : ∀ (fuel : Nat) (v0 : VR) (y3 : Int32) (x1 : Int32) (x2 : Int32) (x4 : Int32) (q : (Int32 × Int32)), f_R_ask_L32 N fuel v0 y3 x1 x2 x4 = some q → (AW Z 0 0 118 [some (.ref 0), some (.int q.1), some (.int q.2), some (.int y3), none, none, none] [] ([kR 0 v0] : List (List zE)).flatten) → AW Z 0 0 32 [some (.ref 0), some (.int x1), some (.int x2), some (.int y3), some (.int x4), none, none] [] ([kR 0 v0] : List (List zE)).flatten := by
  intro fuel
  induction fuel with
  | zero =>
    intro v0 y3 x1 x2 x4 q hf hk0
    simp [f_R_ask_L32] at hf
  | succ fuel ih =>
    intro v0 y3 x1 x2 x4 q hf hk0
    rw [f_R_ask_L32] at hf
    refine AW.run hZ hRm [35] 400 ?_
    show AW Z 0 0 35 [some (.ref 0), some (.int x1), some (.int x2), some (.int y3), some (.int x4), none, none] [.ref 0, .int x4] ([kR 0 v0] : List (List zE)).flatten
    obtain ⟨q4, h18, hf⟩ := zbind hf
    refine AW.callVc hZ hR hN (c_R_people N v0 q4 h18) zMX12_people_ok rfl rfl zK_BorrowedLivesModel_291 zV_X12_people rfl [25] [0] [0, 1, 2, 3, 4, 5, 6, 7, 8, 9, 10, 11, 12, 13, 14, 15, 16, 17, 18, 19, 20, 21, 22, 23, 24] rfl rfl rfl (by decide) (by decide) (by omega) (by decide) (Nat.zero_le _) (Nat.zero_le _) rfl rfl rfl rfl rfl ?_
    rintro v cc ⟨rfl, rfl⟩
    refine ⟨_, rfl, rfl, ?_⟩
    show AW Z 0 0 38 [some (.ref 0), some (.int x1), some (.int x2), some (.int y3), some (.int x4), none, none] [.int q4, .int x4] ([kR 0 v0] : List (List zE)).flatten
    refine AW.run hZ hRm [44, 118] 400 ?_
    show (((q4 ≤ x4) → AW Z 0 0 118 [some (.ref 0), some (.int x1), some (.int x2), some (.int y3), some (.int x4), none, none] [] ([kR 0 v0] : List (List zE)).flatten) ∧ (¬ (q4 ≤ x4) → AW Z 0 0 44 [some (.ref 0), some (.int x1), some (.int x2), some (.int y3), some (.int x4), none, none] [.int x4, .ref 0] ([kR 0 v0] : List (List zE)).flatten))
    refine ⟨fun c5 => ?_, fun c5 => ?_⟩
    · rw [if_pos c5] at hf
      cases hf
      refine AW.forget [true, true, true, true, false, false, false] ?_
      show AW Z 0 0 118 [some (.ref 0), some (.int x1), some (.int x2), some (.int y3), none, none, none] [] ([kR 0 v0] : List (List zE)).flatten
      exact hk0
    · rw [if_neg c5] at hf
      obtain ⟨q6, h17, hf⟩ := zbind hf
      refine AW.callVc hZ hR hN (c_R_greatestAlike N v0 x4 q6 h17) zMX12_greatestAlike_ok rfl rfl zK_BorrowedLivesModel_459 zV_X12_greatestAlike rfl [25] [0] [0, 1, 2, 3, 4, 5, 6, 7, 8, 9, 10, 11, 12, 13, 14, 15, 16, 17, 18, 19, 20, 21, 22, 23, 24] rfl rfl rfl (by decide) (by decide) (by omega) (by decide) (Nat.zero_le _) (Nat.zero_le _) rfl rfl rfl rfl rfl ?_
      rintro v cc ⟨rfl, rfl⟩
      refine ⟨_, rfl, rfl, ?_⟩
      show AW Z 0 0 47 [some (.ref 0), some (.int x1), some (.int x2), some (.int y3), some (.int x4), none, none] [.int q6] ([kR 0 v0] : List (List zE)).flatten
      refine AW.run hZ hRm [52] 400 ?_
      show AW Z 0 0 52 [some (.ref 0), some (.int x1), some (.int x2), some (.int y3), some (.int x4), some (.int q6), none] [.int x2, .int q6] ([kR 0 v0] : List (List zE)).flatten
      suffices H7 : AW Z 0 0 81 [some (.ref 0), some (.int x1), some (.int x2), some (.int y3), some (.int x4), some (.int q6), none] [.int (if (q6 < x2) then 1 else (if (q6 = x2) then (if (x1 < 0) then 0 else (if (x1 ≤ ((8 * x4) + y3)) then 0 else 1)) else 0))] ([kR 0 v0] : List (List zE)).flatten from by
        refine AW.run hZ hRm [81] 400 ?_
        show (((q6 < x2) → AW Z 0 0 81 [some (.ref 0), some (.int x1), some (.int x2), some (.int y3), some (.int x4), some (.int q6), none] [.int 1] ([kR 0 v0] : List (List zE)).flatten) ∧ (¬ (q6 < x2) → ((¬ (q6 = x2) → AW Z 0 0 81 [some (.ref 0), some (.int x1), some (.int x2), some (.int y3), some (.int x4), some (.int q6), none] [.int 0] ([kR 0 v0] : List (List zE)).flatten) ∧ ((q6 = x2) → (((x1 < 0) → AW Z 0 0 81 [some (.ref 0), some (.int x1), some (.int x2), some (.int y3), some (.int x4), some (.int q6), none] [.int 0] ([kR 0 v0] : List (List zE)).flatten) ∧ (¬ (x1 < 0) → (((x1 ≤ ((8 * x4) + y3)) → AW Z 0 0 81 [some (.ref 0), some (.int x1), some (.int x2), some (.int y3), some (.int x4), some (.int q6), none] [.int 0] ([kR 0 v0] : List (List zE)).flatten) ∧ (¬ (x1 ≤ ((8 * x4) + y3)) → AW Z 0 0 81 [some (.ref 0), some (.int x1), some (.int x2), some (.int y3), some (.int x4), some (.int q6), none] [.int 1] ([kR 0 v0] : List (List zE)).flatten))))))))
        refine ⟨fun c8 => ?_, fun c8 => ?_⟩
        · simpa only [if_pos c8] using H7
        · refine ⟨fun c9 => ?_, fun c9 => ?_⟩
          · simpa only [if_neg c8, if_neg c9] using H7
          · refine ⟨fun c10 => ?_, fun c10 => ?_⟩
            · simpa only [if_neg c8, if_pos c9, if_pos c10] using H7
            · refine ⟨fun c11 => ?_, fun c11 => ?_⟩
              · simpa only [if_neg c8, if_pos c9, if_neg c10, if_pos c11] using H7
              · simpa only [if_neg c8, if_pos c9, if_neg c10, if_neg c11] using H7
      replace hf := zlet_gen hf
      generalize ((if (q6 < x2) then 1 else (if (q6 = x2) then (if (x1 < 0) then 0 else (if (x1 ≤ ((8 * x4) + y3)) then 0 else 1)) else 0)) : Int32) = z12 at hf ⊢
      refine AW.run hZ hRm [85] 400 ?_
      show AW Z 0 0 85 [some (.ref 0), some (.int x1), some (.int x2), some (.int y3), some (.int x4), some (.int q6), some (.int z12)] [.int z12] ([kR 0 v0] : List (List zE)).flatten
      suffices H13 : AW Z 0 0 99 [some (.ref 0), none, some (.int x2), some (.int y3), some (.int x4), some (.int q6), some (.int z12)] [.int (if (z12 = 0) then x1 else ((8 * x4) + y3))] ([kR 0 v0] : List (List zE)).flatten from by
        refine AW.run hZ hRm [99] 400 ?_
        show (((z12 = 0) → AW Z 0 0 99 [some (.ref 0), some (.int x1), some (.int x2), some (.int y3), some (.int x4), some (.int q6), some (.int z12)] [.int x1] ([kR 0 v0] : List (List zE)).flatten) ∧ (¬ (z12 = 0) → AW Z 0 0 99 [some (.ref 0), some (.int x1), some (.int x2), some (.int y3), some (.int x4), some (.int q6), some (.int z12)] [.int ((8 * x4) + y3)] ([kR 0 v0] : List (List zE)).flatten))
        refine ⟨fun c14 => ?_, fun c14 => ?_⟩
        · refine AW.forget [true, false, true, true, true, true, true] ?_
          show AW Z 0 0 99 [some (.ref 0), none, some (.int x2), some (.int y3), some (.int x4), some (.int q6), some (.int z12)] [.int x1] ([kR 0 v0] : List (List zE)).flatten
          simpa only [if_pos c14] using H13
        · refine AW.forget [true, false, true, true, true, true, true] ?_
          show AW Z 0 0 99 [some (.ref 0), none, some (.int x2), some (.int y3), some (.int x4), some (.int q6), some (.int z12)] [.int ((8 * x4) + y3)] ([kR 0 v0] : List (List zE)).flatten
          simpa only [if_neg c14] using H13
      refine AW.run hZ hRm [102] 400 ?_
      show AW Z 0 0 102 [some (.ref 0), some (.int (if (z12 = 0) then x1 else ((8 * x4) + y3))), some (.int x2), some (.int y3), some (.int x4), some (.int q6), some (.int z12)] [.int z12] ([kR 0 v0] : List (List zE)).flatten
      suffices H15 : AW Z 0 0 111 [some (.ref 0), some (.int (if (z12 = 0) then x1 else ((8 * x4) + y3))), none, some (.int y3), some (.int x4), none, none] [.int (if (z12 = 0) then x2 else q6)] ([kR 0 v0] : List (List zE)).flatten from by
        refine AW.run hZ hRm [111] 400 ?_
        show (((z12 = 0) → AW Z 0 0 111 [some (.ref 0), some (.int (if (z12 = 0) then x1 else ((8 * x4) + y3))), some (.int x2), some (.int y3), some (.int x4), some (.int q6), some (.int z12)] [.int x2] ([kR 0 v0] : List (List zE)).flatten) ∧ (¬ (z12 = 0) → AW Z 0 0 111 [some (.ref 0), some (.int (if (z12 = 0) then x1 else ((8 * x4) + y3))), some (.int x2), some (.int y3), some (.int x4), some (.int q6), some (.int z12)] [.int q6] ([kR 0 v0] : List (List zE)).flatten))
        refine ⟨fun c16 => ?_, fun c16 => ?_⟩
        · refine AW.forget [true, true, false, true, true, false, false] ?_
          show AW Z 0 0 111 [some (.ref 0), some (.int (if (z12 = 0) then x1 else ((8 * x4) + y3))), none, some (.int y3), some (.int x4), none, none] [.int x2] ([kR 0 v0] : List (List zE)).flatten
          simpa only [if_pos c16] using H15
        · refine AW.forget [true, true, false, true, true, false, false] ?_
          show AW Z 0 0 111 [some (.ref 0), some (.int (if (z12 = 0) then x1 else ((8 * x4) + y3))), none, some (.int y3), some (.int x4), none, none] [.int q6] ([kR 0 v0] : List (List zE)).flatten
          simpa only [if_neg c16] using H15
      refine AW.run hZ hRm [32] 400 ?_
      show AW Z 0 0 32 [some (.ref 0), some (.int (if (z12 = 0) then x1 else ((8 * x4) + y3))), some (.int (if (z12 = 0) then x2 else q6)), some (.int y3), some (.int (x4 + 1)), none, none] [] ([kR 0 v0] : List (List zE)).flatten
      exact ih v0 y3 (if (z12 = 0) then x1 else ((8 * x4) + y3)) (if (z12 = 0) then x2 else q6) (x4 + 1) q hf hk0
set_option maxRecDepth 20000 in
set_option maxHeartbeats 4000000 in
theorem c_R_ask_L18 {Z : zCtx} {D n0w nf mcw msw : Nat} (hZ : zOk Z zMX12_ask) (hR : zCan Z D mcw msw) (hDd : 7 ≤ D) (hN : zNew Z n0w nf) (hRm : zRoom Z 0 0) (N : Nat) : ∀ (fuel : Nat) (v0 : VR) (x1 : Int32) (x2 : Int32) (x3 : Int32) (m_facts0 : (Nat → Int32)) (m_pile1 : (Nat → Int32)) (m_state2 : (Nat → Int32)) (m_purses3 : (Nat → Int32)) (q : (Int32 × (Nat → Int32) × (Nat → Int32) × (Nat → Int32) × (Nat → Int32))), f_R_ask_L18 N fuel v0 x1 x2 x3 m_facts0 m_pile1 m_state2 m_purses3 = some q → (AW Z 0 0 124 [none, some (.int q.1), none, none, none, none, none] [] ([kR 0 (R_s_facts_pile_state_purses v0 q.2.1 q.2.2.1 q.2.2.2.1 q.2.2.2.2)] : List (List zE)).flatten) → AW Z 0 0 18 [some (.ref 0), some (.int x1), some (.int x2), some (.int x3), none, none, none] [] ([kR 0 (R_s_facts_pile_state_purses v0 m_facts0 m_pile1 m_state2 m_purses3)] : List (List zE)).flatten := by
  intro fuel
  induction fuel with
  | zero =>
    intro v0 x1 x2 x3 m_facts0 m_pile1 m_state2 m_purses3 q hf hk0
    simp [f_R_ask_L18] at hf
  | succ fuel ih =>
    intro v0 x1 x2 x3 m_facts0 m_pile1 m_state2 m_purses3 q hf hk0
    rw [f_R_ask_L18] at hf
    refine AW.run hZ hRm [26, 124] 400 ?_
    show (((7 < x3) → AW Z 0 0 124 [some (.ref 0), some (.int x1), some (.int x2), some (.int x3), none, none, none] [] ([kR 0 (R_s_facts_pile_state_purses v0 m_facts0 m_pile1 m_state2 m_purses3)] : List (List zE)).flatten) ∧ (¬ (7 < x3) → AW Z 0 0 26 [some (.ref 0), some (.int x1), some (.int x2), some (.int x3), none, none, none] [.int x3, .ref 0] ([kR 0 (R_s_facts_pile_state_purses v0 m_facts0 m_pile1 m_state2 m_purses3)] : List (List zE)).flatten))
    refine ⟨fun c2 => ?_, fun c2 => ?_⟩
    · rw [if_pos c2] at hf
      cases hf
      refine AW.forget [false, true, false, false, false, false, false] ?_
      show AW Z 0 0 124 [none, some (.int x1), none, none, none, none, none] [] ([kR 0 (R_s_facts_pile_state_purses v0 m_facts0 m_pile1 m_state2 m_purses3)] : List (List zE)).flatten
      exact hk0
    · rw [if_neg c2] at hf
      obtain ⟨q3, h21, hf⟩ := zbind hf
      refine AW.callVc hZ hR hN (c_R_findPurses N (R_s_facts_pile_state_purses v0 m_facts0 m_pile1 m_state2 m_purses3) x3 q3 h21) zMX12_findPurses_ok rfl rfl zK_BorrowedLivesModel_456 zV_X12_findPurses rfl [25] [0] [0, 1, 2, 3, 4, 5, 6, 7, 8, 9, 10, 11, 12, 13, 14, 15, 16, 17, 18, 19, 20, 21, 22, 23, 24] rfl rfl rfl (by decide) (by decide) (by omega) (by decide) (Nat.zero_le _) (Nat.zero_le _) rfl rfl rfl rfl rfl ?_
      rintro v cc ⟨rfl, rfl⟩
      refine ⟨_, rfl, rfl, ?_⟩
      show AW Z 0 0 29 [some (.ref 0), some (.int x1), some (.int x2), some (.int x3), none, none, none] [] ([kR 0 (R_s_facts_pile_state_purses v0 q3.1 q3.2.1 q3.2.2.1 q3.2.2.2)] : List (List zE)).flatten
      refine AW.run hZ hRm [32] 400 ?_
      show AW Z 0 0 32 [some (.ref 0), some (.int x1), some (.int x2), some (.int x3), some (.int 0), none, none] [] ([kR 0 (R_s_facts_pile_state_purses v0 q3.1 q3.2.1 q3.2.2.1 q3.2.2.2)] : List (List zE)).flatten
      obtain ⟨q19, h20, hf⟩ := zbind hf
      refine c_R_ask_L32 hZ hR (by omega) hN hRm N N (R_s_facts_pile_state_purses v0 q3.1 q3.2.1 q3.2.2.1 q3.2.2.2) x3 x1 x2 0 q19 h20 ?_
      show AW Z 0 0 118 [some (.ref 0), some (.int q19.1), some (.int q19.2), some (.int x3), none, none, none] [] ([kR 0 (R_s_facts_pile_state_purses v0 q3.1 q3.2.1 q3.2.2.1 q3.2.2.2)] : List (List zE)).flatten
      refine AW.run hZ hRm [18] 400 ?_
      show AW Z 0 0 18 [some (.ref 0), some (.int q19.1), some (.int q19.2), some (.int (x3 + 1)), none, none, none] [] ([kR 0 (R_s_facts_pile_state_purses v0 q3.1 q3.2.1 q3.2.2.1 q3.2.2.2)] : List (List zE)).flatten
      exact ih v0 q19.1 q19.2 (x3 + 1) q3.1 q3.2.1 q3.2.2.1 q3.2.2.2 q hf hk0
set_option maxRecDepth 20000 in
set_option maxHeartbeats 4000000 in
theorem c_R_ask (N : Nat) (v0 : VR) (R : Int32 × Int32 × (Nat → Int32) × (Nat → Int32) × (Nat → Int32) × (Nat → Int32) × (Nat → Int32) × Int32) (hf : f_R_ask N v0 = some R) : Ct zMX12_ask 7 0 0 0 [.ref 0] ([kR 0 v0] : List (List zE)).flatten (fun v cc => v = some (.int R.1) ∧ cc = ([kR 0 (R_s_thrown_facts_pile_state_purses_fits_fitting v0 R.2.1 R.2.2.1 R.2.2.2.1 R.2.2.2.2.1 R.2.2.2.2.2.1 R.2.2.2.2.2.2.1 R.2.2.2.2.2.2.2)] : List (List zE)).flatten) := by
  refine Ct.of zMX12_ask_ok (by decide) (Nat.le_of_ble_eq_true rfl) ?_
  intro Z hZ hR hN hE
  have hRm : zRoom Z 0 0 := zRoom0 Z
  unfold f_R_ask at hf
  show AW Z 0 0 0 [some (.ref 0), none, none, none, none, none, none] [] ([kR 0 v0] : List (List zE)).flatten
  refine AW.run hZ hRm [6] 400 ?_
  show AW Z 0 0 6 [some (.ref 0), none, none, none, none, none, none] [.ref 0] ([kR 0 (R_thrown_s v0 0)] : List (List zE)).flatten
  obtain ⟨q1, h24, hf⟩ := zbind hf
  refine AW.callVc hZ hR hN (c_R_findFitting N (R_thrown_s v0 0) q1 h24) zMX12_findFitting_ok rfl rfl zK_BorrowedLivesModel_453 zV_X12_findFitting rfl [25] [0] [0, 1, 2, 3, 4, 5, 6, 7, 8, 9, 10, 11, 12, 13, 14, 15, 16, 17, 18, 19, 20, 21, 22, 23, 24] rfl rfl rfl (by decide) (by decide) (by omega) (by decide) (Nat.zero_le _) (Nat.zero_le _) rfl rfl rfl rfl rfl ?_
  rintro v cc ⟨rfl, rfl⟩
  refine ⟨_, rfl, rfl, ?_⟩
  show AW Z 0 0 9 [some (.ref 0), none, none, none, none, none, none] [] ([kR 0 (R_s_thrown_facts_pile_state_fits_fitting v0 0 q1.1 q1.2.1 q1.2.2.1 q1.2.2.2.1 q1.2.2.2.2)] : List (List zE)).flatten
  refine AW.run hZ hRm [18] 400 ?_
  show AW Z 0 0 18 [some (.ref 0), some (.int (-1)), some (.int q1.2.2.2.2), some (.int 1), none, none, none] [] ([kR 0 (R_s_thrown_facts_pile_state_fits_fitting v0 0 q1.1 q1.2.1 q1.2.2.1 q1.2.2.2.1 q1.2.2.2.2)] : List (List zE)).flatten
  obtain ⟨q22, h23, hf⟩ := zbind hf
  refine c_R_ask_L18 hZ hR (by omega) hN hRm N N (R_s_thrown_facts_pile_state_fits_fitting v0 0 q1.1 q1.2.1 q1.2.2.1 q1.2.2.2.1 q1.2.2.2.2) (-1) q1.2.2.2.2 1 q1.1 q1.2.1 q1.2.2.1 (R_purses v0) q22 h23 ?_
  show AW Z 0 0 124 [none, some (.int q22.1), none, none, none, none, none] [] ([kR 0 (R_s_thrown_facts_pile_state_purses_fits_fitting v0 0 q22.2.1 q22.2.2.1 q22.2.2.2.1 q22.2.2.2.2 q1.2.2.2.1 q1.2.2.2.2)] : List (List zE)).flatten
  refine AW.run hZ hRm [125] 400 ?_
  show AW Z 0 0 125 [none, some (.int q22.1), none, none, none, none, none] [.int q22.1] ([kR 0 (R_s_thrown_facts_pile_state_purses_fits_fitting v0 0 q22.2.1 q22.2.2.1 q22.2.2.2.1 q22.2.2.2.2 q1.2.2.2.1 q1.2.2.2.2)] : List (List zE)).flatten
  cases hf
  exact AW.iret hZ hE rfl rfl rfl rfl (Nat.le_refl 0) (Nat.le_refl 0) rfl ⟨rfl, rfl⟩
def f_R_caresFor (N : Nat) (a0 : Int32) (a1 : Int32) (a2 : Int32) (a3 : Int32) (a4 : Int32) : Option (Int32) := (some (((a0 * a4) + (a1 * (if (a4 ≤ a3) then a4 else a3))) - ((a2 * a3) * a3)))
set_option maxRecDepth 20000 in
set_option maxHeartbeats 4000000 in
theorem c_R_caresFor (N : Nat) (a0 : Int32) (a1 : Int32) (a2 : Int32) (a3 : Int32) (a4 : Int32) (R : Int32) (hf : f_R_caresFor N a0 a1 a2 a3 a4 = some R) : Ct zMX12_caresFor 1 0 0 0 [.int a0, .int a1, .int a2, .int a3, .int a4] ([] : List (List zE)).flatten (fun v cc => v = some (.int R) ∧ cc = ([] : List (List zE)).flatten) := by
  refine Ct.of zMX12_caresFor_ok (by decide) (Nat.le_of_ble_eq_true rfl) ?_
  intro Z hZ hR hN hE
  have hRm : zRoom Z 0 0 := zRoom0 Z
  unfold f_R_caresFor at hf
  show AW Z 0 0 0 [some (.int a0), some (.int a1), some (.int a2), some (.int a3), some (.int a4)] [] ([] : List (List zE)).flatten
  refine AW.run hZ hRm [8] 400 ?_
  show AW Z 0 0 8 [some (.int a0), some (.int a1), some (.int a2), some (.int a3), some (.int a4)] [.int a4, .int a3, .int a1, .int (a0 * a4)] ([] : List (List zE)).flatten
  suffices H1 : AW Z 0 0 17 [none, none, some (.int a2), some (.int a3), none] [.int (if (a4 ≤ a3) then a4 else a3), .int a1, .int (a0 * a4)] ([] : List (List zE)).flatten from by
    refine AW.run hZ hRm [17] 400 ?_
    show (((a4 ≤ a3) → AW Z 0 0 17 [some (.int a0), some (.int a1), some (.int a2), some (.int a3), some (.int a4)] [.int a4, .int a1, .int (a0 * a4)] ([] : List (List zE)).flatten) ∧ (¬ (a4 ≤ a3) → AW Z 0 0 17 [some (.int a0), some (.int a1), some (.int a2), some (.int a3), some (.int a4)] [.int a3, .int a1, .int (a0 * a4)] ([] : List (List zE)).flatten))
    refine ⟨fun c2 => ?_, fun c2 => ?_⟩
    · refine AW.forget [false, false, true, true, false] ?_
      show AW Z 0 0 17 [none, none, some (.int a2), some (.int a3), none] [.int a4, .int a1, .int (a0 * a4)] ([] : List (List zE)).flatten
      simpa only [if_pos c2] using H1
    · refine AW.forget [false, false, true, true, false] ?_
      show AW Z 0 0 17 [none, none, some (.int a2), some (.int a3), none] [.int a3, .int a1, .int (a0 * a4)] ([] : List (List zE)).flatten
      simpa only [if_neg c2] using H1
  refine AW.run hZ hRm [25] 400 ?_
  show AW Z 0 0 25 [none, none, some (.int a2), some (.int a3), none] [.int (((a0 * a4) + (a1 * (if (a4 ≤ a3) then a4 else a3))) - ((a2 * a3) * a3))] ([] : List (List zE)).flatten
  cases hf
  exact AW.iret hZ hE rfl rfl rfl rfl (Nat.le_refl 0) (Nat.le_refl 0) rfl ⟨rfl, rfl⟩
