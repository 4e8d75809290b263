def f_R_begins_L37 (N : Nat) : Nat → VR → Int32 → (Nat → Int32) → Option ((Nat → Int32))
  | 0, _, _, _ => none
  | fuel + 1, v0, x1, m_isMarked0 => (if (4 ≤ x1) then (some m_isMarked0) else (if (x1 < 0 ∨ 4 ≤ Int32.toNatClampNeg x1) then none else (zlet ((upd m_isMarked0 (Int32.toNatClampNeg x1) (vp_nar .boolean 0)) : (Nat → Int32)) (fun z5 => (f_R_begins_L37 N fuel v0 (x1 + 1) z5)))))
def f_R_begins (N : Nat) (v0 : VR) : Option ((Nat → Int32) × (Nat → Int32) × Int32 × (Nat → Int32) × Int32 × (Nat → Int32) × (Nat → Int32) × Int32) := ((f_R_starts N (R_signed_s v0 ((R_towns v0) (Int32.toNatClampNeg 2))) 0).bind (fun q1 => (zlet ((upd q1 (Int32.toNatClampNeg 46) 0) : (Nat → Int32)) (fun z2 => (zlet ((upd (R_lines v0) (Int32.toNatClampNeg 0) 0) : (Nat → Int32)) (fun z3 => ((f_R_begins_L37 N N (R_s_lines_state_undos_signed v0 z3 z2 0 ((R_towns v0) (Int32.toNatClampNeg 2))) 0 (R_isMarked v0)).bind (fun q7 => ((f_R_findLots N (R_s_lines_state_undos_isMarked_signed v0 z3 z2 0 q7 ((R_towns v0) (Int32.toNatClampNeg 2)))).bind (fun q9 => (some (z3, z2, 0, q7, ((R_towns v0) (Int32.toNatClampNeg 2)), q9.1, q9.2.1, q9.2.2))))))))))))
set_option maxRecDepth 20000 in
set_option maxHeartbeats 4000000 in
theorem c_R_begins_L37 {Z : zCtx} {D n0w nf mcw msw : Nat} (hZ : zOk Z zMX12_begins) (hR : zCan Z D mcw msw) (hDd : 67 ≤ D) (hN : zNew Z n0w nf) (hRm : zRoom Z 0 0) (N : Nat) : ∀ (fuel : Nat) (v0 : VR) (x1 : Int32) (m_isMarked0 : (Nat → Int32)) (q : ((Nat → Int32))), f_R_begins_L37 N fuel v0 x1 m_isMarked0 = some q → (AW Z 0 0 55 [some (.ref 0), none] [] ([kR 0 (R_isMarked_s v0 q)] : List (List zE)).flatten) → AW Z 0 0 37 [some (.ref 0), some (.int x1)] [] ([kR 0 (R_isMarked_s v0 m_isMarked0)] : List (List zE)).flatten := by
  intro fuel
  induction fuel with
  | zero =>
    intro v0 x1 m_isMarked0 q hf hk0
    simp [f_R_begins_L37] at hf
  | succ fuel ih =>
    intro v0 x1 m_isMarked0 q hf hk0
    rw [f_R_begins_L37] at hf
    refine AW.run hZ hRm [49, 55] 400 ?_
    show (((4 ≤ x1) → AW Z 0 0 55 [some (.ref 0), some (.int x1)] [] ([kR 0 (R_isMarked_s v0 m_isMarked0)] : List (List zE)).flatten) ∧ (¬ (4 ≤ x1) → (¬ (x1 < 0 ∨ 4 ≤ Int32.toNatClampNeg x1) ∧ AW Z 0 0 49 [some (.ref 0), some (.int x1)] [] ([kR 0 (R_isMarked_s v0 (upd m_isMarked0 (Int32.toNatClampNeg x1) (vp_nar .boolean 0)))] : List (List zE)).flatten)))
    refine ⟨fun c4 => ?_, fun c4 => ?_⟩
    · rw [if_pos c4] at hf
      cases hf
      refine AW.forget [true, false] ?_
      show AW Z 0 0 55 [some (.ref 0), none] [] ([kR 0 (R_isMarked_s v0 m_isMarked0)] : List (List zE)).flatten
      exact hk0
    · rw [if_neg c4] at hf
      obtain ⟨b6, hf⟩ := zneed hf
      refine ⟨b6, ?_⟩
      replace hf := zlet_gen hf
      generalize ((upd m_isMarked0 (Int32.toNatClampNeg x1) (vp_nar .boolean 0)) : (Nat → Int32)) = z5 at hf ⊢
      as_aux_lemma =>
        refine AW.run hZ hRm [37] 400 ?_
        show AW Z 0 0 37 [some (.ref 0), some (.int (x1 + 1))] [] ([kR 0 (R_isMarked_s v0 z5)] : List (List zE)).flatten
        exact ih v0 (x1 + 1) z5 q hf hk0
set_option maxRecDepth 20000 in
set_option maxHeartbeats 4000000 in
theorem c_R_begins (N : Nat) (v0 : VR) (R : (Nat → Int32) × (Nat → Int32) × Int32 × (Nat → Int32) × Int32 × (Nat → Int32) × (Nat → Int32) × Int32) (hf : f_R_begins N v0 = some R) : Ct zMX12_begins 67 0 0 0 [.ref 0] ([kR 0 v0] : List (List zE)).flatten (fun v cc => v = none ∧ cc = ([kR 0 (R_s_lines_state_undos_isMarked_signed_lotRows_lotRow_lotsMany v0 R.1 R.2.1 R.2.2.1 R.2.2.2.1 R.2.2.2.2.1 R.2.2.2.2.2.1 R.2.2.2.2.2.2.1 R.2.2.2.2.2.2.2)] : List (List zE)).flatten) := by
  refine Ct.of zMX12_begins_ok (by decide) (Nat.le_of_ble_eq_true rfl) ?_
  intro Z hZ hR hN hE
  have hRm : zRoom Z 0 0 := zRoom0 Z
  unfold f_R_begins at hf
  show AW Z 0 0 0 [some (.ref 0), none] [] ([kR 0 v0] : List (List zE)).flatten
  refine AW.run hZ hRm [12] 400 ?_
  show (¬ ((2 : Int32) < 0 ∨ 160 ≤ Int32.toNatClampNeg 2) ∧ AW Z 0 0 12 [some (.ref 0), none] [.int 0, .ref 0] ([kR 0 (R_signed_s v0 ((R_towns v0) (Int32.toNatClampNeg 2)))] : List (List zE)).flatten)
  refine ⟨(by decide), ?_⟩
  obtain ⟨q1, h11, hf⟩ := zbind hf
  refine AW.callVc hZ hR hN (c_R_starts N (R_signed_s v0 ((R_towns v0) (Int32.toNatClampNeg 2))) 0 q1 h11) zMX12_starts_ok rfl rfl zK_BorrowedLivesModel_300 zV_X12_starts rfl [25] [0] [0, 1, 2, 3, 4, 5, 6, 7, 8, 9, 10, 11, 12, 13, 14, 15, 16, 17, 18, 19, 20, 21, 22, 23, 24] rfl rfl rfl (by decide) (by decide) (by omega) (by decide) (Nat.zero_le _) (Nat.zero_le _) rfl rfl rfl rfl rfl ?_
  rintro v cc ⟨rfl, rfl⟩
  refine ⟨_, rfl, rfl, ?_⟩
  show AW Z 0 0 15 [some (.ref 0), none] [] ([kR 0 (R_s_state_signed v0 q1 ((R_towns v0) (Int32.toNatClampNeg 2)))] : List (List zE)).flatten
  refine AW.run hZ hRm [23] 400 ?_
  show (¬ ((46 : Int32) < 0 ∨ 1656 ≤ Int32.toNatClampNeg 46) ∧ AW Z 0 0 23 [some (.ref 0), none] [] ([kR 0 (R_s_state_signed v0 (upd q1 (Int32.toNatClampNeg 46) 0) ((R_towns v0) (Int32.toNatClampNeg 2)))] : List (List zE)).flatten)
  refine ⟨(by decide), ?_⟩
  replace hf := zlet_gen hf
  generalize ((upd q1 (Int32.toNatClampNeg 46) 0) : (Nat → Int32)) = z2 at hf ⊢
  as_aux_lemma =>
    refine AW.run hZ hRm [30] 400 ?_
    show (¬ ((0 : Int32) < 0 ∨ 250 ≤ Int32.toNatClampNeg 0) ∧ AW Z 0 0 30 [some (.ref 0), none] [] ([kR 0 (R_s_lines_state_signed v0 (upd (R_lines v0) (Int32.toNatClampNeg 0) 0) z2 ((R_towns v0) (Int32.toNatClampNeg 2)))] : List (List zE)).flatten)
    refine ⟨(by decide), ?_⟩
    replace hf := zlet_gen hf
    generalize ((upd (R_lines v0) (Int32.toNatClampNeg 0) 0) : (Nat → Int32)) = z3 at hf ⊢
    as_aux_lemma =>
      refine AW.run hZ hRm [37] 400 ?_
      show AW Z 0 0 37 [some (.ref 0), some (.int 0)] [] ([kR 0 (R_s_lines_state_undos_signed v0 z3 z2 0 ((R_towns v0) (Int32.toNatClampNeg 2)))] : List (List zE)).flatten
      obtain ⟨q7, h8, hf⟩ := zbind hf
      refine c_R_begins_L37 hZ hR (by omega) hN hRm N N (R_s_lines_state_undos_signed v0 z3 z2 0 ((R_towns v0) (Int32.toNatClampNeg 2))) 0 (R_isMarked v0) q7 h8 ?_
      show AW Z 0 0 55 [some (.ref 0), none] [] ([kR 0 (R_s_lines_state_undos_isMarked_signed v0 z3 z2 0 q7 ((R_towns v0) (Int32.toNatClampNeg 2)))] : List (List zE)).flatten
      refine AW.run hZ hRm [56] 400 ?_
      show AW Z 0 0 56 [some (.ref 0), none] [.ref 0] ([kR 0 (R_s_lines_state_undos_isMarked_signed v0 z3 z2 0 q7 ((R_towns v0) (Int32.toNatClampNeg 2)))] : List (List zE)).flatten
      obtain ⟨q9, h10, hf⟩ := zbind hf
      refine AW.callVc hZ hR hN (c_R_findLots N (R_s_lines_state_undos_isMarked_signed v0 z3 z2 0 q7 ((R_towns v0) (Int32.toNatClampNeg 2))) q9 h10) zMX12_findLots_ok rfl rfl zK_BorrowedLivesModel_306 zV_X12_findLots rfl [25] [0] [0, 1, 2, 3, 4, 5, 6, 7, 8, 9, 10, 11, 12, 13, 14, 15, 16, 17, 18, 19, 20, 21, 22, 23, 24] rfl rfl rfl (by decide) (by decide) (by omega) (by decide) (Nat.zero_le _) (Nat.zero_le _) rfl rfl rfl rfl rfl ?_
      rintro v cc ⟨rfl, rfl⟩
      refine ⟨_, rfl, rfl, ?_⟩
      show AW Z 0 0 59 [some (.ref 0), none] [] ([kR 0 (R_s_lines_state_undos_isMarked_signed_lotRows_lotRow_lotsMany v0 z3 z2 0 q7 ((R_towns v0) (Int32.toNatClampNeg 2)) q9.1 q9.2.1 q9.2.2)] : List (List zE)).flatten
      cases hf
      exact AW.vret hZ hE rfl rfl rfl (Nat.le_refl 0) (Nat.le_refl 0) rfl ⟨rfl, rfl⟩
def f_R_isLetter (N : Nat) (a0 : Int32) : Option (Int32) := (if (a0 < 97) then (some 0) else (if (122 < a0) then (some 0) else (some 1)))
set_option maxRecDepth 20000 in
set_option maxHeartbeats 4000000 in
theorem c_R_isLetter (N : Nat) (a0 : Int32) (R : Int32) (hf : f_R_isLetter N a0 = some R) : Ct zMX12_isLetter 1 0 0 0 [.int a0] ([] : List (List zE)).flatten (fun v cc => v = some (.int R) ∧ cc = ([] : List (List zE)).flatten) := by
  refine Ct.of zMX12_isLetter_ok (by decide) (Nat.le_of_ble_eq_true rfl) ?_
  intro Z hZ hR hN hE
  have hRm : zRoom Z 0 0 := zRoom0 Z
  unfold f_R_isLetter at hf
  show AW Z 0 0 0 [some (.int a0)] [] ([] : List (List zE)).flatten
  refine AW.run hZ hRm [17] 400 ?_
  show (((a0 < 97) → AW Z 0 0 17 [some (.int a0)] [.int 0] ([] : List (List zE)).flatten) ∧ (¬ (a0 < 97) → (((122 < a0) → AW Z 0 0 17 [some (.int a0)] [.int 0] ([] : List (List zE)).flatten) ∧ (¬ (122 < a0) → AW Z 0 0 17 [some (.int a0)] [.int 1] ([] : List (List zE)).flatten))))
  refine ⟨fun c1 => ?_, fun c1 => ?_⟩
  · rw [if_pos c1] at hf
    cases hf
    exact AW.iret hZ hE rfl rfl rfl rfl (Nat.le_refl 0) (Nat.le_refl 0) rfl ⟨rfl, rfl⟩
  · rw [if_neg c1] at hf
    refine ⟨fun c2 => ?_, fun c2 => ?_⟩
    · rw [if_pos c2] at hf
      cases hf
      exact AW.iret hZ hE rfl rfl rfl rfl (Nat.le_refl 0) (Nat.le_refl 0) rfl ⟨rfl, rfl⟩
    · rw [if_neg c2] at hf
      cases hf
      exact AW.iret hZ hE rfl rfl rfl rfl (Nat.le_refl 0) (Nat.le_refl 0) rfl ⟨rfl, rfl⟩
def f_R_isDigit (N : Nat) (a0 : Int32) : Option (Int32) := (if (a0 < 48) then (some 0) else (if (57 < a0) then (some 0) else (some 1)))
set_option maxRecDepth 20000 in
set_option maxHeartbeats 4000000 in
theorem c_R_isDigit (N : Nat) (a0 : Int32) (R : Int32) (hf : f_R_isDigit N a0 = some R) : Ct zMX12_isDigit 1 0 0 0 [.int a0] ([] : List (List zE)).flatten (fun v cc => v = some (.int R) ∧ cc = ([] : List (List zE)).flatten) := by
  refine Ct.of zMX12_isDigit_ok (by decide) (Nat.le_of_ble_eq_true rfl) ?_
  intro Z hZ hR hN hE
  have hRm : zRoom Z 0 0 := zRoom0 Z
  unfold f_R_isDigit at hf
  show AW Z 0 0 0 [some (.int a0)] [] ([] : List (List zE)).flatten
  refine AW.run hZ hRm [17] 400 ?_
  show (((a0 < 48) → AW Z 0 0 17 [some (.int a0)] [.int 0] ([] : List (List zE)).flatten) ∧ (¬ (a0 < 48) → (((57 < a0) → AW Z 0 0 17 [some (.int a0)] [.int 0] ([] : List (List zE)).flatten) ∧ (¬ (57 < a0) → AW Z 0 0 17 [some (.int a0)] [.int 1] ([] : List (List zE)).flatten))))
  refine ⟨fun c1 => ?_, fun c1 => ?_⟩
  · rw [if_pos c1] at hf
    cases hf
    exact AW.iret hZ hE rfl rfl rfl rfl (Nat.le_refl 0) (Nat.le_refl 0) rfl ⟨rfl, rfl⟩
  · rw [if_neg c1] at hf
    refine ⟨fun c2 => ?_, fun c2 => ?_⟩
    · rw [if_pos c2] at hf
      cases hf
      exact AW.iret hZ hE rfl rfl rfl rfl (Nat.le_refl 0) (Nat.le_refl 0) rfl ⟨rfl, rfl⟩
    · rw [if_neg c2] at hf
      cases hf
      exact AW.iret hZ hE rfl rfl rfl rfl (Nat.le_refl 0) (Nat.le_refl 0) rfl ⟨rfl, rfl⟩
def f_R_rank (N : Nat) (a0 : Int32) : Option (Int32) := ((f_R_isLetter N a0).bind (fun q1 => (if (q1 = 0) then (some (a0 - 21)) else (some (a0 - 96)))))
set_option maxRecDepth 20000 in
set_option maxHeartbeats 4000000 in
theorem c_R_rank (N : Nat) (a0 : Int32) (R : Int32) (hf : f_R_rank N a0 = some R) : Ct zMX12_rank 2 0 0 0 [.int a0] ([] : List (List zE)).flatten (fun v cc => v = some (.int R) ∧ cc = ([] : List (List zE)).flatten) := by
  refine Ct.of zMX12_rank_ok (by decide) (Nat.le_of_ble_eq_true rfl) ?_
  intro Z hZ hR hN hE
  have hRm : zRoom Z 0 0 := zRoom0 Z
  unfold f_R_rank at hf
  show AW Z 0 0 0 [some (.int a0)] [] ([] : List (List zE)).flatten
  refine AW.run hZ hRm [1] 400 ?_
  show AW Z 0 0 1 [some (.int a0)] [.int a0] ([] : List (List zE)).flatten
  obtain ⟨q1, h3, hf⟩ := zbind hf
  refine AW.callSc hZ hR hN (c_R_isLetter N a0 q1 h3) zMX12_isLetter_ok rfl rfl zK_BorrowedLivesModel_156 zV_X12_isLetter rfl [] [] [] rfl rfl rfl (by decide) (by decide) (by omega) (by decide) (Nat.zero_le _) (Nat.zero_le _) rfl rfl ?_
  rintro v cc ⟨rfl, rfl⟩
  refine ⟨_, rfl, rfl, ?_⟩
  show AW Z 0 0 4 [some (.int a0)] [.int q1] ([] : List (List zE)).flatten
  refine AW.run hZ hRm [18] 400 ?_
  show (((q1 = 0) → AW Z 0 0 18 [some (.int a0)] [.int (a0 - 21)] ([] : List (List zE)).flatten) ∧ (¬ (q1 = 0) → AW Z 0 0 18 [some (.int a0)] [.int (a0 - 96)] ([] : List (List zE)).flatten))
  refine ⟨fun c2 => ?_, fun c2 => ?_⟩
  · rw [if_pos c2] at hf
    cases hf
    exact AW.iret hZ hE rfl rfl rfl rfl (Nat.le_refl 0) (Nat.le_refl 0) rfl ⟨rfl, rfl⟩
  · rw [if_neg c2] at hf
    cases hf
    exact AW.iret hZ hE rfl rfl rfl rfl (Nat.le_refl 0) (Nat.le_refl 0) rfl ⟨rfl, rfl⟩
def f_R_isSignOf (N : Nat) (a0 : Int32) : Option (Int32) := (if (a0 = 40) then (some 1) else (if (a0 = 41) then (some 1) else (if (a0 = 59) then (some 1) else (if (a0 = 61) then (some 1) else (if (a0 = 60) then (some 1) else (if (a0 = 43) then (some 1) else (if (a0 = 45) then (some 1) else (if (a0 = 42) then (some 1) else (some 0)))))))))
set_option maxRecDepth 20000 in
set_option maxHeartbeats 4000000 in
theorem c_R_isSignOf (N : Nat) (a0 : Int32) (R : Int32) (hf : f_R_isSignOf N a0 = some R) : Ct zMX12_isSignOf 1 0 0 0 [.int a0] ([] : List (List zE)).flatten (fun v cc => v = some (.int R) ∧ cc = ([] : List (List zE)).flatten) := by
  refine Ct.of zMX12_isSignOf_ok (by decide) (Nat.le_of_ble_eq_true rfl) ?_
  intro Z hZ hR hN hE
  have hRm : zRoom Z 0 0 := zRoom0 Z
  unfold f_R_isSignOf at hf
  show AW Z 0 0 0 [some (.int a0)] [] ([] : List (List zE)).flatten
  refine AW.run hZ hRm [53] 400 ?_
  show (((a0 = 40) → AW Z 0 0 53 [some (.int a0)] [.int 1] ([] : List (List zE)).flatten) ∧ (¬ (a0 = 40) → (((a0 = 41) → AW Z 0 0 53 [some (.int a0)] [.int 1] ([] : List (List zE)).flatten) ∧ (¬ (a0 = 41) → (((a0 = 59) → AW Z 0 0 53 [some (.int a0)] [.int 1] ([] : List (List zE)).flatten) ∧ (¬ (a0 = 59) → (((a0 = 61) → AW Z 0 0 53 [some (.int a0)] [.int 1] ([] : List (List zE)).flatten) ∧ (¬ (a0 = 61) → (((a0 = 60) → AW Z 0 0 53 [some (.int a0)] [.int 1] ([] : List (List zE)).flatten) ∧ (¬ (a0 = 60) → (((a0 = 43) → AW Z 0 0 53 [some (.int a0)] [.int 1] ([] : List (List zE)).flatten) ∧ (¬ (a0 = 43) → (((a0 = 45) → AW Z 0 0 53 [some (.int a0)] [.int 1] ([] : List (List zE)).flatten) ∧ (¬ (a0 = 45) → ((¬ (a0 = 42) → AW Z 0 0 53 [some (.int a0)] [.int 0] ([] : List (List zE)).flatten) ∧ ((a0 = 42) → AW Z 0 0 53 [some (.int a0)] [.int 1] ([] : List (List zE)).flatten))))))))))))))))
  refine ⟨fun c1 => ?_, fun c1 => ?_⟩
  · rw [if_pos c1] at hf
    cases hf
    exact AW.iret hZ hE rfl rfl rfl rfl (Nat.le_refl 0) (Nat.le_refl 0) rfl ⟨rfl, rfl⟩
  · rw [if_neg c1] at hf
    refine ⟨fun c2 => ?_, fun c2 => ?_⟩
    · rw [if_pos c2] at hf
      cases hf
      exact AW.iret hZ hE rfl rfl rfl rfl (Nat.le_refl 0) (Nat.le_refl 0) rfl ⟨rfl, rfl⟩
    · rw [if_neg c2] at hf
      refine ⟨fun c3 => ?_, fun c3 => ?_⟩
      · rw [if_pos c3] at hf
        cases hf
        exact AW.iret hZ hE rfl rfl rfl rfl (Nat.le_refl 0) (Nat.le_refl 0) rfl ⟨rfl, rfl⟩
      · rw [if_neg c3] at hf
        refine ⟨fun c4 => ?_, fun c4 => ?_⟩
        · rw [if_pos c4] at hf
          cases hf
          exact AW.iret hZ hE rfl rfl rfl rfl (Nat.le_refl 0) (Nat.le_refl 0) rfl ⟨rfl, rfl⟩
        · rw [if_neg c4] at hf
          refine ⟨fun c5 => ?_, fun c5 => ?_⟩
          · rw [if_pos c5] at hf
            cases hf
            exact AW.iret hZ hE rfl rfl rfl rfl (Nat.le_refl 0) (Nat.le_refl 0) rfl ⟨rfl, rfl⟩
          · rw [if_neg c5] at hf
            refine ⟨fun c6 => ?_, fun c6 => ?_⟩
            · rw [if_pos c6] at hf
              cases hf
              exact AW.iret hZ hE rfl rfl rfl rfl (Nat.le_refl 0) (Nat.le_refl 0) rfl ⟨rfl, rfl⟩
            · rw [if_neg c6] at hf
              refine ⟨fun c7 => ?_, fun c7 => ?_⟩
              · rw [if_pos c7] at hf
                cases hf
                exact AW.iret hZ hE rfl rfl rfl rfl (Nat.le_refl 0) (Nat.le_refl 0) rfl ⟨rfl, rfl⟩
              · rw [if_neg c7] at hf
                refine ⟨fun c8 => ?_, fun c8 => ?_⟩
                · rw [if_neg c8] at hf
                  cases hf
                  exact AW.iret hZ hE rfl rfl rfl rfl (Nat.le_refl 0) (Nat.le_refl 0) rfl ⟨rfl, rfl⟩
                · rw [if_pos c8] at hf
                  cases hf
                  exact AW.iret hZ hE rfl rfl rfl rfl (Nat.le_refl 0) (Nat.le_refl 0) rfl ⟨rfl, rfl⟩
def f_R_cutAll_L159 (N : Nat) : Nat → VR → Int32 → Int32 → Int32 → Int64 → Option (Int32 × Int64)
  | 0, _, _, _, _, _ => none
  | fuel + 1, v0, y1, y4, x2, x5 => (if ((R_size v0) ≤ x2) then (some (x2, x5)) else (if (x2 < 0 ∨ 1000 ≤ Int32.toNatClampNeg x2) then none else ((f_R_isDigit N ((R_tape v0) (Int32.toNatClampNeg x2))).bind (fun q18 => (if (q18 = 0) then (some (x2, x5)) else (if (4 ≤ (x2 - y4)) then (f_R_cutAll_L159 N fuel v0 y1 y4 (x2 + 1) x5) else (if (x2 < 0 ∨ 1000 ≤ Int32.toNatClampNeg x2) then none else (f_R_cutAll_L159 N fuel v0 y1 y4 (x2 + 1) (((10 * x5) + (Int32.toInt64 ((R_tape v0) (Int32.toNatClampNeg x2)))) - 48)))))))))
def f_R_cutAll_L70 (N : Nat) : Nat → VR → Int32 → Int32 → Int32 → Int64 → Option (Int32 × Int64)
  | 0, _, _, _, _, _ => none
  | fuel + 1, v0, y1, y4, x2, x5 => (if ((R_size v0) ≤ x2) then (some (x2, x5)) else (if (x2 < 0 ∨ 1000 ≤ Int32.toNatClampNeg x2) then none else ((f_R_isLetter N ((R_tape v0) (Int32.toNatClampNeg x2))).bind (fun q34 => (if (q34 = 0) then (some (x2, x5)) else (if (8 ≤ (x2 - y4)) then (f_R_cutAll_L70 N fuel v0 y1 y4 (x2 + 1) x5) else (if (x2 < 0 ∨ 1000 ≤ Int32.toNatClampNeg x2) then none else ((f_R_rank N ((R_tape v0) (Int32.toNatClampNeg x2))).bind (fun q37 => (f_R_cutAll_L70 N fuel v0 y1 y4 (x2 + 1) ((37 * x5) + (Int32.toInt64 q37))))))))))))
def f_R_cutAll_L17 (N : Nat) : Nat → VR → Int32 → Int32 → (Nat → Int32) → (Nat → Int32) → (Nat → Int64) → Option (Int32 × (Nat → Int32) × (Nat → Int32) × (Nat → Int64))
  | 0, _, _, _, _, _, _ => none
  | fuel + 1, v0, x1, x2, m_sort0, m_place1, m_value2 => (if ((R_size v0) ≤ x2) then (some (x1, m_sort0, m_place1, m_value2)) else (if (x2 < 0 ∨ 1000 ≤ Int32.toNatClampNeg x2) then none else (if (((R_tape v0) (Int32.toNatClampNeg x2)) = 10) then (f_R_cutAll_L17 N fuel v0 x1 (x2 + 1) m_sort0 m_place1 m_value2) else (if (((R_tape v0) (Int32.toNatClampNeg x2)) = 32) then (f_R_cutAll_L17 N fuel v0 x1 (x2 + 1) m_sort0 m_place1 m_value2) else (if (x1 < 0 ∨ 1002 ≤ Int32.toNatClampNeg x1) then none else (zlet ((upd m_place1 (Int32.toNatClampNeg x1) x2) : (Nat → Int32)) (fun z4 => ((f_R_isLetter N ((R_tape v0) (Int32.toNatClampNeg x2))).bind (fun q5 => (if (q5 = 0) then ((f_R_isDigit N ((R_tape v0) (Int32.toNatClampNeg x2))).bind (fun q7 => (if (q7 = 0) then ((f_R_isSignOf N ((R_tape v0) (Int32.toNatClampNeg x2))).bind (fun q9 => (if (x1 < 0 ∨ 1002 ≤ Int32.toNatClampNeg x1) then none else (zlet ((upd m_sort0 (Int32.toNatClampNeg x1) (if (q9 = 0) then 4 else 3)) : (Nat → Int32)) (fun z12 => (if (x1 < 0 ∨ 1002 ≤ Int32.toNatClampNeg x1) then none else (zlet ((vp_updL m_value2 (Int32.toNatClampNeg x1) (Int32.toInt64 ((R_tape v0) (Int32.toNatClampNeg x2)))) : (Nat → Int64)) (fun z13 => (f_R_cutAll_L17 N fuel v0 (x1 + 1) (x2 + 1) z12 z4 z13))))))))) else ((f_R_cutAll_L159 N N (R_s_sort_place_value v0 m_sort0 z4 m_value2) x1 x2 x2 0).bind (fun q24 => (if (x1 < 0 ∨ 1002 ≤ Int32.toNatClampNeg x1) then none else (zlet ((upd m_sort0 (Int32.toNatClampNeg x1) (if ((q24.1 - x2) ≤ 4) then 2 else 4)) : (Nat → Int32)) (fun z28 => (if (x1 < 0 ∨ 1002 ≤ Int32.toNatClampNeg x1) then none else (zlet ((vp_updL m_value2 (Int32.toNatClampNeg x1) q24.2) : (Nat → Int64)) (fun z29 => (f_R_cutAll_L17 N fuel v0 (x1 + 1) q24.1 z28 z4 z29)))))))))))) else ((f_R_cutAll_L70 N N (R_s_sort_place_value v0 m_sort0 z4 m_value2) x1 x2 x2 0).bind (fun q42 => (if (x1 < 0 ∨ 1002 ≤ Int32.toNatClampNeg x1) then none else (zlet ((upd m_sort0 (Int32.toNatClampNeg x1) (if ((q42.1 - x2) ≤ 8) then 1 else 4)) : (Nat → Int32)) (fun z46 => (if (x1 < 0 ∨ 1002 ≤ Int32.toNatClampNeg x1) then none else (zlet ((vp_updL m_value2 (Int32.toNatClampNeg x1) q42.2) : (Nat → Int64)) (fun z47 => (f_R_cutAll_L17 N fuel v0 (x1 + 1) q42.1 z46 z4 z47)))))))))))))))))))
def f_R_cutAll (N : Nat) (v0 : VR) : Option (Int32 × Int32 × (Nat → Int32) × (Nat → Int32) × (Nat → Int64) × Int32 × Int32) := ((f_R_cutAll_L17 N N (R_s_taped_size v0 0 (R_taped v0)) 0 0 (R_sort v0) (R_place v0) (R_value v0)).bind (fun q53 => (if (q53.1 < 0 ∨ 1002 ≤ Int32.toNatClampNeg q53.1) then none else (zlet ((upd q53.2.1 (Int32.toNatClampNeg q53.1) 0) : (Nat → Int32)) (fun z55 => (if (q53.1 < 0 ∨ 1002 ≤ Int32.toNatClampNeg q53.1) then none else (zlet ((upd q53.2.2.1 (Int32.toNatClampNeg q53.1) (R_taped v0)) : (Nat → Int32)) (fun z56 => (some (0, (R_taped v0), z55, z56, q53.2.2.2, 0, 0))))))))))
set_option maxRecDepth 20000 in
set_option maxHeartbeats 4000000 in
theorem c_R_cutAll_L159 {Z : zCtx} {D n0w nf mcw msw : Nat} (hZ : zOk Z zMX12_cutAll) (hR : zCan Z D mcw msw) (hDd : 3 ≤ D) (hN : zNew Z n0w nf) (hRm : zRoom Z 0 0) (N : Nat) : ∀ (fuel : Nat) (v0 : VR) (y1 : Int32) (y4 : Int32) (x2 : Int32) (x5 : Int64) (q : (Int32 × Int64)), f_R_cutAll_L159 N fuel v0 y1 y4 x2 x5 = some q → (AW Z 0 0 218 [some (.ref 0), some (.int y1), some (.int q.1), none, some (.int y4), some (.long q.2), none] [] ([kR 0 v0] : List (List zE)).flatten) → AW Z 0 0 159 [some (.ref 0), some (.int y1), some (.int x2), none, some (.int y4), some (.long x5), none] [] ([kR 0 v0] : List (List zE)).flatten := by
  intro fuel
  induction fuel with
  | zero =>
    intro v0 y1 y4 x2 x5 q hf hk0
    simp [f_R_cutAll_L159] at hf
  | succ fuel ih =>
    intro v0 y1 y4 x2 x5 q hf hk0
    rw [f_R_cutAll_L159] at hf
    refine AW.run hZ hRm [173, 218] 400 ?_
    show ((((R_size v0) ≤ x2) → AW Z 0 0 218 [some (.ref 0), some (.int y1), some (.int x2), none, some (.int y4), some (.long x5), none] [] ([kR 0 v0] : List (List zE)).flatten) ∧ (¬ ((R_size v0) ≤ x2) → (¬ (x2 < 0 ∨ 1000 ≤ Int32.toNatClampNeg x2) ∧ AW Z 0 0 173 [some (.ref 0), some (.int y1), some (.int x2), none, some (.int y4), some (.long x5), none] [.int ((R_tape v0) (Int32.toNatClampNeg x2))] ([kR 0 v0] : List (List zE)).flatten)))
    refine ⟨fun c17 => ?_, fun c17 => ?_⟩
    · rw [if_pos c17] at hf
      cases hf
      exact hk0
    · rw [if_neg c17] at hf
      obtain ⟨b23, hf⟩ := zneed hf
      refine ⟨b23, ?_⟩
      obtain ⟨q18, h22, hf⟩ := zbind hf
      refine AW.callSc hZ hR hN (c_R_isDigit N ((R_tape v0) (Int32.toNatClampNeg x2)) q18 h22) zMX12_isDigit_ok rfl rfl zK_BorrowedLivesModel_169 zV_X12_isDigit rfl [25] [] [] rfl rfl rfl (by decide) (by decide) (by omega) (by decide) (Nat.zero_le _) (Nat.zero_le _) rfl rfl ?_
      rintro v cc ⟨rfl, rfl⟩
      refine ⟨_, rfl, rfl, ?_⟩
      show AW Z 0 0 176 [some (.ref 0), some (.int y1), some (.int x2), none, some (.int y4), some (.long x5), none] [.int q18] ([kR 0 v0] : List (List zE)).flatten
      refine AW.run hZ hRm [159, 218] 400 ?_
      show (((q18 = 0) → AW Z 0 0 218 [some (.ref 0), some (.int y1), some (.int x2), none, some (.int y4), some (.long x5), none] [] ([kR 0 v0] : List (List zE)).flatten) ∧ (¬ (q18 = 0) → (((4 ≤ (x2 - y4)) → AW Z 0 0 159 [some (.ref 0), some (.int y1), some (.int (x2 + 1)), none, some (.int y4), some (.long x5), none] [] ([kR 0 v0] : List (List zE)).flatten) ∧ (¬ (4 ≤ (x2 - y4)) → (¬ (x2 < 0 ∨ 1000 ≤ Int32.toNatClampNeg x2) ∧ AW Z 0 0 159 [some (.ref 0), some (.int y1), some (.int (x2 + 1)), none, some (.int y4), some (.long (((10 * x5) + (Int32.toInt64 ((R_tape v0) (Int32.toNatClampNeg x2)))) - 48)), none] [] ([kR 0 v0] : List (List zE)).flatten)))))
      refine ⟨fun c19 => ?_, fun c19 => ?_⟩
      · rw [if_pos c19] at hf
        cases hf
        exact hk0
      · rw [if_neg c19] at hf
        refine ⟨fun c20 => ?_, fun c20 => ?_⟩
        · rw [if_pos c20] at hf
          exact ih v0 y1 y4 (x2 + 1) x5 q hf hk0
        · rw [if_neg c20] at hf
          obtain ⟨b21, hf⟩ := zneed hf
          refine ⟨b21, ?_⟩
          exact ih v0 y1 y4 (x2 + 1) (((10 * x5) + (Int32.toInt64 ((R_tape v0) (Int32.toNatClampNeg x2)))) - 48) q hf hk0
set_option maxRecDepth 20000 in
set_option maxHeartbeats 4000000 in
theorem c_R_cutAll_L70 {Z : zCtx} {D n0w nf mcw msw : Nat} (hZ : zOk Z zMX12_cutAll) (hR : zCan Z D mcw msw) (hDd : 3 ≤ D) (hN : zNew Z n0w nf) (hRm : zRoom Z 0 0) (N : Nat) : ∀ (fuel : Nat) (v0 : VR) (y1 : Int32) (y4 : Int32) (x2 : Int32) (x5 : Int64) (q : (Int32 × Int64)), f_R_cutAll_L70 N fuel v0 y1 y4 x2 x5 = some q → (AW Z 0 0 129 [some (.ref 0), some (.int y1), some (.int q.1), none, some (.int y4), some (.long q.2), none] [] ([kR 0 v0] : List (List zE)).flatten) → AW Z 0 0 70 [some (.ref 0), some (.int y1), some (.int x2), none, some (.int y4), some (.long x5), none] [] ([kR 0 v0] : List (List zE)).flatten := by
  intro fuel
  induction fuel with
  | zero =>
    intro v0 y1 y4 x2 x5 q hf hk0
    simp [f_R_cutAll_L70] at hf
  | succ fuel ih =>
    intro v0 y1 y4 x2 x5 q hf hk0
    rw [f_R_cutAll_L70] at hf
    refine AW.run hZ hRm [84, 129] 400 ?_
    show ((((R_size v0) ≤ x2) → AW Z 0 0 129 [some (.ref 0), some (.int y1), some (.int x2), none, some (.int y4), some (.long x5), none] [] ([kR 0 v0] : List (List zE)).flatten) ∧ (¬ ((R_size v0) ≤ x2) → (¬ (x2 < 0 ∨ 1000 ≤ Int32.toNatClampNeg x2) ∧ AW Z 0 0 84 [some (.ref 0), some (.int y1), some (.int x2), none, some (.int y4), some (.long x5), none] [.int ((R_tape v0) (Int32.toNatClampNeg x2))] ([kR 0 v0] : List (List zE)).flatten)))
    refine ⟨fun c33 => ?_, fun c33 => ?_⟩
    · rw [if_pos c33] at hf
      cases hf
      exact hk0
    · rw [if_neg c33] at hf
      obtain ⟨b41, hf⟩ := zneed hf
      refine ⟨b41, ?_⟩
      obtain ⟨q34, h40, hf⟩ := zbind hf
      refine AW.callSc hZ hR hN (c_R_isLetter N ((R_tape v0) (Int32.toNatClampNeg x2)) q34 h40) zMX12_isLetter_ok rfl rfl zK_BorrowedLivesModel_156 zV_X12_isLetter rfl [25] [] [] rfl rfl rfl (by decide) (by decide) (by omega) (by decide) (Nat.zero_le _) (Nat.zero_le _) rfl rfl ?_
      rintro v cc ⟨rfl, rfl⟩
      refine ⟨_, rfl, rfl, ?_⟩
      show AW Z 0 0 87 [some (.ref 0), some (.int y1), some (.int x2), none, some (.int y4), some (.long x5), none] [.int q34] ([kR 0 v0] : List (List zE)).flatten
      refine AW.run hZ hRm [70, 111, 129] 400 ?_
      show (((q34 = 0) → AW Z 0 0 129 [some (.ref 0), some (.int y1), some (.int x2), none, some (.int y4), some (.long x5), none] [] ([kR 0 v0] : List (List zE)).flatten) ∧ (¬ (q34 = 0) → (((8 ≤ (x2 - y4)) → AW Z 0 0 70 [some (.ref 0), some (.int y1), some (.int (x2 + 1)), none, some (.int y4), some (.long x5), none] [] ([kR 0 v0] : List (List zE)).flatten) ∧ (¬ (8 ≤ (x2 - y4)) → (¬ (x2 < 0 ∨ 1000 ≤ Int32.toNatClampNeg x2) ∧ AW Z 0 0 111 [some (.ref 0), some (.int y1), some (.int x2), none, some (.int y4), some (.long x5), none] [.int ((R_tape v0) (Int32.toNatClampNeg x2)), .long (37 * x5)] ([kR 0 v0] : List (List zE)).flatten)))))
      refine ⟨fun c35 => ?_, fun c35 => ?_⟩
      · rw [if_pos c35] at hf
        cases hf
        exact hk0
      · rw [if_neg c35] at hf
        refine ⟨fun c36 => ?_, fun c36 => ?_⟩
        · rw [if_pos c36] at hf
          exact ih v0 y1 y4 (x2 + 1) x5 q hf hk0
        · rw [if_neg c36] at hf
          obtain ⟨b39, hf⟩ := zneed hf
          refine ⟨b39, ?_⟩
          obtain ⟨q37, h38, hf⟩ := zbind hf
          refine AW.callSc hZ hR hN (c_R_rank N ((R_tape v0) (Int32.toNatClampNeg x2)) q37 h38) zMX12_rank_ok rfl rfl zK_BorrowedLivesModel_165 zV_X12_rank rfl [25] [] [] rfl rfl rfl (by decide) (by decide) (by omega) (by decide) (Nat.zero_le _) (Nat.zero_le _) rfl rfl ?_
          rintro v cc ⟨rfl, rfl⟩
          refine ⟨_, rfl, rfl, ?_⟩
          show AW Z 0 0 114 [some (.ref 0), some (.int y1), some (.int x2), none, some (.int y4), some (.long x5), none] [.int q37, .long (37 * x5)] ([kR 0 v0] : List (List zE)).flatten
          refine AW.run hZ hRm [70] 400 ?_
          show AW Z 0 0 70 [some (.ref 0), some (.int y1), some (.int (x2 + 1)), none, some (.int y4), some (.long ((37 * x5) + (Int32.toInt64 q37))), none] [] ([kR 0 v0] : List (List zE)).flatten
          exact ih v0 y1 y4 (x2 + 1) ((37 * x5) + (Int32.toInt64 q37)) q hf hk0
set_option maxRecDepth 20000 in
set_option maxHeartbeats 4000000 in
theorem c_R_cutAll_L17 {Z : zCtx} {D n0w nf mcw msw : Nat} (hZ : zOk Z zMX12_cutAll) (hR : zCan Z D mcw msw) (hDd : 3 ≤ D) (hN : zNew Z n0w nf) (hRm : zRoom Z 0 0) (N : Nat) : ∀ (fuel : Nat) (v0 : VR) (x1 : Int32) (x2 : Int32) (m_sort0 : (Nat → Int32)) (m_place1 : (Nat → Int32)) (m_value2 : (Nat → Int64)) (q : (Int32 × (Nat → Int32) × (Nat → Int32) × (Nat → Int64))), f_R_cutAll_L17 N fuel v0 x1 x2 m_sort0 m_place1 m_value2 = some q → (AW Z 0 0 279 [some (.ref 0), some (.int q.1), none, none, none, none, none] [] ([kR 0 (R_s_sort_place_value v0 q.2.1 q.2.2.1 q.2.2.2)] : List (List zE)).flatten) → AW Z 0 0 17 [some (.ref 0), some (.int x1), some (.int x2), none, none, none, none] [] ([kR 0 (R_s_sort_place_value v0 m_sort0 m_place1 m_value2)] : List (List zE)).flatten := by
  intro fuel
  induction fuel with
  | zero =>
    intro v0 x1 x2 m_sort0 m_place1 m_value2 q hf hk0
    simp [f_R_cutAll_L17] at hf
  | succ fuel ih =>
    intro v0 x1 x2 m_sort0 m_place1 m_value2 q hf hk0
    rw [f_R_cutAll_L17] at hf
    refine AW.run hZ hRm [17, 63, 279] 400 ?_
    show ((((R_size v0) ≤ x2) → AW Z 0 0 279 [some (.ref 0), some (.int x1), some (.int x2), none, none, none, none] [] ([kR 0 (R_s_sort_place_value v0 m_sort0 m_place1 m_value2)] : List (List zE)).flatten) ∧ (¬ ((R_size v0) ≤ x2) → (¬ (x2 < 0 ∨ 1000 ≤ Int32.toNatClampNeg x2) ∧ (((((R_tape v0) (Int32.toNatClampNeg x2)) = 10) → AW Z 0 0 17 [some (.ref 0), some (.int x1), some (.int (x2 + 1)), some (.int ((R_tape v0) (Int32.toNatClampNeg x2))), none, none, none] [] ([kR 0 (R_s_sort_place_value v0 m_sort0 m_place1 m_value2)] : List (List zE)).flatten) ∧ (¬ (((R_tape v0) (Int32.toNatClampNeg x2)) = 10) → ((¬ (((R_tape v0) (Int32.toNatClampNeg x2)) = 32) → (¬ (x1 < 0 ∨ 1002 ≤ Int32.toNatClampNeg x1) ∧ AW Z 0 0 63 [some (.ref 0), some (.int x1), some (.int x2), some (.int ((R_tape v0) (Int32.toNatClampNeg x2))), some (.int x2), some (.long 0), none] [] ([kR 0 (R_s_sort_place_value v0 m_sort0 (upd m_place1 (Int32.toNatClampNeg x1) x2) m_value2)] : List (List zE)).flatten)) ∧ ((((R_tape v0) (Int32.toNatClampNeg x2)) = 32) → AW Z 0 0 17 [some (.ref 0), some (.int x1), some (.int (x2 + 1)), some (.int ((R_tape v0) (Int32.toNatClampNeg x2))), none, none, none] [] ([kR 0 (R_s_sort_place_value v0 m_sort0 m_place1 m_value2)] : List (List zE)).flatten)))))))
    refine ⟨fun c1 => ?_, fun c1 => ?_⟩
    · rw [if_pos c1] at hf
      cases hf
      refine AW.forget [true, true, false, false, false, false, false] ?_
      show AW Z 0 0 279 [some (.ref 0), some (.int x1), none, none, none, none, none] [] ([kR 0 (R_s_sort_place_value v0 m_sort0 m_place1 m_value2)] : List (List zE)).flatten
      exact hk0
    · rw [if_neg c1] at hf
      obtain ⟨b52, hf⟩ := zneed hf
      refine ⟨b52, ?_⟩
      refine ⟨fun c2 => ?_, fun c2 => ?_⟩
      · rw [if_pos c2] at hf
        refine AW.forget [true, true, true, false, false, false, false] ?_
        show AW Z 0 0 17 [some (.ref 0), some (.int x1), some (.int (x2 + 1)), none, none, none, none] [] ([kR 0 (R_s_sort_place_value v0 m_sort0 m_place1 m_value2)] : List (List zE)).flatten
        exact ih v0 x1 (x2 + 1) m_sort0 m_place1 m_value2 q hf hk0
      · rw [if_neg c2] at hf
        refine ⟨fun c3 => ?_, fun c3 => ?_⟩
        · rw [if_neg c3] at hf
          obtain ⟨b51, hf⟩ := zneed hf
          refine ⟨b51, ?_⟩
          replace hf := zlet_gen hf
          generalize ((upd m_place1 (Int32.toNatClampNeg x1) x2) : (Nat → Int32)) = z4 at hf ⊢
          as_aux_lemma =>
            refine AW.run hZ hRm [64] 400 ?_
            show AW Z 0 0 64 [some (.ref 0), some (.int x1), some (.int x2), some (.int ((R_tape v0) (Int32.toNatClampNeg x2))), some (.int x2), some (.long 0), none] [.int ((R_tape v0) (Int32.toNatClampNeg x2))] ([kR 0 (R_s_sort_place_value v0 m_sort0 z4 m_value2)] : List (List zE)).flatten
            obtain ⟨q5, h50, hf⟩ := zbind hf
            refine AW.callSc hZ hR hN (c_R_isLetter N ((R_tape v0) (Int32.toNatClampNeg x2)) q5 h50) zMX12_isLetter_ok rfl rfl zK_BorrowedLivesModel_156 zV_X12_isLetter rfl [25] [] [] rfl rfl rfl (by decide) (by decide) (by omega) (by decide) (Nat.zero_le _) (Nat.zero_le _) rfl rfl ?_
            rintro v cc ⟨rfl, rfl⟩
            refine ⟨_, rfl, rfl, ?_⟩
            show AW Z 0 0 67 [some (.ref 0), some (.int x1), some (.int x2), some (.int ((R_tape v0) (Int32.toNatClampNeg x2))), some (.int x2), some (.long 0), none] [.int q5] ([kR 0 (R_s_sort_place_value v0 m_sort0 z4 m_value2)] : List (List zE)).flatten
            refine AW.run hZ hRm [70, 153] 400 ?_
            show (((q5 = 0) → AW Z 0 0 153 [some (.ref 0), some (.int x1), some (.int x2), some (.int ((R_tape v0) (Int32.toNatClampNeg x2))), some (.int x2), some (.long 0), none] [.int ((R_tape v0) (Int32.toNatClampNeg x2))] ([kR 0 (R_s_sort_place_value v0 m_sort0 z4 m_value2)] : List (List zE)).flatten) ∧ (¬ (q5 = 0) → AW Z 0 0 70 [some (.ref 0), some (.int x1), some (.int x2), some (.int ((R_tape v0) (Int32.toNatClampNeg x2))), some (.int x2), some (.long 0), none] [] ([kR 0 (R_s_sort_place_value v0 m_sort0 z4 m_value2)] : List (List zE)).flatten))
            refine ⟨fun c6 => ?_, fun c6 => ?_⟩
            · rw [if_pos c6] at hf
              obtain ⟨q7, h32, hf⟩ := zbind hf
              refine AW.callSc hZ hR hN (c_R_isDigit N ((R_tape v0) (Int32.toNatClampNeg x2)) q7 h32) zMX12_isDigit_ok rfl rfl zK_BorrowedLivesModel_169 zV_X12_isDigit rfl [25] [] [] rfl rfl rfl (by decide) (by decide) (by omega) (by decide) (Nat.zero_le _) (Nat.zero_le _) rfl rfl ?_
              rintro v cc ⟨rfl, rfl⟩
              refine ⟨_, rfl, rfl, ?_⟩
              show AW Z 0 0 156 [some (.ref 0), some (.int x1), some (.int x2), some (.int ((R_tape v0) (Int32.toNatClampNeg x2))), some (.int x2), some (.long 0), none] [.int q7] ([kR 0 (R_s_sort_place_value v0 m_sort0 z4 m_value2)] : List (List zE)).flatten
              refine AW.run hZ hRm [159, 250] 400 ?_
              show (((q7 = 0) → AW Z 0 0 250 [some (.ref 0), some (.int x1), some (.int x2), some (.int ((R_tape v0) (Int32.toNatClampNeg x2))), some (.int x2), some (.long (Int32.toInt64 ((R_tape v0) (Int32.toNatClampNeg x2)))), none] [.int ((R_tape v0) (Int32.toNatClampNeg x2)), .int x1, .ref 2] ([kR 0 (R_s_sort_place_value v0 m_sort0 z4 m_value2)] : List (List zE)).flatten) ∧ (¬ (q7 = 0) → AW Z 0 0 159 [some (.ref 0), some (.int x1), some (.int x2), some (.int ((R_tape v0) (Int32.toNatClampNeg x2))), some (.int x2), some (.long 0), none] [] ([kR 0 (R_s_sort_place_value v0 m_sort0 z4 m_value2)] : List (List zE)).flatten))
              refine ⟨fun c8 => ?_, fun c8 => ?_⟩
              · rw [if_pos c8] at hf
                obtain ⟨q9, h16, hf⟩ := zbind hf
                refine AW.callSc hZ hR hN (c_R_isSignOf N ((R_tape v0) (Int32.toNatClampNeg x2)) q9 h16) zMX12_isSignOf_ok rfl rfl zK_BorrowedLivesModel_176 zV_X12_isSignOf rfl [25] [] [] rfl rfl rfl (by decide) (by decide) (by omega) (by decide) (Nat.zero_le _) (Nat.zero_le _) rfl rfl ?_
                rintro v cc ⟨rfl, rfl⟩
                refine ⟨_, rfl, rfl, ?_⟩
                show AW Z 0 0 253 [some (.ref 0), some (.int x1), some (.int x2), some (.int ((R_tape v0) (Int32.toNatClampNeg x2))), some (.int x2), some (.long (Int32.toInt64 ((R_tape v0) (Int32.toNatClampNeg x2)))), none] [.int q9, .int x1, .ref 2] ([kR 0 (R_s_sort_place_value v0 m_sort0 z4 m_value2)] : List (List zE)).flatten
                suffices H10 : AW Z 0 0 261 [some (.ref 0), some (.int x1), some (.int x2), none, none, some (.long (Int32.toInt64 ((R_tape v0) (Int32.toNatClampNeg x2)))), none] [.int (if (q9 = 0) then 4 else 3), .int x1, .ref 2] ([kR 0 (R_s_sort_place_value v0 m_sort0 z4 m_value2)] : List (List zE)).flatten from by
                  refine AW.run hZ hRm [261] 400 ?_
                  show (((q9 = 0) → AW Z 0 0 261 [some (.ref 0), some (.int x1), some (.int x2), some (.int ((R_tape v0) (Int32.toNatClampNeg x2))), some (.int x2), some (.long (Int32.toInt64 ((R_tape v0) (Int32.toNatClampNeg x2)))), none] [.int 4, .int x1, .ref 2] ([kR 0 (R_s_sort_place_value v0 m_sort0 z4 m_value2)] : List (List zE)).flatten) ∧ (¬ (q9 = 0) → AW Z 0 0 261 [some (.ref 0), some (.int x1), some (.int x2), some (.int ((R_tape v0) (Int32.toNatClampNeg x2))), some (.int x2), some (.long (Int32.toInt64 ((R_tape v0) (Int32.toNatClampNeg x2)))), none] [.int 3, .int x1, .ref 2] ([kR 0 (R_s_sort_place_value v0 m_sort0 z4 m_value2)] : List (List zE)).flatten))
                  refine ⟨fun c11 => ?_, fun c11 => ?_⟩
                  · refine AW.forget [true, true, true, false, false, true, false] ?_
                    show AW Z 0 0 261 [some (.ref 0), some (.int x1), some (.int x2), none, none, some (.long (Int32.toInt64 ((R_tape v0) (Int32.toNatClampNeg x2)))), none] [.int 4, .int x1, .ref 2] ([kR 0 (R_s_sort_place_value v0 m_sort0 z4 m_value2)] : List (List zE)).flatten
                    simpa only [if_pos c11] using H10
                  · refine AW.forget [true, true, true, false, false, true, false] ?_
                    show AW Z 0 0 261 [some (.ref 0), some (.int x1), some (.int x2), none, none, some (.long (Int32.toInt64 ((R_tape v0) (Int32.toNatClampNeg x2)))), none] [.int 3, .int x1, .ref 2] ([kR 0 (R_s_sort_place_value v0 m_sort0 z4 m_value2)] : List (List zE)).flatten
                    simpa only [if_neg c11] using H10
                refine AW.run hZ hRm [262] 400 ?_
                show (¬ (x1 < 0 ∨ 1002 ≤ Int32.toNatClampNeg x1) ∧ AW Z 0 0 262 [some (.ref 0), some (.int x1), some (.int x2), none, none, some (.long (Int32.toInt64 ((R_tape v0) (Int32.toNatClampNeg x2)))), none] [] ([kR 0 (R_s_sort_place_value v0 (upd m_sort0 (Int32.toNatClampNeg x1) (if (q9 = 0) then 4 else 3)) z4 m_value2)] : List (List zE)).flatten)
                obtain ⟨b15, hf⟩ := zneed hf
                refine ⟨b15, ?_⟩
                replace hf := zlet_gen hf
                generalize ((upd m_sort0 (Int32.toNatClampNeg x1) (if (q9 = 0) then 4 else 3)) : (Nat → Int32)) = z12 at hf ⊢
                as_aux_lemma =>
                  refine AW.run hZ hRm [273] 400 ?_
                  show (¬ (x1 < 0 ∨ 1002 ≤ Int32.toNatClampNeg x1) ∧ AW Z 0 0 273 [some (.ref 0), some (.int x1), some (.int (x2 + 1)), none, none, some (.long (Int32.toInt64 ((R_tape v0) (Int32.toNatClampNeg x2)))), none] [] ([kR 0 (R_s_sort_place_value v0 z12 z4 (vp_updL m_value2 (Int32.toNatClampNeg x1) (Int32.toInt64 ((R_tape v0) (Int32.toNatClampNeg x2)))))] : List (List zE)).flatten)
                  obtain ⟨b14, hf⟩ := zneed hf
                  refine ⟨b14, ?_⟩
                  replace hf := zlet_gen hf
                  generalize ((vp_updL m_value2 (Int32.toNatClampNeg x1) (Int32.toInt64 ((R_tape v0) (Int32.toNatClampNeg x2)))) : (Nat → Int64)) = z13 at hf ⊢
                  as_aux_lemma =>
                    refine AW.run hZ hRm [17] 400 ?_
                    show AW Z 0 0 17 [some (.ref 0), some (.int (x1 + 1)), some (.int (x2 + 1)), none, none, some (.long (Int32.toInt64 ((R_tape v0) (Int32.toNatClampNeg x2)))), none] [] ([kR 0 (R_s_sort_place_value v0 z12 z4 z13)] : List (List zE)).flatten
                    refine AW.forget [true, true, true, false, false, false, false] ?_
                    show AW Z 0 0 17 [some (.ref 0), some (.int (x1 + 1)), some (.int (x2 + 1)), none, none, none, none] [] ([kR 0 (R_s_sort_place_value v0 z12 z4 z13)] : List (List zE)).flatten
                    exact ih v0 (x1 + 1) (x2 + 1) z12 z4 z13 q hf hk0
              · rw [if_neg c8] at hf
                obtain ⟨q24, h25, hf⟩ := zbind hf
                refine AW.forget [true, true, true, false, true, true, false] ?_
                show AW Z 0 0 159 [some (.ref 0), some (.int x1), some (.int x2), none, some (.int x2), some (.long 0), none] [] ([kR 0 (R_s_sort_place_value v0 m_sort0 z4 m_value2)] : List (List zE)).flatten
                refine c_R_cutAll_L159 hZ hR (by omega) hN hRm N N (R_s_sort_place_value v0 m_sort0 z4 m_value2) x1 x2 x2 0 q24 h25 ?_
                show AW Z 0 0 218 [some (.ref 0), some (.int x1), some (.int q24.1), none, some (.int x2), some (.long q24.2), none] [] ([kR 0 (R_s_sort_place_value v0 m_sort0 z4 m_value2)] : List (List zE)).flatten
                refine AW.run hZ hRm [228] 400 ?_
                show AW Z 0 0 228 [some (.ref 0), some (.int x1), some (.int q24.1), none, some (.int x2), some (.long q24.2), none] [.int 4, .int (q24.1 - x2), .int x1, .ref 2] ([kR 0 (R_s_sort_place_value v0 m_sort0 z4 m_value2)] : List (List zE)).flatten
                suffices H26 : AW Z 0 0 236 [some (.ref 0), some (.int x1), some (.int q24.1), none, none, some (.long q24.2), none] [.int (if ((q24.1 - x2) ≤ 4) then 2 else 4), .int x1, .ref 2] ([kR 0 (R_s_sort_place_value v0 m_sort0 z4 m_value2)] : List (List zE)).flatten from by
                  refine AW.run hZ hRm [236] 400 ?_
                  show ((((q24.1 - x2) ≤ 4) → AW Z 0 0 236 [some (.ref 0), some (.int x1), some (.int q24.1), none, some (.int x2), some (.long q24.2), none] [.int 2, .int x1, .ref 2] ([kR 0 (R_s_sort_place_value v0 m_sort0 z4 m_value2)] : List (List zE)).flatten) ∧ (¬ ((q24.1 - x2) ≤ 4) → AW Z 0 0 236 [some (.ref 0), some (.int x1), some (.int q24.1), none, some (.int x2), some (.long q24.2), none] [.int 4, .int x1, .ref 2] ([kR 0 (R_s_sort_place_value v0 m_sort0 z4 m_value2)] : List (List zE)).flatten))
                  refine ⟨fun c27 => ?_, fun c27 => ?_⟩
                  · refine AW.forget [true, true, true, false, false, true, false] ?_
                    show AW Z 0 0 236 [some (.ref 0), some (.int x1), some (.int q24.1), none, none, some (.long q24.2), none] [.int 2, .int x1, .ref 2] ([kR 0 (R_s_sort_place_value v0 m_sort0 z4 m_value2)] : List (List zE)).flatten
                    simpa only [if_pos c27] using H26
                  · refine AW.forget [true, true, true, false, false, true, false] ?_
                    show AW Z 0 0 236 [some (.ref 0), some (.int x1), some (.int q24.1), none, none, some (.long q24.2), none] [.int 4, .int x1, .ref 2] ([kR 0 (R_s_sort_place_value v0 m_sort0 z4 m_value2)] : List (List zE)).flatten
                    simpa only [if_neg c27] using H26
                refine AW.run hZ hRm [237] 400 ?_
                show (¬ (x1 < 0 ∨ 1002 ≤ Int32.toNatClampNeg x1) ∧ AW Z 0 0 237 [some (.ref 0), some (.int x1), some (.int q24.1), none, none, some (.long q24.2), none] [] ([kR 0 (R_s_sort_place_value v0 (upd m_sort0 (Int32.toNatClampNeg x1) (if ((q24.1 - x2) ≤ 4) then 2 else 4)) z4 m_value2)] : List (List zE)).flatten)
                obtain ⟨b31, hf⟩ := zneed hf
                refine ⟨b31, ?_⟩
                replace hf := zlet_gen hf
                generalize ((upd m_sort0 (Int32.toNatClampNeg x1) (if ((q24.1 - x2) ≤ 4) then 2 else 4)) : (Nat → Int32)) = z28 at hf ⊢
                as_aux_lemma =>
                  refine AW.run hZ hRm [273] 400 ?_
                  show (¬ (x1 < 0 ∨ 1002 ≤ Int32.toNatClampNeg x1) ∧ AW Z 0 0 273 [some (.ref 0), some (.int x1), some (.int q24.1), none, none, some (.long q24.2), none] [] ([kR 0 (R_s_sort_place_value v0 z28 z4 (vp_updL m_value2 (Int32.toNatClampNeg x1) q24.2))] : List (List zE)).flatten)
                  obtain ⟨b30, hf⟩ := zneed hf
                  refine ⟨b30, ?_⟩
                  replace hf := zlet_gen hf
                  generalize ((vp_updL m_value2 (Int32.toNatClampNeg x1) q24.2) : (Nat → Int64)) = z29 at hf ⊢
                  as_aux_lemma =>
                    refine AW.run hZ hRm [17] 400 ?_
                    show AW Z 0 0 17 [some (.ref 0), some (.int (x1 + 1)), some (.int q24.1), none, none, some (.long q24.2), none] [] ([kR 0 (R_s_sort_place_value v0 z28 z4 z29)] : List (List zE)).flatten
                    refine AW.forget [true, true, true, false, false, false, false] ?_
                    show AW Z 0 0 17 [some (.ref 0), some (.int (x1 + 1)), some (.int q24.1), none, none, none, none] [] ([kR 0 (R_s_sort_place_value v0 z28 z4 z29)] : List (List zE)).flatten
                    exact ih v0 (x1 + 1) q24.1 z28 z4 z29 q hf hk0
            · rw [if_neg c6] at hf
              obtain ⟨q42, h43, hf⟩ := zbind hf
              refine AW.forget [true, true, true, false, true, true, false] ?_
              show AW Z 0 0 70 [some (.ref 0), some (.int x1), some (.int x2), none, some (.int x2), some (.long 0), none] [] ([kR 0 (R_s_sort_place_value v0 m_sort0 z4 m_value2)] : List (List zE)).flatten
              refine c_R_cutAll_L70 hZ hR (by omega) hN hRm N N (R_s_sort_place_value v0 m_sort0 z4 m_value2) x1 x2 x2 0 q42 h43 ?_
              show AW Z 0 0 129 [some (.ref 0), some (.int x1), some (.int q42.1), none, some (.int x2), some (.long q42.2), none] [] ([kR 0 (R_s_sort_place_value v0 m_sort0 z4 m_value2)] : List (List zE)).flatten
              refine AW.run hZ hRm [140] 400 ?_
              show AW Z 0 0 140 [some (.ref 0), some (.int x1), some (.int q42.1), none, some (.int x2), some (.long q42.2), none] [.int 8, .int (q42.1 - x2), .int x1, .ref 2] ([kR 0 (R_s_sort_place_value v0 m_sort0 z4 m_value2)] : List (List zE)).flatten
              suffices H44 : AW Z 0 0 148 [some (.ref 0), some (.int x1), some (.int q42.1), none, none, some (.long q42.2), none] [.int (if ((q42.1 - x2) ≤ 8) then 1 else 4), .int x1, .ref 2] ([kR 0 (R_s_sort_place_value v0 m_sort0 z4 m_value2)] : List (List zE)).flatten from by
                refine AW.run hZ hRm [148] 400 ?_
                show ((((q42.1 - x2) ≤ 8) → AW Z 0 0 148 [some (.ref 0), some (.int x1), some (.int q42.1), none, some (.int x2), some (.long q42.2), none] [.int 1, .int x1, .ref 2] ([kR 0 (R_s_sort_place_value v0 m_sort0 z4 m_value2)] : List (List zE)).flatten) ∧ (¬ ((q42.1 - x2) ≤ 8) → AW Z 0 0 148 [some (.ref 0), some (.int x1), some (.int q42.1), none, some (.int x2), some (.long q42.2), none] [.int 4, .int x1, .ref 2] ([kR 0 (R_s_sort_place_value v0 m_sort0 z4 m_value2)] : List (List zE)).flatten))
                refine ⟨fun c45 => ?_, fun c45 => ?_⟩
                · refine AW.forget [true, true, true, false, false, true, false] ?_
                  show AW Z 0 0 148 [some (.ref 0), some (.int x1), some (.int q42.1), none, none, some (.long q42.2), none] [.int 1, .int x1, .ref 2] ([kR 0 (R_s_sort_place_value v0 m_sort0 z4 m_value2)] : List (List zE)).flatten
                  simpa only [if_pos c45] using H44
                · refine AW.forget [true, true, true, false, false, true, false] ?_
                  show AW Z 0 0 148 [some (.ref 0), some (.int x1), some (.int q42.1), none, none, some (.long q42.2), none] [.int 4, .int x1, .ref 2] ([kR 0 (R_s_sort_place_value v0 m_sort0 z4 m_value2)] : List (List zE)).flatten
                  simpa only [if_neg c45] using H44
              refine AW.run hZ hRm [149] 400 ?_
              show (¬ (x1 < 0 ∨ 1002 ≤ Int32.toNatClampNeg x1) ∧ AW Z 0 0 149 [some (.ref 0), some (.int x1), some (.int q42.1), none, none, some (.long q42.2), none] [] ([kR 0 (R_s_sort_place_value v0 (upd m_sort0 (Int32.toNatClampNeg x1) (if ((q42.1 - x2) ≤ 8) then 1 else 4)) z4 m_value2)] : List (List zE)).flatten)
              obtain ⟨b49, hf⟩ := zneed hf
              refine ⟨b49, ?_⟩
              replace hf := zlet_gen hf
              generalize ((upd m_sort0 (Int32.toNatClampNeg x1) (if ((q42.1 - x2) ≤ 8) then 1 else 4)) : (Nat → Int32)) = z46 at hf ⊢
              as_aux_lemma =>
                refine AW.run hZ hRm [273] 400 ?_
                show (¬ (x1 < 0 ∨ 1002 ≤ Int32.toNatClampNeg x1) ∧ AW Z 0 0 273 [some (.ref 0), some (.int x1), some (.int q42.1), none, none, some (.long q42.2), none] [] ([kR 0 (R_s_sort_place_value v0 z46 z4 (vp_updL m_value2 (Int32.toNatClampNeg x1) q42.2))] : List (List zE)).flatten)
                obtain ⟨b48, hf⟩ := zneed hf
                refine ⟨b48, ?_⟩
                replace hf := zlet_gen hf
                generalize ((vp_updL m_value2 (Int32.toNatClampNeg x1) q42.2) : (Nat → Int64)) = z47 at hf ⊢
                as_aux_lemma =>
                  refine AW.run hZ hRm [17] 400 ?_
                  show AW Z 0 0 17 [some (.ref 0), some (.int (x1 + 1)), some (.int q42.1), none, none, some (.long q42.2), none] [] ([kR 0 (R_s_sort_place_value v0 z46 z4 z47)] : List (List zE)).flatten
                  refine AW.forget [true, true, true, false, false, false, false] ?_
                  show AW Z 0 0 17 [some (.ref 0), some (.int (x1 + 1)), some (.int q42.1), none, none, none, none] [] ([kR 0 (R_s_sort_place_value v0 z46 z4 z47)] : List (List zE)).flatten
                  exact ih v0 (x1 + 1) q42.1 z46 z4 z47 q hf hk0
        · rw [if_pos c3] at hf
          refine AW.forget [true, true, true, false, false, false, false] ?_
          show AW Z 0 0 17 [some (.ref 0), some (.int x1), some (.int (x2 + 1)), none, none, none, none] [] ([kR 0 (R_s_sort_place_value v0 m_sort0 m_place1 m_value2)] : List (List zE)).flatten
          exact ih v0 x1 (x2 + 1) m_sort0 m_place1 m_value2 q hf hk0
set_option maxRecDepth 20000 in
set_option maxHeartbeats 4000000 in
theorem c_R_cutAll (N : Nat) (v0 : VR) (R : Int32 × Int32 × (Nat → Int32) × (Nat → Int32) × (Nat → Int64) × Int32 × Int32) (hf : f_R_cutAll N v0 = some R) : Ct zMX12_cutAll 3 0 0 0 [.ref 0] ([kR 0 v0] : List (List zE)).flatten (fun v cc => v = none ∧ cc = ([kR 0 (R_s_taped_size_sort_place_value_at_fault v0 R.1 R.2.1 R.2.2.1 R.2.2.2.1 R.2.2.2.2.1 R.2.2.2.2.2.1 R.2.2.2.2.2.2)] : List (List zE)).flatten) := by
  refine Ct.of zMX12_cutAll_ok (by decide) (Nat.le_of_ble_eq_true rfl) ?_
  intro Z hZ hR hN hE
  have hRm : zRoom Z 0 0 := zRoom0 Z
  unfold f_R_cutAll at hf
  show AW Z 0 0 0 [some (.ref 0), none, none, none, none, none, none] [] ([kR 0 v0] : List (List zE)).flatten
  refine AW.run hZ hRm [17] 400 ?_
  show AW Z 0 0 17 [some (.ref 0), some (.int 0), some (.int 0), none, none, none, none] [] ([kR 0 (R_s_taped_size v0 0 (R_taped v0))] : List (List zE)).flatten
  obtain ⟨q53, h54, hf⟩ := zbind hf
  refine c_R_cutAll_L17 hZ hR (by omega) hN hRm N N (R_s_taped_size v0 0 (R_taped v0)) 0 0 (R_sort v0) (R_place v0) (R_value v0) q53 h54 ?_
  show AW Z 0 0 279 [some (.ref 0), some (.int q53.1), none, none, none, none, none] [] ([kR 0 (R_s_taped_size_sort_place_value v0 0 (R_taped v0) q53.2.1 q53.2.2.1 q53.2.2.2)] : List (List zE)).flatten
  refine AW.run hZ hRm [286] 400 ?_
  show (¬ (q53.1 < 0 ∨ 1002 ≤ Int32.toNatClampNeg q53.1) ∧ AW Z 0 0 286 [some (.ref 0), some (.int q53.1), none, none, none, none, none] [] ([kR 0 (R_s_taped_size_sort_place_value v0 0 (R_taped v0) (upd q53.2.1 (Int32.toNatClampNeg q53.1) 0) q53.2.2.1 q53.2.2.2)] : List (List zE)).flatten)
  obtain ⟨b58, hf⟩ := zneed hf
  refine ⟨b58, ?_⟩
  replace hf := zlet_gen hf
  generalize ((upd q53.2.1 (Int32.toNatClampNeg q53.1) 0) : (Nat → Int32)) = z55 at hf ⊢
  as_aux_lemma =>
    refine AW.run hZ hRm [296] 400 ?_
    show (¬ (q53.1 < 0 ∨ 1002 ≤ Int32.toNatClampNeg q53.1) ∧ AW Z 0 0 296 [some (.ref 0), some (.int q53.1), none, none, none, none, none] [] ([kR 0 (R_s_taped_size_sort_place_value v0 0 (R_taped v0) z55 (upd q53.2.2.1 (Int32.toNatClampNeg q53.1) (R_taped v0)) q53.2.2.2)] : List (List zE)).flatten)
    obtain ⟨b57, hf⟩ := zneed hf
    refine ⟨b57, ?_⟩
    replace hf := zlet_gen hf
    generalize ((upd q53.2.2.1 (Int32.toNatClampNeg q53.1) (R_taped v0)) : (Nat → Int32)) = z56 at hf ⊢
    as_aux_lemma =>
      refine AW.run hZ hRm [306] 400 ?_
      show AW Z 0 0 306 [some (.ref 0), some (.int q53.1), none, none, none, none, none] [] ([kR 0 (R_s_taped_size_sort_place_value_at_fault v0 0 (R_taped v0) z55 z56 q53.2.2.2 0 0)] : List (List zE)).flatten
      cases hf
      exact AW.vret hZ hE rfl rfl rfl (Nat.le_refl 0) (Nat.le_refl 0) rfl ⟨rfl, rfl⟩
def f_R_wrong (N : Nat) (v0 : VR) (a1 : Int32) : Option (Int32) := (if ((R_fault v0) = 0) then (if ((R_at v0) < 0 ∨ 1002 ≤ Int32.toNatClampNeg (R_at v0)) then none else (some (a1 + (16 * ((R_place v0) (Int32.toNatClampNeg (R_at v0))))))) else (some (R_fault v0)))
set_option maxRecDepth 20000 in
set_option maxHeartbeats 4000000 in
theorem c_R_wrong (N : Nat) (v0 : VR) (a1 : Int32) (R : Int32) (hf : f_R_wrong N v0 a1 = some R) : Ct zMX12_wrong 1 0 0 0 [.ref 0, .int a1] ([kR 0 v0] : List (List zE)).flatten (fun v cc => v = none ∧ cc = ([kR 0 (R_fault_s v0 R)] : List (List zE)).flatten) := by
  refine Ct.of zMX12_wrong_ok (by decide) (Nat.le_of_ble_eq_true rfl) ?_
  intro Z hZ hR hN hE
  have hRm : zRoom Z 0 0 := zRoom0 Z
  unfold f_R_wrong at hf
  show AW Z 0 0 0 [some (.ref 0), some (.int a1)] [] ([kR 0 v0] : List (List zE)).flatten
  refine AW.run hZ hRm [25] 400 ?_
  show ((¬ ((R_fault v0) = 0) → AW Z 0 0 25 [some (.ref 0), some (.int a1)] [] ([kR 0 v0] : List (List zE)).flatten) ∧ (((R_fault v0) = 0) → (¬ ((R_at v0) < 0 ∨ 1002 ≤ Int32.toNatClampNeg (R_at v0)) ∧ AW Z 0 0 25 [some (.ref 0), some (.int a1)] [] ([kR 0 (R_fault_s v0 (a1 + (16 * ((R_place v0) (Int32.toNatClampNeg (R_at v0))))))] : List (List zE)).flatten)))
  refine ⟨fun c1 => ?_, fun c1 => ?_⟩
  · rw [if_neg c1] at hf
    cases hf
    exact AW.vret hZ hE rfl rfl rfl (Nat.le_refl 0) (Nat.le_refl 0) rfl ⟨rfl, rfl⟩
  · rw [if_pos c1] at hf
    obtain ⟨b2, hf⟩ := zneed hf
    refine ⟨b2, ?_⟩
    cases hf
    exact AW.vret hZ hE rfl rfl rfl (Nat.le_refl 0) (Nat.le_refl 0) rfl ⟨rfl, rfl⟩
def f_R_isSign (N : Nat) (v0 : VR) (a1 : Int32) : Option (Int32) := (if ((R_fault v0) = 0) then (if ((R_at v0) < 0 ∨ 1002 ≤ Int32.toNatClampNeg (R_at v0)) then none else (if (((R_sort v0) (Int32.toNatClampNeg (R_at v0))) = 3) then (if ((R_at v0) < 0 ∨ 1002 ≤ Int32.toNatClampNeg (R_at v0)) then none else (if ((lg_cmp ((R_value v0) (Int32.toNatClampNeg (R_at v0))) (Int32.toInt64 a1)) = 0) then (some 1) else (some 0))) else (some 0))) else (some 0))
set_option maxRecDepth 20000 in
set_option maxHeartbeats 4000000 in
theorem c_R_isSign (N : Nat) (v0 : VR) (a1 : Int32) (R : Int32) (hf : f_R_isSign N v0 a1 = some R) : Ct zMX12_isSign 1 0 0 0 [.ref 0, .int a1] ([kR 0 v0] : List (List zE)).flatten (fun v cc => v = some (.int R) ∧ cc = ([kR 0 v0] : List (List zE)).flatten) := by
  refine Ct.of zMX12_isSign_ok (by decide) (Nat.le_of_ble_eq_true rfl) ?_
  intro Z hZ hR hN hE
  have hRm : zRoom Z 0 0 := zRoom0 Z
  unfold f_R_isSign at hf
  show AW Z 0 0 0 [some (.ref 0), some (.int a1)] [] ([kR 0 v0] : List (List zE)).flatten
  refine AW.run hZ hRm [40] 400 ?_
  show ((¬ ((R_fault v0) = 0) → AW Z 0 0 40 [some (.ref 0), some (.int a1)] [.int 0] ([kR 0 v0] : List (List zE)).flatten) ∧ (((R_fault v0) = 0) → (¬ ((R_at v0) < 0 ∨ 1002 ≤ Int32.toNatClampNeg (R_at v0)) ∧ ((¬ (((R_sort v0) (Int32.toNatClampNeg (R_at v0))) = 3) → AW Z 0 0 40 [some (.ref 0), some (.int a1)] [.int 0] ([kR 0 v0] : List (List zE)).flatten) ∧ ((((R_sort v0) (Int32.toNatClampNeg (R_at v0))) = 3) → (¬ ((R_at v0) < 0 ∨ 1002 ≤ Int32.toNatClampNeg (R_at v0)) ∧ ((¬ ((lg_cmp ((R_value v0) (Int32.toNatClampNeg (R_at v0))) (Int32.toInt64 a1)) = 0) → AW Z 0 0 40 [some (.ref 0), some (.int a1)] [.int 0] ([kR 0 v0] : List (List zE)).flatten) ∧ (((lg_cmp ((R_value v0) (Int32.toNatClampNeg (R_at v0))) (Int32.toInt64 a1)) = 0) → AW Z 0 0 40 [some (.ref 0), some (.int a1)] [.int 1] ([kR 0 v0] : List (List zE)).flatten))))))))
  refine ⟨fun c1 => ?_, fun c1 => ?_⟩
  · rw [if_neg c1] at hf
    cases hf
    exact AW.iret hZ hE rfl rfl rfl rfl (Nat.le_refl 0) (Nat.le_refl 0) rfl ⟨rfl, rfl⟩
  · rw [if_pos c1] at hf
    obtain ⟨b5, hf⟩ := zneed hf
    refine ⟨b5, ?_⟩
    refine ⟨fun c2 => ?_, fun c2 => ?_⟩
    · rw [if_neg c2] at hf
      cases hf
      exact AW.iret hZ hE rfl rfl rfl rfl (Nat.le_refl 0) (Nat.le_refl 0) rfl ⟨rfl, rfl⟩
    · rw [if_pos c2] at hf
      obtain ⟨b4, hf⟩ := zneed hf
      refine ⟨b4, ?_⟩
      refine ⟨fun c3 => ?_, fun c3 => ?_⟩
      · rw [if_neg c3] at hf
        cases hf
        exact AW.iret hZ hE rfl rfl rfl rfl (Nat.le_refl 0) (Nat.le_refl 0) rfl ⟨rfl, rfl⟩
      · rw [if_pos c3] at hf
        cases hf
        exact AW.iret hZ hE rfl rfl rfl rfl (Nat.le_refl 0) (Nat.le_refl 0) rfl ⟨rfl, rfl⟩
def f_R_isWord (N : Nat) (v0 : VR) (a1 : Int32) : Option (Int32) := (if ((R_fault v0) = 0) then (if ((R_at v0) < 0 ∨ 1002 ≤ Int32.toNatClampNeg (R_at v0)) then none else (if (((R_sort v0) (Int32.toNatClampNeg (R_at v0))) = 1) then (if ((R_at v0) < 0 ∨ 1002 ≤ Int32.toNatClampNeg (R_at v0)) then none else (if (a1 < 0 ∨ 27 ≤ Int32.toNatClampNeg a1) then none else (if ((lg_cmp ((R_value v0) (Int32.toNatClampNeg (R_at v0))) ((R_words v0) (Int32.toNatClampNeg a1))) = 0) then (some 1) else (some 0)))) else (some 0))) else (some 0))
set_option maxRecDepth 20000 in
set_option maxHeartbeats 4000000 in
theorem c_R_isWord (N : Nat) (v0 : VR) (a1 : Int32) (R : Int32) (hf : f_R_isWord N v0 a1 = some R) : Ct zMX12_isWord 1 0 0 0 [.ref 0, .int a1] ([kR 0 v0] : List (List zE)).flatten (fun v cc => v = some (.int R) ∧ cc = ([kR 0 v0] : List (List zE)).flatten) := by
  refine Ct.of zMX12_isWord_ok (by decide) (Nat.le_of_ble_eq_true rfl) ?_
  intro Z hZ hR hN hE
  have hRm : zRoom Z 0 0 := zRoom0 Z
  unfold f_R_isWord at hf
  show AW Z 0 0 0 [some (.ref 0), some (.int a1)] [] ([kR 0 v0] : List (List zE)).flatten
  refine AW.run hZ hRm [44] 400 ?_
  show ((¬ ((R_fault v0) = 0) → AW Z 0 0 44 [some (.ref 0), some (.int a1)] [.int 0] ([kR 0 v0] : List (List zE)).flatten) ∧ (((R_fault v0) = 0) → (¬ ((R_at v0) < 0 ∨ 1002 ≤ Int32.toNatClampNeg (R_at v0)) ∧ ((¬ (((R_sort v0) (Int32.toNatClampNeg (R_at v0))) = 1) → AW Z 0 0 44 [some (.ref 0), some (.int a1)] [.int 0] ([kR 0 v0] : List (List zE)).flatten) ∧ ((((R_sort v0) (Int32.toNatClampNeg (R_at v0))) = 1) → (¬ ((R_at v0) < 0 ∨ 1002 ≤ Int32.toNatClampNeg (R_at v0)) ∧ (¬ (a1 < 0 ∨ 27 ≤ Int32.toNatClampNeg a1) ∧ ((¬ ((lg_cmp ((R_value v0) (Int32.toNatClampNeg (R_at v0))) ((R_words v0) (Int32.toNatClampNeg a1))) = 0) → AW Z 0 0 44 [some (.ref 0), some (.int a1)] [.int 0] ([kR 0 v0] : List (List zE)).flatten) ∧ (((lg_cmp ((R_value v0) (Int32.toNatClampNeg (R_at v0))) ((R_words v0) (Int32.toNatClampNeg a1))) = 0) → AW Z 0 0 44 [some (.ref 0), some (.int a1)] [.int 1] ([kR 0 v0] : List (List zE)).flatten)))))))))
  refine ⟨fun c1 => ?_, fun c1 => ?_⟩
  · rw [if_neg c1] at hf
    cases hf
    exact AW.iret hZ hE rfl rfl rfl rfl (Nat.le_refl 0) (Nat.le_refl 0) rfl ⟨rfl, rfl⟩
  · rw [if_pos c1] at hf
    obtain ⟨b6, hf⟩ := zneed hf
    refine ⟨b6, ?_⟩
    refine ⟨fun c2 => ?_, fun c2 => ?_⟩
    · rw [if_neg c2] at hf
      cases hf
      exact AW.iret hZ hE rfl rfl rfl rfl (Nat.le_refl 0) (Nat.le_refl 0) rfl ⟨rfl, rfl⟩
    · rw [if_pos c2] at hf
      obtain ⟨b5, hf⟩ := zneed hf
      refine ⟨b5, ?_⟩
      obtain ⟨b4, hf⟩ := zneed hf
      refine ⟨b4, ?_⟩
      refine ⟨fun c3 => ?_, fun c3 => ?_⟩
      · rw [if_neg c3] at hf
        cases hf
        exact AW.iret hZ hE rfl rfl rfl rfl (Nat.le_refl 0) (Nat.le_refl 0) rfl ⟨rfl, rfl⟩
      · rw [if_pos c3] at hf
        cases hf
        exact AW.iret hZ hE rfl rfl rfl rfl (Nat.le_refl 0) (Nat.le_refl 0) rfl ⟨rfl, rfl⟩
