def f_R_goesHome_L51 (N : Nat) : Nat → VR → Int32 → Int32 → Int32 → (Nat → Int32) → Option ((Nat → Int32))
  | 0, _, _, _, _, _ => none
  | fuel + 1, v0, y1, y2, x3, m_state0 => ((f_R_people N (R_state_s v0 m_state0)).bind (fun q6 => (if (q6 ≤ x3) then (some m_state0) else (if (((y1 + 28) + x3) < 0 ∨ 1656 ≤ Int32.toNatClampNeg ((y1 + 28) + x3)) then none else (zlet ((upd m_state0 (Int32.toNatClampNeg ((y1 + 28) + x3)) x3) : (Nat → Int32)) (fun z8 => (if (((y1 + 22) + x3) < 0 ∨ 1656 ≤ Int32.toNatClampNeg ((y1 + 22) + x3)) then none else (zlet ((upd z8 (Int32.toNatClampNeg ((y1 + 22) + x3)) 0) : (Nat → Int32)) (fun z9 => (f_R_goesHome_L51 N fuel v0 y1 y2 (x3 + 1) z9))))))))))
def f_R_goesHome (N : Nat) (v0 : VR) (a1 : Int32) : Option (Int32 × (Nat → Int32)) := ((f_R_allHarm N v0 a1 0).bind (fun q1 => (if ((a1 + 0) < 0 ∨ 1656 ≤ Int32.toNatClampNeg (a1 + 0)) then none else (zlet ((upd (R_state v0) (Int32.toNatClampNeg (a1 + 0)) 0) : (Nat → Int32)) (fun z2 => (if ((a1 + 1) < 0 ∨ 1656 ≤ Int32.toNatClampNeg (a1 + 1)) then none else (zlet ((upd z2 (Int32.toNatClampNeg (a1 + 1)) 0) : (Nat → Int32)) (fun z3 => (if ((a1 + 2) < 0 ∨ 1656 ≤ Int32.toNatClampNeg (a1 + 2)) then none else (if ((a1 + 2) < 0 ∨ 1656 ≤ Int32.toNatClampNeg (a1 + 2)) then none else (zlet ((upd z3 (Int32.toNatClampNeg (a1 + 2)) ((z3 (Int32.toNatClampNeg (a1 + 2))) + 1)) : (Nat → Int32)) (fun z4 => (if ((a1 + 3) < 0 ∨ 1656 ≤ Int32.toNatClampNeg (a1 + 3)) then none else (if ((a1 + 3) < 0 ∨ 1656 ≤ Int32.toNatClampNeg (a1 + 3)) then none else (zlet ((upd z4 (Int32.toNatClampNeg (a1 + 3)) ((z4 (Int32.toNatClampNeg (a1 + 3))) + q1)) : (Nat → Int32)) (fun z5 => ((f_R_goesHome_L51 N N (R_state_s v0 z5) a1 q1 0 z5).bind (fun q13 => (some (q1, q13))))))))))))))))))))
set_option maxRecDepth 20000 in
set_option maxHeartbeats 4000000 in
theorem c_R_goesHome_L51 {Z : zCtx} {D n0w nf mcw msw : Nat} (hZ : zOk Z zMX12_goesHome) (hR : zCan Z D mcw msw) (hDd : 3 ≤ D) (hN : zNew Z n0w nf) (hRm : zRoom Z 0 0) (N : Nat) : ∀ (fuel : Nat) (v0 : VR) (y1 : Int32) (y2 : Int32) (x3 : Int32) (m_state0 : (Nat → Int32)) (q : ((Nat → Int32))), f_R_goesHome_L51 N fuel v0 y1 y2 x3 m_state0 = some q → (AW Z 0 0 89 [none, none, some (.int y2), none] [] ([kR 0 (R_state_s v0 q)] : List (List zE)).flatten) → AW Z 0 0 51 [some (.ref 0), some (.int y1), some (.int y2), some (.int x3)] [] ([kR 0 (R_state_s v0 m_state0)] : List (List zE)).flatten := by
  intro fuel
  induction fuel with
  | zero =>
    intro v0 y1 y2 x3 m_state0 q hf hk0
    simp [f_R_goesHome_L51] at hf
  | succ fuel ih =>
    intro v0 y1 y2 x3 m_state0 q hf hk0
    rw [f_R_goesHome_L51] at hf
    refine AW.run hZ hRm [53] 400 ?_
    show AW Z 0 0 53 [some (.ref 0), some (.int y1), some (.int y2), some (.int x3)] [.ref 0, .int x3] ([kR 0 (R_state_s v0 m_state0)] : List (List zE)).flatten
    obtain ⟨q6, h12, hf⟩ := zbind hf
    refine AW.callVc hZ hR hN (c_R_people N (R_state_s v0 m_state0) q6 h12) zMX12_people_ok rfl rfl zK_BorrowedLivesModel_291 zV_X12_people rfl [25] [0] [0, 1, 2, 3, 4, 5, 6, 7, 8, 9, 10, 11, 12, 13, 14, 15, 16, 17, 18, 19, 20, 21, 22, 23, 24] rfl rfl rfl (by decide) (by decide) (by omega) (by decide) (Nat.zero_le _) (Nat.zero_le _) rfl rfl rfl rfl rfl ?_
    rintro v cc ⟨rfl, rfl⟩
    refine ⟨_, rfl, rfl, ?_⟩
    show AW Z 0 0 56 [some (.ref 0), some (.int y1), some (.int y2), some (.int x3)] [.int q6, .int x3] ([kR 0 (R_state_s v0 m_state0)] : List (List zE)).flatten
    refine AW.run hZ hRm [71, 89] 400 ?_
    show (((q6 ≤ x3) → AW Z 0 0 89 [some (.ref 0), some (.int y1), some (.int y2), some (.int x3)] [] ([kR 0 (R_state_s v0 m_state0)] : List (List zE)).flatten) ∧ (¬ (q6 ≤ x3) → (¬ (((y1 + 28) + x3) < 0 ∨ 1656 ≤ Int32.toNatClampNeg ((y1 + 28) + x3)) ∧ AW Z 0 0 71 [some (.ref 0), some (.int y1), some (.int y2), some (.int x3)] [] ([kR 0 (R_state_s v0 (upd m_state0 (Int32.toNatClampNeg ((y1 + 28) + x3)) x3))] : List (List zE)).flatten)))
    refine ⟨fun c7 => ?_, fun c7 => ?_⟩
    · rw [if_pos c7] at hf
      cases hf
      refine AW.forget [false, false, true, false] ?_
      show AW Z 0 0 89 [none, none, some (.int y2), none] [] ([kR 0 (R_state_s v0 m_state0)] : List (List zE)).flatten
      exact hk0
    · rw [if_neg c7] at hf
      obtain ⟨b11, hf⟩ := zneed hf
      refine ⟨b11, ?_⟩
      replace hf := zlet_gen hf
      generalize ((upd m_state0 (Int32.toNatClampNeg ((y1 + 28) + x3)) x3) : (Nat → Int32)) = z8 at hf ⊢
      as_aux_lemma =>
        refine AW.run hZ hRm [83] 400 ?_
        show (¬ (((y1 + 22) + x3) < 0 ∨ 1656 ≤ Int32.toNatClampNeg ((y1 + 22) + x3)) ∧ AW Z 0 0 83 [some (.ref 0), some (.int y1), some (.int y2), some (.int x3)] [] ([kR 0 (R_state_s v0 (upd z8 (Int32.toNatClampNeg ((y1 + 22) + x3)) 0))] : List (List zE)).flatten)
        obtain ⟨b10, hf⟩ := zneed hf
        refine ⟨b10, ?_⟩
        replace hf := zlet_gen hf
        generalize ((upd z8 (Int32.toNatClampNeg ((y1 + 22) + x3)) 0) : (Nat → Int32)) = z9 at hf ⊢
        as_aux_lemma =>
          refine AW.run hZ hRm [51] 400 ?_
          show AW Z 0 0 51 [some (.ref 0), some (.int y1), some (.int y2), some (.int (x3 + 1))] [] ([kR 0 (R_state_s v0 z9)] : List (List zE)).flatten
          exact ih v0 y1 y2 (x3 + 1) z9 q hf hk0
set_option maxRecDepth 20000 in
set_option maxHeartbeats 4000000 in
theorem c_R_goesHome (N : Nat) (v0 : VR) (a1 : Int32) (R : Int32 × (Nat → Int32)) (hf : f_R_goesHome N v0 a1 = some R) : Ct zMX12_goesHome 3 0 0 0 [.ref 0, .int a1] ([kR 0 v0] : List (List zE)).flatten (fun v cc => v = some (.int R.1) ∧ cc = ([kR 0 (R_state_s v0 R.2)] : List (List zE)).flatten) := by
  refine Ct.of zMX12_goesHome_ok (by decide) (Nat.le_of_ble_eq_true rfl) ?_
  intro Z hZ hR hN hE
  have hRm : zRoom Z 0 0 := zRoom0 Z
  unfold f_R_goesHome at hf
  show AW Z 0 0 0 [some (.ref 0), some (.int a1), none, none] [] ([kR 0 v0] : List (List zE)).flatten
  refine AW.run hZ hRm [3] 400 ?_
  show AW Z 0 0 3 [some (.ref 0), some (.int a1), none, none] [.int 0, .int a1, .ref 0] ([kR 0 v0] : List (List zE)).flatten
  obtain ⟨q1, h21, hf⟩ := zbind hf
  refine AW.callVc hZ hR hN (c_R_allHarm N v0 a1 0 q1 h21) zMX12_allHarm_ok rfl rfl zK_BorrowedLivesModel_352 zV_X12_allHarm rfl [25] [0] [0, 1, 2, 3, 4, 5, 6, 7, 8, 9, 10, 11, 12, 13, 14, 15, 16, 17, 18, 19, 20, 21, 22, 23, 24] rfl rfl rfl (by decide) (by decide) (by omega) (by decide) (Nat.zero_le _) (Nat.zero_le _) rfl rfl rfl rfl rfl ?_
  rintro v cc ⟨rfl, rfl⟩
  refine ⟨_, rfl, rfl, ?_⟩
  show AW Z 0 0 6 [some (.ref 0), some (.int a1), none, none] [.int q1] ([kR 0 v0] : List (List zE)).flatten
  refine AW.run hZ hRm [16] 400 ?_
  show (¬ ((a1 + 0) < 0 ∨ 1656 ≤ Int32.toNatClampNeg (a1 + 0)) ∧ AW Z 0 0 16 [some (.ref 0), some (.int a1), some (.int q1), none] [] ([kR 0 (R_state_s v0 (upd (R_state v0) (Int32.toNatClampNeg (a1 + 0)) 0))] : List (List zE)).flatten)
  obtain ⟨b20, hf⟩ := zneed hf
  refine ⟨b20, ?_⟩
  replace hf := zlet_gen hf
  generalize ((upd (R_state v0) (Int32.toNatClampNeg (a1 + 0)) 0) : (Nat → Int32)) = z2 at hf ⊢
  as_aux_lemma =>
    refine AW.run hZ hRm [25] 400 ?_
    show (¬ ((a1 + 1) < 0 ∨ 1656 ≤ Int32.toNatClampNeg (a1 + 1)) ∧ AW Z 0 0 25 [some (.ref 0), some (.int a1), some (.int q1), none] [] ([kR 0 (R_state_s v0 (upd z2 (Int32.toNatClampNeg (a1 + 1)) 0))] : List (List zE)).flatten)
    obtain ⟨b19, hf⟩ := zneed hf
    refine ⟨b19, ?_⟩
    replace hf := zlet_gen hf
    generalize ((upd z2 (Int32.toNatClampNeg (a1 + 1)) 0) : (Nat → Int32)) = z3 at hf ⊢
    as_aux_lemma =>
      refine AW.run hZ hRm [37] 400 ?_
      show (¬ ((a1 + 2) < 0 ∨ 1656 ≤ Int32.toNatClampNeg (a1 + 2)) ∧ (¬ ((a1 + 2) < 0 ∨ 1656 ≤ Int32.toNatClampNeg (a1 + 2)) ∧ AW Z 0 0 37 [some (.ref 0), some (.int a1), some (.int q1), none] [] ([kR 0 (R_state_s v0 (upd z3 (Int32.toNatClampNeg (a1 + 2)) ((z3 (Int32.toNatClampNeg (a1 + 2))) + 1)))] : List (List zE)).flatten))
      obtain ⟨b18, hf⟩ := zneed hf
      refine ⟨b18, ?_⟩
      obtain ⟨b17, hf⟩ := zneed hf
      refine ⟨b17, ?_⟩
      replace hf := zlet_gen hf
      generalize ((upd z3 (Int32.toNatClampNeg (a1 + 2)) ((z3 (Int32.toNatClampNeg (a1 + 2))) + 1)) : (Nat → Int32)) = z4 at hf ⊢
      as_aux_lemma =>
        refine AW.run hZ hRm [49] 400 ?_
        show (¬ ((a1 + 3) < 0 ∨ 1656 ≤ Int32.toNatClampNeg (a1 + 3)) ∧ (¬ ((a1 + 3) < 0 ∨ 1656 ≤ Int32.toNatClampNeg (a1 + 3)) ∧ AW Z 0 0 49 [some (.ref 0), some (.int a1), some (.int q1), none] [] ([kR 0 (R_state_s v0 (upd z4 (Int32.toNatClampNeg (a1 + 3)) ((z4 (Int32.toNatClampNeg (a1 + 3))) + q1)))] : List (List zE)).flatten))
        obtain ⟨b16, hf⟩ := zneed hf
        refine ⟨b16, ?_⟩
        obtain ⟨b15, hf⟩ := zneed hf
        refine ⟨b15, ?_⟩
        replace hf := zlet_gen hf
        generalize ((upd z4 (Int32.toNatClampNeg (a1 + 3)) ((z4 (Int32.toNatClampNeg (a1 + 3))) + q1)) : (Nat → Int32)) = z5 at hf ⊢
        as_aux_lemma =>
          refine AW.run hZ hRm [51] 400 ?_
          show AW Z 0 0 51 [some (.ref 0), some (.int a1), some (.int q1), some (.int 0)] [] ([kR 0 (R_state_s v0 z5)] : List (List zE)).flatten
          obtain ⟨q13, h14, hf⟩ := zbind hf
          refine c_R_goesHome_L51 hZ hR (by omega) hN hRm N N (R_state_s v0 z5) a1 q1 0 z5 q13 h14 ?_
          show AW Z 0 0 89 [none, none, some (.int q1), none] [] ([kR 0 (R_state_s v0 q13)] : List (List zE)).flatten
          refine AW.run hZ hRm [90] 400 ?_
          show AW Z 0 0 90 [none, none, some (.int q1), none] [.int q1] ([kR 0 (R_state_s v0 q13)] : List (List zE)).flatten
          cases hf
          exact AW.iret hZ hE rfl rfl rfl rfl (Nat.le_refl 0) (Nat.le_refl 0) rfl ⟨rfl, rfl⟩
def f_R_person_L29 (N : Nat) : Nat → VR → Int32 → Int32 → Int32 → Int32 → Option (Int32)
  | 0, _, _, _, _, _ => none
  | fuel + 1, v0, y1, y2, x3, x4 => ((f_R_people N v0).bind (fun q5 => (if (q5 ≤ x4) then (some x3) else (if ((28 + x4) < 0 ∨ 1656 ≤ Int32.toNatClampNeg (28 + x4)) then none else (zlet ((if (((R_state v0) (Int32.toNatClampNeg (28 + x4))) = y1) then x4 else x3) : Int32) (fun z9 => (f_R_person_L29 N fuel v0 y1 y2 z9 (x4 + 1))))))))
def f_R_person (N : Nat) (v0 : VR) (a1 : Int32) (a2 : Int32) : Option (Int32 × Int32) := ((f_R_isPerson N (R_thrown_s v0 0) a1).bind (fun q1 => (if (q1 = 0) then (some ((-1), 0)) else ((f_R_within N a2 0 2).bind (fun q3 => (if (q3 = 0) then (some ((-1), 0)) else ((f_R_person_L29 N N (R_thrown_s v0 0) a1 a2 (-1) 0).bind (fun q12 => (if (2 ≤ a2) then (some (q12, 0)) else ((f_R_personOf N (R_thrown_s v0 0) a1 a2).bind (fun q15 => (some (q15, 0)))))))))))))
set_option maxRecDepth 20000 in
set_option maxHeartbeats 4000000 in
theorem c_R_person_L29 {Z : zCtx} {D n0w nf mcw msw : Nat} (hZ : zOk Z zMX12_person) (hR : zCan Z D mcw msw) (hDd : 3 ≤ D) (hN : zNew Z n0w nf) (hRm : zRoom Z 0 0) (N : Nat) : ∀ (fuel : Nat) (v0 : VR) (y1 : Int32) (y2 : Int32) (x3 : Int32) (x4 : Int32) (q : (Int32)), f_R_person_L29 N fuel v0 y1 y2 x3 x4 = some q → (AW Z 0 0 65 [some (.ref 0), some (.int y1), some (.int y2), some (.int q), none] [] ([kR 0 v0] : List (List zE)).flatten) → AW Z 0 0 29 [some (.ref 0), some (.int y1), some (.int y2), some (.int x3), some (.int x4)] [] ([kR 0 v0] : List (List zE)).flatten := by
  intro fuel
  induction fuel with
  | zero =>
    intro v0 y1 y2 x3 x4 q hf hk0
    simp [f_R_person_L29] at hf
  | succ fuel ih =>
    intro v0 y1 y2 x3 x4 q hf hk0
    rw [f_R_person_L29] at hf
    refine AW.run hZ hRm [32] 400 ?_
    show AW Z 0 0 32 [some (.ref 0), some (.int y1), some (.int y2), some (.int x3), some (.int x4)] [.ref 0, .int x4] ([kR 0 v0] : List (List zE)).flatten
    obtain ⟨q5, h11, hf⟩ := zbind hf
    refine AW.callVc hZ hR hN (c_R_people N v0 q5 h11) zMX12_people_ok rfl rfl zK_BorrowedLivesModel_291 zV_X12_people rfl [25] [0] [0, 1, 2, 3, 4, 5, 6, 7, 8, 9, 10, 11, 12, 13, 14, 15, 16, 17, 18, 19, 20, 21, 22, 23, 24] rfl rfl rfl (by decide) (by decide) (by omega) (by decide) (Nat.zero_le _) (Nat.zero_le _) rfl rfl rfl rfl rfl ?_
    rintro v cc ⟨rfl, rfl⟩
    refine ⟨_, rfl, rfl, ?_⟩
    show AW Z 0 0 35 [some (.ref 0), some (.int y1), some (.int y2), some (.int x3), some (.int x4)] [.int q5, .int x4] ([kR 0 v0] : List (List zE)).flatten
    refine AW.run hZ hRm [49, 65] 400 ?_
    show (((q5 ≤ x4) → AW Z 0 0 65 [some (.ref 0), some (.int y1), some (.int y2), some (.int x3), some (.int x4)] [] ([kR 0 v0] : List (List zE)).flatten) ∧ (¬ (q5 ≤ x4) → (¬ ((28 + x4) < 0 ∨ 1656 ≤ Int32.toNatClampNeg (28 + x4)) ∧ AW Z 0 0 49 [some (.ref 0), some (.int y1), some (.int y2), some (.int x3), some (.int x4)] [.int y1, .int ((R_state v0) (Int32.toNatClampNeg (28 + x4)))] ([kR 0 v0] : List (List zE)).flatten)))
    refine ⟨fun c6 => ?_, fun c6 => ?_⟩
    · rw [if_pos c6] at hf
      cases hf
      refine AW.forget [true, true, true, true, false] ?_
      show AW Z 0 0 65 [some (.ref 0), some (.int y1), some (.int y2), some (.int x3), none] [] ([kR 0 v0] : List (List zE)).flatten
      exact hk0
    · rw [if_neg c6] at hf
      obtain ⟨b10, hf⟩ := zneed hf
      refine ⟨b10, ?_⟩
      suffices H7 : AW Z 0 0 58 [some (.ref 0), some (.int y1), some (.int y2), none, some (.int x4)] [.int (if (((R_state v0) (Int32.toNatClampNeg (28 + x4))) = y1) then x4 else x3)] ([kR 0 v0] : List (List zE)).flatten from by
        refine AW.run hZ hRm [58] 400 ?_
        show ((¬ (((R_state v0) (Int32.toNatClampNeg (28 + x4))) = y1) → AW Z 0 0 58 [some (.ref 0), some (.int y1), some (.int y2), some (.int x3), some (.int x4)] [.int x3] ([kR 0 v0] : List (List zE)).flatten) ∧ ((((R_state v0) (Int32.toNatClampNeg (28 + x4))) = y1) → AW Z 0 0 58 [some (.ref 0), some (.int y1), some (.int y2), some (.int x3), some (.int x4)] [.int x4] ([kR 0 v0] : List (List zE)).flatten))
        refine ⟨fun c8 => ?_, fun c8 => ?_⟩
        · refine AW.forget [true, true, true, false, true] ?_
          show AW Z 0 0 58 [some (.ref 0), some (.int y1), some (.int y2), none, some (.int x4)] [.int x3] ([kR 0 v0] : List (List zE)).flatten
          simpa only [if_neg c8] using H7
        · refine AW.forget [true, true, true, false, true] ?_
          show AW Z 0 0 58 [some (.ref 0), some (.int y1), some (.int y2), none, some (.int x4)] [.int x4] ([kR 0 v0] : List (List zE)).flatten
          simpa only [if_pos c8] using H7
      replace hf := zlet_gen hf
      generalize ((if (((R_state v0) (Int32.toNatClampNeg (28 + x4))) = y1) then x4 else x3) : Int32) = z9 at hf ⊢
      refine AW.run hZ hRm [29] 400 ?_
      show AW Z 0 0 29 [some (.ref 0), some (.int y1), some (.int y2), some (.int z9), some (.int (x4 + 1))] [] ([kR 0 v0] : List (List zE)).flatten
      exact ih v0 y1 y2 z9 (x4 + 1) q hf hk0
set_option maxRecDepth 20000 in
set_option maxHeartbeats 4000000 in
theorem c_R_person (N : Nat) (v0 : VR) (a1 : Int32) (a2 : Int32) (R : Int32 × Int32) (hf : f_R_person N v0 a1 a2 = some R) : Ct zMX12_person 3 0 0 0 [.ref 0, .int a1, .int a2] ([kR 0 v0] : List (List zE)).flatten (fun v cc => v = some (.int R.1) ∧ cc = ([kR 0 (R_thrown_s v0 R.2)] : List (List zE)).flatten) := by
  refine Ct.of zMX12_person_ok (by decide) (Nat.le_of_ble_eq_true rfl) ?_
  intro Z hZ hR hN hE
  have hRm : zRoom Z 0 0 := zRoom0 Z
  unfold f_R_person at hf
  show AW Z 0 0 0 [some (.ref 0), some (.int a1), some (.int a2), none, none] [] ([kR 0 v0] : List (List zE)).flatten
  refine AW.run hZ hRm [7] 400 ?_
  show AW Z 0 0 7 [some (.ref 0), some (.int a1), some (.int a2), none, none] [.int a1, .ref 0] ([kR 0 (R_thrown_s v0 0)] : List (List zE)).flatten
  obtain ⟨q1, h18, hf⟩ := zbind hf
  refine AW.callVc hZ hR hN (c_R_isPerson N (R_thrown_s v0 0) a1 q1 h18) zMX12_isPerson_ok rfl rfl zK_BorrowedLivesModel_356 zV_X12_isPerson rfl [25] [0] [0, 1, 2, 3, 4, 5, 6, 7, 8, 9, 10, 11, 12, 13, 14, 15, 16, 17, 18, 19, 20, 21, 22, 23, 24] rfl rfl rfl (by decide) (by decide) (by omega) (by decide) (Nat.zero_le _) (Nat.zero_le _) rfl rfl rfl rfl rfl ?_
  rintro v cc ⟨rfl, rfl⟩
  refine ⟨_, rfl, rfl, ?_⟩
  show AW Z 0 0 10 [some (.ref 0), some (.int a1), some (.int a2), none, none] [.int q1] ([kR 0 (R_thrown_s v0 0)] : List (List zE)).flatten
  refine AW.run hZ hRm [16, 23] 400 ?_
  show (((q1 = 0) → AW Z 0 0 23 [some (.ref 0), some (.int a1), some (.int a2), none, none] [.int (-1)] ([kR 0 (R_thrown_s v0 0)] : List (List zE)).flatten) ∧ (¬ (q1 = 0) → AW Z 0 0 16 [some (.ref 0), some (.int a1), some (.int a2), none, none] [.int 2, .int 0, .int a2] ([kR 0 (R_thrown_s v0 0)] : List (List zE)).flatten))
  refine ⟨fun c2 => ?_, fun c2 => ?_⟩
  · rw [if_pos c2] at hf
    cases hf
    exact AW.iret hZ hE rfl rfl rfl rfl (Nat.le_refl 0) (Nat.le_refl 0) rfl ⟨rfl, rfl⟩
  · rw [if_neg c2] at hf
    obtain ⟨q3, h17, hf⟩ := zbind hf
    refine AW.callSc hZ hR hN (c_R_within N a2 0 2 q3 h17) zMX12_within_ok rfl rfl zK_BorrowedLivesModel_359 zV_X12_within rfl [25] [] [] rfl rfl rfl (by decide) (by decide) (by omega) (by decide) (Nat.zero_le _) (Nat.zero_le _) rfl rfl ?_
    rintro v cc ⟨rfl, rfl⟩
    refine ⟨_, rfl, rfl, ?_⟩
    show AW Z 0 0 19 [some (.ref 0), some (.int a1), some (.int a2), none, none] [.int q3] ([kR 0 (R_thrown_s v0 0)] : List (List zE)).flatten
    refine AW.run hZ hRm [23, 29] 400 ?_
    show ((¬ (q3 = 0) → AW Z 0 0 29 [some (.ref 0), some (.int a1), some (.int a2), some (.int (-1)), some (.int 0)] [] ([kR 0 (R_thrown_s v0 0)] : List (List zE)).flatten) ∧ ((q3 = 0) → AW Z 0 0 23 [some (.ref 0), some (.int a1), some (.int a2), none, none] [.int (-1)] ([kR 0 (R_thrown_s v0 0)] : List (List zE)).flatten))
    refine ⟨fun c4 => ?_, fun c4 => ?_⟩
    · rw [if_neg c4] at hf
      obtain ⟨q12, h13, hf⟩ := zbind hf
      refine c_R_person_L29 hZ hR (by omega) hN hRm N N (R_thrown_s v0 0) a1 a2 (-1) 0 q12 h13 ?_
      show AW Z 0 0 65 [some (.ref 0), some (.int a1), some (.int a2), some (.int q12), none] [] ([kR 0 (R_thrown_s v0 0)] : List (List zE)).flatten
      refine AW.run hZ hRm [73, 80] 400 ?_
      show (((2 ≤ a2) → AW Z 0 0 80 [some (.ref 0), some (.int a1), some (.int a2), some (.int q12), none] [.int q12] ([kR 0 (R_thrown_s v0 0)] : List (List zE)).flatten) ∧ (¬ (2 ≤ a2) → AW Z 0 0 73 [some (.ref 0), some (.int a1), some (.int a2), some (.int q12), none] [.int a2, .int a1, .ref 0] ([kR 0 (R_thrown_s v0 0)] : List (List zE)).flatten))
      refine ⟨fun c14 => ?_, fun c14 => ?_⟩
      · rw [if_pos c14] at hf
        cases hf
        exact AW.iret hZ hE rfl rfl rfl rfl (Nat.le_refl 0) (Nat.le_refl 0) rfl ⟨rfl, rfl⟩
      · rw [if_neg c14] at hf
        obtain ⟨q15, h16, hf⟩ := zbind hf
        refine AW.callVc hZ hR hN (c_R_personOf N (R_thrown_s v0 0) a1 a2 q15 h16) zMX12_personOf_ok rfl rfl zK_BorrowedLivesModel_294 zV_X12_personOf rfl [25] [0] [0, 1, 2, 3, 4, 5, 6, 7, 8, 9, 10, 11, 12, 13, 14, 15, 16, 17, 18, 19, 20, 21, 22, 23, 24] rfl rfl rfl (by decide) (by decide) (by omega) (by decide) (Nat.zero_le _) (Nat.zero_le _) rfl rfl rfl rfl rfl ?_
        rintro v cc ⟨rfl, rfl⟩
        refine ⟨_, rfl, rfl, ?_⟩
        show AW Z 0 0 76 [some (.ref 0), some (.int a1), some (.int a2), some (.int q12), none] [.int q15] ([kR 0 (R_thrown_s v0 0)] : List (List zE)).flatten
        refine AW.run hZ hRm [80] 400 ?_
        show AW Z 0 0 80 [some (.ref 0), some (.int a1), some (.int a2), some (.int q12), none] [.int q15] ([kR 0 (R_thrown_s v0 0)] : List (List zE)).flatten
        cases hf
        exact AW.iret hZ hE rfl rfl rfl rfl (Nat.le_refl 0) (Nat.le_refl 0) rfl ⟨rfl, rfl⟩
    · rw [if_pos c4] at hf
      cases hf
      exact AW.iret hZ hE rfl rfl rfl rfl (Nat.le_refl 0) (Nat.le_refl 0) rfl ⟨rfl, rfl⟩
def f_R_life (N : Nat) (v0 : VR) (a1 : Int32) (a2 : Int32) : Option (Int32 × Int32) := ((f_R_isPerson N (R_thrown_s v0 0) a1).bind (fun q1 => (if (q1 = 0) then (some ((-1), 0)) else ((f_R_within N a2 0 6).bind (fun q3 => (if (q3 = 0) then (some ((-1), 0)) else (if (a2 = 0) then (if ((4 + a1) < 0 ∨ 1656 ≤ Int32.toNatClampNeg (4 + a1)) then none else (some (((R_state v0) (Int32.toNatClampNeg (4 + a1))), 0))) else (if (a2 = 1) then (if ((10 + a1) < 0 ∨ 1656 ≤ Int32.toNatClampNeg (10 + a1)) then none else (some (((R_state v0) (Int32.toNatClampNeg (10 + a1))), 0))) else (if (a2 = 2) then (if ((16 + a1) < 0 ∨ 1656 ≤ Int32.toNatClampNeg (16 + a1)) then none else (some (((R_state v0) (Int32.toNatClampNeg (16 + a1))), 0))) else (if (a2 = 3) then (if ((22 + a1) < 0 ∨ 1656 ≤ Int32.toNatClampNeg (22 + a1)) then none else (some (((R_state v0) (Int32.toNatClampNeg (22 + a1))), 0))) else (if (a2 = 4) then (if ((28 + a1) < 0 ∨ 1656 ≤ Int32.toNatClampNeg (28 + a1)) then none else (some (((R_state v0) (Int32.toNatClampNeg (28 + a1))), 0))) else ((f_R_harmOf N (R_thrown_s v0 0) 0 a1 (if (a2 = 6) then 1 else 0)).bind (fun q7 => (some (q7, 0)))))))))))))))
set_option maxRecDepth 20000 in
set_option maxHeartbeats 4000000 in
theorem c_R_life (N : Nat) (v0 : VR) (a1 : Int32) (a2 : Int32) (R : Int32 × Int32) (hf : f_R_life N v0 a1 a2 = some R) : Ct zMX12_life 3 0 0 0 [.ref 0, .int a1, .int a2] ([kR 0 v0] : List (List zE)).flatten (fun v cc => v = some (.int R.1) ∧ cc = ([kR 0 (R_thrown_s v0 R.2)] : List (List zE)).flatten) := by
  refine Ct.of zMX12_life_ok (by decide) (Nat.le_of_ble_eq_true rfl) ?_
  intro Z hZ hR hN hE
  have hRm : zRoom Z 0 0 := zRoom0 Z
  unfold f_R_life at hf
  show AW Z 0 0 0 [some (.ref 0), some (.int a1), some (.int a2)] [] ([kR 0 v0] : List (List zE)).flatten
  refine AW.run hZ hRm [7] 400 ?_
  show AW Z 0 0 7 [some (.ref 0), some (.int a1), some (.int a2)] [.int a1, .ref 0] ([kR 0 (R_thrown_s v0 0)] : List (List zE)).flatten
  obtain ⟨q1, h20, hf⟩ := zbind hf
  refine AW.callVc hZ hR hN (c_R_isPerson N (R_thrown_s v0 0) a1 q1 h20) zMX12_isPerson_ok rfl rfl zK_BorrowedLivesModel_356 zV_X12_isPerson rfl [25] [0] [0, 1, 2, 3, 4, 5, 6, 7, 8, 9, 10, 11, 12, 13, 14, 15, 16, 17, 18, 19, 20, 21, 22, 23, 24] rfl rfl rfl (by decide) (by decide) (by omega) (by decide) (Nat.zero_le _) (Nat.zero_le _) rfl rfl rfl rfl rfl ?_
  rintro v cc ⟨rfl, rfl⟩
  refine ⟨_, rfl, rfl, ?_⟩
  show AW Z 0 0 10 [some (.ref 0), some (.int a1), some (.int a2)] [.int q1] ([kR 0 (R_thrown_s v0 0)] : List (List zE)).flatten
  refine AW.run hZ hRm [17, 24] 400 ?_
  show (((q1 = 0) → AW Z 0 0 24 [some (.ref 0), some (.int a1), some (.int a2)] [.int (-1)] ([kR 0 (R_thrown_s v0 0)] : List (List zE)).flatten) ∧ (¬ (q1 = 0) → AW Z 0 0 17 [some (.ref 0), some (.int a1), some (.int a2)] [.int 6, .int 0, .int a2] ([kR 0 (R_thrown_s v0 0)] : List (List zE)).flatten))
  refine ⟨fun c2 => ?_, fun c2 => ?_⟩
  · rw [if_pos c2] at hf
    cases hf
    exact AW.iret hZ hE rfl rfl rfl rfl (Nat.le_refl 0) (Nat.le_refl 0) rfl ⟨rfl, rfl⟩
  · rw [if_neg c2] at hf
    obtain ⟨q3, h19, hf⟩ := zbind hf
    refine AW.callSc hZ hR hN (c_R_within N a2 0 6 q3 h19) zMX12_within_ok rfl rfl zK_BorrowedLivesModel_359 zV_X12_within rfl [25] [] [] rfl rfl rfl (by decide) (by decide) (by omega) (by decide) (Nat.zero_le _) (Nat.zero_le _) rfl rfl ?_
    rintro v cc ⟨rfl, rfl⟩
    refine ⟨_, rfl, rfl, ?_⟩
    show AW Z 0 0 20 [some (.ref 0), some (.int a1), some (.int a2)] [.int q3] ([kR 0 (R_thrown_s v0 0)] : List (List zE)).flatten
    refine AW.run hZ hRm [24, 68, 78, 88, 98, 108, 115] 400 ?_
    show ((¬ (q3 = 0) → ((a2 = 0 → (¬ ((4 + a1) < 0 ∨ 1656 ≤ Int32.toNatClampNeg (4 + a1)) ∧ AW Z 0 0 68 [some (.ref 0), some (.int a1), some (.int a2)] [.int ((R_state v0) (Int32.toNatClampNeg (4 + a1)))] ([kR 0 (R_thrown_s v0 0)] : List (List zE)).flatten)) ∧ (¬ a2 = 0 → ((a2 = 1 → (¬ ((10 + a1) < 0 ∨ 1656 ≤ Int32.toNatClampNeg (10 + a1)) ∧ AW Z 0 0 78 [some (.ref 0), some (.int a1), some (.int a2)] [.int ((R_state v0) (Int32.toNatClampNeg (10 + a1)))] ([kR 0 (R_thrown_s v0 0)] : List (List zE)).flatten)) ∧ (¬ a2 = 1 → ((a2 = 2 → (¬ ((16 + a1) < 0 ∨ 1656 ≤ Int32.toNatClampNeg (16 + a1)) ∧ AW Z 0 0 88 [some (.ref 0), some (.int a1), some (.int a2)] [.int ((R_state v0) (Int32.toNatClampNeg (16 + a1)))] ([kR 0 (R_thrown_s v0 0)] : List (List zE)).flatten)) ∧ (¬ a2 = 2 → ((a2 = 3 → (¬ ((22 + a1) < 0 ∨ 1656 ≤ Int32.toNatClampNeg (22 + a1)) ∧ AW Z 0 0 98 [some (.ref 0), some (.int a1), some (.int a2)] [.int ((R_state v0) (Int32.toNatClampNeg (22 + a1)))] ([kR 0 (R_thrown_s v0 0)] : List (List zE)).flatten)) ∧ (¬ a2 = 3 → ((a2 = 4 → (¬ ((28 + a1) < 0 ∨ 1656 ≤ Int32.toNatClampNeg (28 + a1)) ∧ AW Z 0 0 108 [some (.ref 0), some (.int a1), some (.int a2)] [.int ((R_state v0) (Int32.toNatClampNeg (28 + a1)))] ([kR 0 (R_thrown_s v0 0)] : List (List zE)).flatten)) ∧ (¬ a2 = 4 → AW Z 0 0 115 [some (.ref 0), some (.int a1), some (.int a2)] [.int 6, .int a2, .int a1, .int 0, .ref 0] ([kR 0 (R_thrown_s v0 0)] : List (List zE)).flatten))))))))))) ∧ ((q3 = 0) → AW Z 0 0 24 [some (.ref 0), some (.int a1), some (.int a2)] [.int (-1)] ([kR 0 (R_thrown_s v0 0)] : List (List zE)).flatten))
    refine ⟨fun c4 => ?_, fun c4 => ?_⟩
    · rw [if_neg c4] at hf
      refine ⟨fun c17 => ?_, fun c17 => ?_⟩
      · rw [if_pos c17] at hf
        obtain ⟨b18, hf⟩ := zneed hf
        refine ⟨b18, ?_⟩
        cases hf
        exact AW.iret hZ hE rfl rfl rfl rfl (Nat.le_refl 0) (Nat.le_refl 0) rfl ⟨rfl, rfl⟩
      · rw [if_neg c17] at hf
        refine ⟨fun c15 => ?_, fun c15 => ?_⟩
        · rw [if_pos c15] at hf
          obtain ⟨b16, hf⟩ := zneed hf
          refine ⟨b16, ?_⟩
          cases hf
          exact AW.iret hZ hE rfl rfl rfl rfl (Nat.le_refl 0) (Nat.le_refl 0) rfl ⟨rfl, rfl⟩
        · rw [if_neg c15] at hf
          refine ⟨fun c13 => ?_, fun c13 => ?_⟩
          · rw [if_pos c13] at hf
            obtain ⟨b14, hf⟩ := zneed hf
            refine ⟨b14, ?_⟩
            cases hf
            exact AW.iret hZ hE rfl rfl rfl rfl (Nat.le_refl 0) (Nat.le_refl 0) rfl ⟨rfl, rfl⟩
          · rw [if_neg c13] at hf
            refine ⟨fun c11 => ?_, fun c11 => ?_⟩
            · rw [if_pos c11] at hf
              obtain ⟨b12, hf⟩ := zneed hf
              refine ⟨b12, ?_⟩
              cases hf
              exact AW.iret hZ hE rfl rfl rfl rfl (Nat.le_refl 0) (Nat.le_refl 0) rfl ⟨rfl, rfl⟩
            · rw [if_neg c11] at hf
              refine ⟨fun c9 => ?_, fun c9 => ?_⟩
              · rw [if_pos c9] at hf
                obtain ⟨b10, hf⟩ := zneed hf
                refine ⟨b10, ?_⟩
                cases hf
                exact AW.iret hZ hE rfl rfl rfl rfl (Nat.le_refl 0) (Nat.le_refl 0) rfl ⟨rfl, rfl⟩
              · rw [if_neg c9] at hf
                suffices H5 : AW Z 0 0 123 [none, none, none] [.int (if (a2 = 6) then 1 else 0), .int a1, .int 0, .ref 0] ([kR 0 (R_thrown_s v0 0)] : List (List zE)).flatten from by
                  refine AW.run hZ hRm [123] 400 ?_
                  show ((¬ (a2 = 6) → AW Z 0 0 123 [some (.ref 0), some (.int a1), some (.int a2)] [.int 0, .int a1, .int 0, .ref 0] ([kR 0 (R_thrown_s v0 0)] : List (List zE)).flatten) ∧ ((a2 = 6) → AW Z 0 0 123 [some (.ref 0), some (.int a1), some (.int a2)] [.int 1, .int a1, .int 0, .ref 0] ([kR 0 (R_thrown_s v0 0)] : List (List zE)).flatten))
                  refine ⟨fun c6 => ?_, fun c6 => ?_⟩
                  · refine AW.forget [false, false, false] ?_
                    show AW Z 0 0 123 [none, none, none] [.int 0, .int a1, .int 0, .ref 0] ([kR 0 (R_thrown_s v0 0)] : List (List zE)).flatten
                    simpa only [if_neg c6] using H5
                  · refine AW.forget [false, false, false] ?_
                    show AW Z 0 0 123 [none, none, none] [.int 1, .int a1, .int 0, .ref 0] ([kR 0 (R_thrown_s v0 0)] : List (List zE)).flatten
                    simpa only [if_pos c6] using H5
                obtain ⟨q7, h8, hf⟩ := zbind hf
                refine AW.callVc hZ hR hN (c_R_harmOf N (R_thrown_s v0 0) 0 a1 (if (a2 = 6) then 1 else 0) q7 h8) zMX12_harmOf_ok rfl rfl zK_BorrowedLivesModel_349 zV_X12_harmOf rfl [25] [0] [0, 1, 2, 3, 4, 5, 6, 7, 8, 9, 10, 11, 12, 13, 14, 15, 16, 17, 18, 19, 20, 21, 22, 23, 24] rfl rfl rfl (by decide) (by decide) (by omega) (by decide) (Nat.zero_le _) (Nat.zero_le _) rfl rfl rfl rfl rfl ?_
                rintro v cc ⟨rfl, rfl⟩
                refine ⟨_, rfl, rfl, ?_⟩
                show AW Z 0 0 126 [none, none, none] [.int q7] ([kR 0 (R_thrown_s v0 0)] : List (List zE)).flatten
                cases hf
                exact AW.iret hZ hE rfl rfl rfl rfl (Nat.le_refl 0) (Nat.le_refl 0) rfl ⟨rfl, rfl⟩
    · rw [if_pos c4] at hf
      cases hf
      exact AW.iret hZ hE rfl rfl rfl rfl (Nat.le_refl 0) (Nat.le_refl 0) rfl ⟨rfl, rfl⟩
def f_R_may (N : Nat) (v0 : VR) (a1 : Int32) (a2 : Int32) : Option (Int32 × Int32) := ((f_R_isPerson N (R_thrown_s v0 0) a1).bind (fun q1 => (if (q1 = 0) then (some (0, 0)) else ((f_R_isPerson N (R_thrown_s v0 0) a2).bind (fun q3 => (if (q3 = 0) then (some (0, 0)) else ((f_R_mayBe N (R_thrown_s v0 0) a1 a2).bind (fun q5 => (if (q5 = 0) then (some (0, 0)) else (some (1, 0)))))))))))
set_option maxRecDepth 20000 in
set_option maxHeartbeats 4000000 in
theorem c_R_may (N : Nat) (v0 : VR) (a1 : Int32) (a2 : Int32) (R : Int32 × Int32) (hf : f_R_may N v0 a1 a2 = some R) : Ct zMX12_may 3 0 0 0 [.ref 0, .int a1, .int a2] ([kR 0 v0] : List (List zE)).flatten (fun v cc => v = some (.int R.1) ∧ cc = ([kR 0 (R_thrown_s v0 R.2)] : List (List zE)).flatten) := by
  refine Ct.of zMX12_may_ok (by decide) (Nat.le_of_ble_eq_true rfl) ?_
  intro Z hZ hR hN hE
  have hRm : zRoom Z 0 0 := zRoom0 Z
  unfold f_R_may at hf
  show AW Z 0 0 0 [some (.ref 0), some (.int a1), some (.int a2)] [] ([kR 0 v0] : List (List zE)).flatten
  refine AW.run hZ hRm [7] 400 ?_
  show AW Z 0 0 7 [some (.ref 0), some (.int a1), some (.int a2)] [.int a1, .ref 0] ([kR 0 (R_thrown_s v0 0)] : List (List zE)).flatten
  obtain ⟨q1, h9, hf⟩ := zbind hf
  refine AW.callVc hZ hR hN (c_R_isPerson N (R_thrown_s v0 0) a1 q1 h9) zMX12_isPerson_ok rfl rfl zK_BorrowedLivesModel_356 zV_X12_isPerson rfl [25] [0] [0, 1, 2, 3, 4, 5, 6, 7, 8, 9, 10, 11, 12, 13, 14, 15, 16, 17, 18, 19, 20, 21, 22, 23, 24] rfl rfl rfl (by decide) (by decide) (by omega) (by decide) (Nat.zero_le _) (Nat.zero_le _) rfl rfl rfl rfl rfl ?_
  rintro v cc ⟨rfl, rfl⟩
  refine ⟨_, rfl, rfl, ?_⟩
  show AW Z 0 0 10 [some (.ref 0), some (.int a1), some (.int a2)] [.int q1] ([kR 0 (R_thrown_s v0 0)] : List (List zE)).flatten
  refine AW.run hZ hRm [15, 35] 400 ?_
  show (((q1 = 0) → AW Z 0 0 35 [some (.ref 0), some (.int a1), some (.int a2)] [.int 0] ([kR 0 (R_thrown_s v0 0)] : List (List zE)).flatten) ∧ (¬ (q1 = 0) → AW Z 0 0 15 [some (.ref 0), some (.int a1), some (.int a2)] [.int a2, .ref 0] ([kR 0 (R_thrown_s v0 0)] : List (List zE)).flatten))
  refine ⟨fun c2 => ?_, fun c2 => ?_⟩
  · rw [if_pos c2] at hf
    cases hf
    exact AW.iret hZ hE rfl rfl rfl rfl (Nat.le_refl 0) (Nat.le_refl 0) rfl ⟨rfl, rfl⟩
  · rw [if_neg c2] at hf
    obtain ⟨q3, h8, hf⟩ := zbind hf
    refine AW.callVc hZ hR hN (c_R_isPerson N (R_thrown_s v0 0) a2 q3 h8) zMX12_isPerson_ok rfl rfl zK_BorrowedLivesModel_356 zV_X12_isPerson rfl [25] [0] [0, 1, 2, 3, 4, 5, 6, 7, 8, 9, 10, 11, 12, 13, 14, 15, 16, 17, 18, 19, 20, 21, 22, 23, 24] rfl rfl rfl (by decide) (by decide) (by omega) (by decide) (Nat.zero_le _) (Nat.zero_le _) rfl rfl rfl rfl rfl ?_
    rintro v cc ⟨rfl, rfl⟩
    refine ⟨_, rfl, rfl, ?_⟩
    show AW Z 0 0 18 [some (.ref 0), some (.int a1), some (.int a2)] [.int q3] ([kR 0 (R_thrown_s v0 0)] : List (List zE)).flatten
    refine AW.run hZ hRm [24, 35] 400 ?_
    show (((q3 = 0) → AW Z 0 0 35 [some (.ref 0), some (.int a1), some (.int a2)] [.int 0] ([kR 0 (R_thrown_s v0 0)] : List (List zE)).flatten) ∧ (¬ (q3 = 0) → AW Z 0 0 24 [some (.ref 0), some (.int a1), some (.int a2)] [.int a2, .int a1, .ref 0] ([kR 0 (R_thrown_s v0 0)] : List (List zE)).flatten))
    refine ⟨fun c4 => ?_, fun c4 => ?_⟩
    · rw [if_pos c4] at hf
      cases hf
      exact AW.iret hZ hE rfl rfl rfl rfl (Nat.le_refl 0) (Nat.le_refl 0) rfl ⟨rfl, rfl⟩
    · rw [if_neg c4] at hf
      obtain ⟨q5, h7, hf⟩ := zbind hf
      refine AW.callVc hZ hR hN (c_R_mayBe N (R_thrown_s v0 0) a1 a2 q5 h7) zMX12_mayBe_ok rfl rfl zK_BorrowedLivesModel_319 zV_X12_mayBe rfl [25] [0] [0, 1, 2, 3, 4, 5, 6, 7, 8, 9, 10, 11, 12, 13, 14, 15, 16, 17, 18, 19, 20, 21, 22, 23, 24] rfl rfl rfl (by decide) (by decide) (by omega) (by decide) (Nat.zero_le _) (Nat.zero_le _) rfl rfl rfl rfl rfl ?_
      rintro v cc ⟨rfl, rfl⟩
      refine ⟨_, rfl, rfl, ?_⟩
      show AW Z 0 0 27 [some (.ref 0), some (.int a1), some (.int a2)] [.int q5] ([kR 0 (R_thrown_s v0 0)] : List (List zE)).flatten
      refine AW.run hZ hRm [35] 400 ?_
      show (((q5 = 0) → AW Z 0 0 35 [some (.ref 0), some (.int a1), some (.int a2)] [.int 0] ([kR 0 (R_thrown_s v0 0)] : List (List zE)).flatten) ∧ (¬ (q5 = 0) → AW Z 0 0 35 [some (.ref 0), some (.int a1), some (.int a2)] [.int 1] ([kR 0 (R_thrown_s v0 0)] : List (List zE)).flatten))
      refine ⟨fun c6 => ?_, fun c6 => ?_⟩
      · rw [if_pos c6] at hf
        cases hf
        exact AW.iret hZ hE rfl rfl rfl rfl (Nat.le_refl 0) (Nat.le_refl 0) rfl ⟨rfl, rfl⟩
      · rw [if_neg c6] at hf
        cases hf
        exact AW.iret hZ hE rfl rfl rfl rfl (Nat.le_refl 0) (Nat.le_refl 0) rfl ⟨rfl, rfl⟩
def f_R_mayHide (N : Nat) (v0 : VR) (a1 : Int32) (a2 : Int32) (a3 : Int32) : Option (Int32) := (if ((a1 + 0) < 0 ∨ 1656 ≤ Int32.toNatClampNeg (a1 + 0)) then none else (if (((R_state v0) (Int32.toNatClampNeg (a1 + 0))) = 0) then (if (((a1 + 4) + a2) < 0 ∨ 1656 ≤ Int32.toNatClampNeg ((a1 + 4) + a2)) then none else (if (((R_state v0) (Int32.toNatClampNeg ((a1 + 4) + a2))) < a3) then (some 0) else (some 1))) else (some 0)))
set_option maxRecDepth 20000 in
set_option maxHeartbeats 4000000 in
theorem c_R_mayHide (N : Nat) (v0 : VR) (a1 : Int32) (a2 : Int32) (a3 : Int32) (R : Int32) (hf : f_R_mayHide N v0 a1 a2 a3 = some R) : Ct zMX12_mayHide 1 0 0 0 [.ref 0, .int a1, .int a2, .int a3] ([kR 0 v0] : List (List zE)).flatten (fun v cc => v = some (.int R) ∧ cc = ([kR 0 v0] : List (List zE)).flatten) := by
  refine Ct.of zMX12_mayHide_ok (by decide) (Nat.le_of_ble_eq_true rfl) ?_
  intro Z hZ hR hN hE
  have hRm : zRoom Z 0 0 := zRoom0 Z
  unfold f_R_mayHide at hf
  show AW Z 0 0 0 [some (.ref 0), some (.int a1), some (.int a2), some (.int a3)] [] ([kR 0 v0] : List (List zE)).flatten
  refine AW.run hZ hRm [30] 400 ?_
  show (¬ ((a1 + 0) < 0 ∨ 1656 ≤ Int32.toNatClampNeg (a1 + 0)) ∧ ((¬ (((R_state v0) (Int32.toNatClampNeg (a1 + 0))) = 0) → AW Z 0 0 30 [some (.ref 0), some (.int a1), some (.int a2), some (.int a3)] [.int 0] ([kR 0 v0] : List (List zE)).flatten) ∧ ((((R_state v0) (Int32.toNatClampNeg (a1 + 0))) = 0) → (¬ (((a1 + 4) + a2) < 0 ∨ 1656 ≤ Int32.toNatClampNeg ((a1 + 4) + a2)) ∧ (((((R_state v0) (Int32.toNatClampNeg ((a1 + 4) + a2))) < a3) → AW Z 0 0 30 [some (.ref 0), some (.int a1), some (.int a2), some (.int a3)] [.int 0] ([kR 0 v0] : List (List zE)).flatten) ∧ (¬ (((R_state v0) (Int32.toNatClampNeg ((a1 + 4) + a2))) < a3) → AW Z 0 0 30 [some (.ref 0), some (.int a1), some (.int a2), some (.int a3)] [.int 1] ([kR 0 v0] : List (List zE)).flatten))))))
  obtain ⟨b4, hf⟩ := zneed hf
  refine ⟨b4, ?_⟩
  refine ⟨fun c1 => ?_, fun c1 => ?_⟩
  · rw [if_neg c1] at hf
    cases hf
    exact AW.iret hZ hE rfl rfl rfl rfl (Nat.le_refl 0) (Nat.le_refl 0) rfl ⟨rfl, rfl⟩
  · rw [if_pos c1] at hf
    obtain ⟨b3, hf⟩ := zneed hf
    refine ⟨b3, ?_⟩
    refine ⟨fun c2 => ?_, fun c2 => ?_⟩
    · rw [if_pos c2] at hf
      cases hf
      exact AW.iret hZ hE rfl rfl rfl rfl (Nat.le_refl 0) (Nat.le_refl 0) rfl ⟨rfl, rfl⟩
    · rw [if_neg c2] at hf
      cases hf
      exact AW.iret hZ hE rfl rfl rfl rfl (Nat.le_refl 0) (Nat.le_refl 0) rfl ⟨rfl, rfl⟩
def f_R_hide (N : Nat) (v0 : VR) (a1 : Int32) (a2 : Int32) : Option (Int32 × Int32 × (Nat → Int32) × Int32) := ((f_R_isPerson N (R_thrown_s v0 0) a1).bind (fun q1 => (if (q1 = 0) then (some (0, 0, (R_state v0), (R_undos v0))) else ((f_R_within N a2 0 999).bind (fun q3 => (if (q3 = 0) then (some (0, 0, (R_state v0), (R_undos v0))) else ((f_R_mayHide N (R_thrown_s v0 0) 0 a1 a2).bind (fun q5 => (if (q5 = 0) then (some (0, 0, (R_state v0), (R_undos v0))) else ((f_R_keeps N (R_thrown_s v0 0)).bind (fun q7 => (if ((22 + a1) < 0 ∨ 1656 ≤ Int32.toNatClampNeg (22 + a1)) then none else (zlet ((upd q7.1 (Int32.toNatClampNeg (22 + a1)) a2) : (Nat → Int32)) (fun z8 => (some (1, 0, z8, q7.2))))))))))))))))
set_option maxRecDepth 20000 in
set_option maxHeartbeats 4000000 in
theorem c_R_hide (N : Nat) (v0 : VR) (a1 : Int32) (a2 : Int32) (R : Int32 × Int32 × (Nat → Int32) × Int32) (hf : f_R_hide N v0 a1 a2 = some R) : Ct zMX12_hide 3 0 0 0 [.ref 0, .int a1, .int a2] ([kR 0 v0] : List (List zE)).flatten (fun v cc => v = some (.int R.1) ∧ cc = ([kR 0 (R_s_thrown_state_undos v0 R.2.1 R.2.2.1 R.2.2.2)] : List (List zE)).flatten) := by
  refine Ct.of zMX12_hide_ok (by decide) (Nat.le_of_ble_eq_true rfl) ?_
  intro Z hZ hR hN hE
  have hRm : zRoom Z 0 0 := zRoom0 Z
  unfold f_R_hide at hf
  show AW Z 0 0 0 [some (.ref 0), some (.int a1), some (.int a2)] [] ([kR 0 v0] : List (List zE)).flatten
  refine AW.run hZ hRm [7] 400 ?_
  show AW Z 0 0 7 [some (.ref 0), some (.int a1), some (.int a2)] [.int a1, .ref 0] ([kR 0 (R_thrown_s v0 0)] : List (List zE)).flatten
  obtain ⟨q1, h13, hf⟩ := zbind hf
  refine AW.callVc hZ hR hN (c_R_isPerson N (R_thrown_s v0 0) a1 q1 h13) zMX12_isPerson_ok rfl rfl zK_BorrowedLivesModel_356 zV_X12_isPerson rfl [25] [0] [0, 1, 2, 3, 4, 5, 6, 7, 8, 9, 10, 11, 12, 13, 14, 15, 16, 17, 18, 19, 20, 21, 22, 23, 24] rfl rfl rfl (by decide) (by decide) (by omega) (by decide) (Nat.zero_le _) (Nat.zero_le _) rfl rfl rfl rfl rfl ?_
  rintro v cc ⟨rfl, rfl⟩
  refine ⟨_, rfl, rfl, ?_⟩
  show AW Z 0 0 10 [some (.ref 0), some (.int a1), some (.int a2)] [.int q1] ([kR 0 (R_thrown_s v0 0)] : List (List zE)).flatten
  refine AW.run hZ hRm [18, 35] 400 ?_
  show (((q1 = 0) → AW Z 0 0 35 [some (.ref 0), some (.int a1), some (.int a2)] [.int 0] ([kR 0 (R_thrown_s v0 0)] : List (List zE)).flatten) ∧ (¬ (q1 = 0) → AW Z 0 0 18 [some (.ref 0), some (.int a1), some (.int a2)] [.int 999, .int 0, .int a2] ([kR 0 (R_thrown_s v0 0)] : List (List zE)).flatten))
  refine ⟨fun c2 => ?_, fun c2 => ?_⟩
  · rw [if_pos c2] at hf
    cases hf
    exact AW.iret hZ hE rfl rfl rfl rfl (Nat.le_refl 0) (Nat.le_refl 0) rfl ⟨rfl, rfl⟩
  · rw [if_neg c2] at hf
    obtain ⟨q3, h12, hf⟩ := zbind hf
    refine AW.callSc hZ hR hN (c_R_within N a2 0 999 q3 h12) zMX12_within_ok rfl rfl zK_BorrowedLivesModel_359 zV_X12_within rfl [25] [] [] rfl rfl rfl (by decide) (by decide) (by omega) (by decide) (Nat.zero_le _) (Nat.zero_le _) rfl rfl ?_
    rintro v cc ⟨rfl, rfl⟩
    refine ⟨_, rfl, rfl, ?_⟩
    show AW Z 0 0 21 [some (.ref 0), some (.int a1), some (.int a2)] [.int q3] ([kR 0 (R_thrown_s v0 0)] : List (List zE)).flatten
    refine AW.run hZ hRm [28, 35] 400 ?_
    show (((q3 = 0) → AW Z 0 0 35 [some (.ref 0), some (.int a1), some (.int a2)] [.int 0] ([kR 0 (R_thrown_s v0 0)] : List (List zE)).flatten) ∧ (¬ (q3 = 0) → AW Z 0 0 28 [some (.ref 0), some (.int a1), some (.int a2)] [.int a2, .int a1, .int 0, .ref 0] ([kR 0 (R_thrown_s v0 0)] : List (List zE)).flatten))
    refine ⟨fun c4 => ?_, fun c4 => ?_⟩
    · rw [if_pos c4] at hf
      cases hf
      exact AW.iret hZ hE rfl rfl rfl rfl (Nat.le_refl 0) (Nat.le_refl 0) rfl ⟨rfl, rfl⟩
    · rw [if_neg c4] at hf
      obtain ⟨q5, h11, hf⟩ := zbind hf
      refine AW.callVc hZ hR hN (c_R_mayHide N (R_thrown_s v0 0) 0 a1 a2 q5 h11) zMX12_mayHide_ok rfl rfl zK_BorrowedLivesModel_363 zV_X12_mayHide rfl [25] [0] [0, 1, 2, 3, 4, 5, 6, 7, 8, 9, 10, 11, 12, 13, 14, 15, 16, 17, 18, 19, 20, 21, 22, 23, 24] rfl rfl rfl (by decide) (by decide) (by omega) (by decide) (Nat.zero_le _) (Nat.zero_le _) rfl rfl rfl rfl rfl ?_
      rintro v cc ⟨rfl, rfl⟩
      refine ⟨_, rfl, rfl, ?_⟩
      show AW Z 0 0 31 [some (.ref 0), some (.int a1), some (.int a2)] [.int q5] ([kR 0 (R_thrown_s v0 0)] : List (List zE)).flatten
      refine AW.run hZ hRm [35, 37] 400 ?_
      show ((¬ (q5 = 0) → AW Z 0 0 37 [some (.ref 0), some (.int a1), some (.int a2)] [.ref 0] ([kR 0 (R_thrown_s v0 0)] : List (List zE)).flatten) ∧ ((q5 = 0) → AW Z 0 0 35 [some (.ref 0), some (.int a1), some (.int a2)] [.int 0] ([kR 0 (R_thrown_s v0 0)] : List (List zE)).flatten))
      refine ⟨fun c6 => ?_, fun c6 => ?_⟩
      · rw [if_neg c6] at hf
        obtain ⟨q7, h10, hf⟩ := zbind hf
        refine AW.callVc hZ hR hN (c_R_keeps N (R_thrown_s v0 0) q7 h10) zMX12_keeps_ok rfl rfl zK_BorrowedLivesModel_366 zV_X12_keeps rfl [25] [0] [0, 1, 2, 3, 4, 5, 6, 7, 8, 9, 10, 11, 12, 13, 14, 15, 16, 17, 18, 19, 20, 21, 22, 23, 24] rfl rfl rfl (by decide) (by decide) (by omega) (by decide) (Nat.zero_le _) (Nat.zero_le _) rfl rfl rfl rfl rfl ?_
        rintro v cc ⟨rfl, rfl⟩
        refine ⟨_, rfl, rfl, ?_⟩
        show AW Z 0 0 40 [some (.ref 0), some (.int a1), some (.int a2)] [] ([kR 0 (R_s_thrown_state_undos v0 0 q7.1 q7.2)] : List (List zE)).flatten
        refine AW.run hZ hRm [50] 400 ?_
        show (¬ ((22 + a1) < 0 ∨ 1656 ≤ Int32.toNatClampNeg (22 + a1)) ∧ AW Z 0 0 50 [some (.ref 0), some (.int a1), some (.int a2)] [] ([kR 0 (R_s_thrown_state_undos v0 0 (upd q7.1 (Int32.toNatClampNeg (22 + a1)) a2) q7.2)] : List (List zE)).flatten)
        obtain ⟨b9, hf⟩ := zneed hf
        refine ⟨b9, ?_⟩
        replace hf := zlet_gen hf
        generalize ((upd q7.1 (Int32.toNatClampNeg (22 + a1)) a2) : (Nat → Int32)) = z8 at hf ⊢
        as_aux_lemma =>
          refine AW.run hZ hRm [51] 400 ?_
          show AW Z 0 0 51 [some (.ref 0), some (.int a1), some (.int a2)] [.int 1] ([kR 0 (R_s_thrown_state_undos v0 0 z8 q7.2)] : List (List zE)).flatten
          cases hf
          exact AW.iret hZ hE rfl rfl rfl rfl (Nat.le_refl 0) (Nat.le_refl 0) rfl ⟨rfl, rfl⟩
      · rw [if_pos c6] at hf
        cases hf
        exact AW.iret hZ hE rfl rfl rfl rfl (Nat.le_refl 0) (Nat.le_refl 0) rfl ⟨rfl, rfl⟩
def f_R_draw (N : Nat) (v0 : VR) (a1 : Int32) : Option (Int32 × Int64) := (if ((Int32.toInt64 a1) = 0) then none else (some ((Int64.toInt32 ((((((R_g v0) * 1103515245) + 12345) - (((R_g v0) * 1103515245) + 12345) / 2147483648 * 2147483648) / 65536) - (((((R_g v0) * 1103515245) + 12345) - (((R_g v0) * 1103515245) + 12345) / 2147483648 * 2147483648) / 65536) / (Int32.toInt64 a1) * (Int32.toInt64 a1))), ((((R_g v0) * 1103515245) + 12345) - (((R_g v0) * 1103515245) + 12345) / 2147483648 * 2147483648))))
set_option maxRecDepth 20000 in
set_option maxHeartbeats 4000000 in
theorem c_R_draw (N : Nat) (v0 : VR) (a1 : Int32) (R : Int32 × Int64) (hf : f_R_draw N v0 a1 = some R) : Ct zMX12_draw 1 0 0 0 [.ref 0, .int a1] ([kR 0 v0] : List (List zE)).flatten (fun v cc => v = some (.int R.1) ∧ cc = ([kR 0 (R_g_s v0 R.2)] : List (List zE)).flatten) := by
  refine Ct.of zMX12_draw_ok (by decide) (Nat.le_of_ble_eq_true rfl) ?_
  intro Z hZ hR hN hE
  have hRm : zRoom Z 0 0 := zRoom0 Z
  unfold f_R_draw at hf
  show AW Z 0 0 0 [some (.ref 0), some (.int a1)] [] ([kR 0 v0] : List (List zE)).flatten
  refine AW.run hZ hRm [32] 400 ?_
  show (¬ ((2147483648 : Int64) = 0) ∧ (¬ ((65536 : Int64) = 0) ∧ (¬ ((Int32.toInt64 a1) = 0) ∧ AW Z 0 0 32 [some (.ref 0), some (.int a1)] [.int (Int64.toInt32 ((((((R_g v0) * 1103515245) + 12345) - (((R_g v0) * 1103515245) + 12345) / 2147483648 * 2147483648) / 65536) - (((((R_g v0) * 1103515245) + 12345) - (((R_g v0) * 1103515245) + 12345) / 2147483648 * 2147483648) / 65536) / (Int32.toInt64 a1) * (Int32.toInt64 a1)))] ([kR 0 (R_g_s v0 ((((R_g v0) * 1103515245) + 12345) - (((R_g v0) * 1103515245) + 12345) / 2147483648 * 2147483648))] : List (List zE)).flatten)))
  refine ⟨(by decide), ?_⟩
  refine ⟨(by decide), ?_⟩
  obtain ⟨b1, hf⟩ := zneed hf
  refine ⟨b1, ?_⟩
  cases hf
  exact AW.iret hZ hE rfl rfl rfl rfl (Nat.le_refl 0) (Nat.le_refl 0) rfl ⟨rfl, rfl⟩
def f_R_mayLeave (N : Nat) (v0 : VR) (a1 : Int32) : Option (Int32) := (if ((a1 + 0) < 0 ∨ 1656 ≤ Int32.toNatClampNeg (a1 + 0)) then none else (if (((R_state v0) (Int32.toNatClampNeg (a1 + 0))) = 0) then (if ((R_lotsMany v0) ≤ 0) then (some 0) else (some 1)) else (some 0)))
set_option maxRecDepth 20000 in
set_option maxHeartbeats 4000000 in
theorem c_R_mayLeave (N : Nat) (v0 : VR) (a1 : Int32) (R : Int32) (hf : f_R_mayLeave N v0 a1 = some R) : Ct zMX12_mayLeave 1 0 0 0 [.ref 0, .int a1] ([kR 0 v0] : List (List zE)).flatten (fun v cc => v = some (.int R) ∧ cc = ([kR 0 v0] : List (List zE)).flatten) := by
  refine Ct.of zMX12_mayLeave_ok (by decide) (Nat.le_of_ble_eq_true rfl) ?_
  intro Z hZ hR hN hE
  have hRm : zRoom Z 0 0 := zRoom0 Z
  unfold f_R_mayLeave at hf
  show AW Z 0 0 0 [some (.ref 0), some (.int a1)] [] ([kR 0 v0] : List (List zE)).flatten
  refine AW.run hZ hRm [23] 400 ?_
  show (¬ ((a1 + 0) < 0 ∨ 1656 ≤ Int32.toNatClampNeg (a1 + 0)) ∧ ((¬ (((R_state v0) (Int32.toNatClampNeg (a1 + 0))) = 0) → AW Z 0 0 23 [some (.ref 0), some (.int a1)] [.int 0] ([kR 0 v0] : List (List zE)).flatten) ∧ ((((R_state v0) (Int32.toNatClampNeg (a1 + 0))) = 0) → ((((R_lotsMany v0) ≤ 0) → AW Z 0 0 23 [some (.ref 0), some (.int a1)] [.int 0] ([kR 0 v0] : List (List zE)).flatten) ∧ (¬ ((R_lotsMany v0) ≤ 0) → AW Z 0 0 23 [some (.ref 0), some (.int a1)] [.int 1] ([kR 0 v0] : List (List zE)).flatten)))))
  obtain ⟨b3, hf⟩ := zneed hf
  refine ⟨b3, ?_⟩
  refine ⟨fun c1 => ?_, fun c1 => ?_⟩
  · rw [if_neg c1] at hf
    cases hf
    exact AW.iret hZ hE rfl rfl rfl rfl (Nat.le_refl 0) (Nat.le_refl 0) rfl ⟨rfl, rfl⟩
  · rw [if_pos c1] at hf
    refine ⟨fun c2 => ?_, fun c2 => ?_⟩
    · rw [if_pos c2] at hf
      cases hf
      exact AW.iret hZ hE rfl rfl rfl rfl (Nat.le_refl 0) (Nat.le_refl 0) rfl ⟨rfl, rfl⟩
    · rw [if_neg c2] at hf
      cases hf
      exact AW.iret hZ hE rfl rfl rfl rfl (Nat.le_refl 0) (Nat.le_refl 0) rfl ⟨rfl, rfl⟩
def f_R_lot (N : Nat) (v0 : VR) (a1 : Int32) : Option (Int32 × Int32 × (Nat → Int32) × Int32 × Int64) := ((f_R_within N a1 0 9999).bind (fun q1 => (if (q1 = 0) then (some ((-1), 0, (R_state v0), (R_undos v0), (R_g v0))) else ((f_R_mayLeave N (R_thrown_s v0 0) 0).bind (fun q3 => (if (q3 = 0) then (some ((-1), 0, (R_state v0), (R_undos v0), (R_g v0))) else ((f_R_keeps N (R_thrown_s v0 0)).bind (fun q5 => ((f_R_draw N (R_s_thrown_state_undos_g v0 0 q5.1 q5.2 (Int32.toInt64 a1)) (R_lotsMany v0)).bind (fun q6 => ((f_R_leaves N (R_s_thrown_state_undos_g v0 0 q5.1 q5.2 q6.2) 0 q6.1).bind (fun q7 => (some (q6.1, 0, q7, q5.2, q6.2))))))))))))))
set_option maxRecDepth 20000 in
set_option maxHeartbeats 4000000 in
theorem c_R_lot (N : Nat) (v0 : VR) (a1 : Int32) (R : Int32 × Int32 × (Nat → Int32) × Int32 × Int64) (hf : f_R_lot N v0 a1 = some R) : Ct zMX12_lot 3 0 0 0 [.ref 0, .int a1] ([kR 0 v0] : List (List zE)).flatten (fun v cc => v = some (.int R.1) ∧ cc = ([kR 0 (R_s_thrown_state_undos_g v0 R.2.1 R.2.2.1 R.2.2.2.1 R.2.2.2.2)] : List (List zE)).flatten) := by
  refine Ct.of zMX12_lot_ok (by decide) (Nat.le_of_ble_eq_true rfl) ?_
  intro Z hZ hR hN hE
  have hRm : zRoom Z 0 0 := zRoom0 Z
  unfold f_R_lot at hf
  show AW Z 0 0 0 [some (.ref 0), some (.int a1), none] [] ([kR 0 v0] : List (List zE)).flatten
  refine AW.run hZ hRm [10] 400 ?_
  show AW Z 0 0 10 [some (.ref 0), some (.int a1), none] [.int 9999, .int 0, .int a1] ([kR 0 (R_thrown_s v0 0)] : List (List zE)).flatten
  obtain ⟨q1, h12, hf⟩ := zbind hf
  refine AW.callSc hZ hR hN (c_R_within N a1 0 9999 q1 h12) zMX12_within_ok rfl rfl zK_BorrowedLivesModel_359 zV_X12_within rfl [25] [] [] rfl rfl rfl (by decide) (by decide) (by omega) (by decide) (Nat.zero_le _) (Nat.zero_le _) rfl rfl ?_
  rintro v cc ⟨rfl, rfl⟩
  refine ⟨_, rfl, rfl, ?_⟩
  show AW Z 0 0 13 [some (.ref 0), some (.int a1), none] [.int q1] ([kR 0 (R_thrown_s v0 0)] : List (List zE)).flatten
  refine AW.run hZ hRm [18, 25] 400 ?_
  show (((q1 = 0) → AW Z 0 0 25 [some (.ref 0), some (.int a1), none] [.int (-1)] ([kR 0 (R_thrown_s v0 0)] : List (List zE)).flatten) ∧ (¬ (q1 = 0) → AW Z 0 0 18 [some (.ref 0), some (.int a1), none] [.int 0, .ref 0] ([kR 0 (R_thrown_s v0 0)] : List (List zE)).flatten))
  refine ⟨fun c2 => ?_, fun c2 => ?_⟩
  · rw [if_pos c2] at hf
    cases hf
    exact AW.iret hZ hE rfl rfl rfl rfl (Nat.le_refl 0) (Nat.le_refl 0) rfl ⟨rfl, rfl⟩
  · rw [if_neg c2] at hf
    obtain ⟨q3, h11, hf⟩ := zbind hf
    refine AW.callVc hZ hR hN (c_R_mayLeave N (R_thrown_s v0 0) 0 q3 h11) zMX12_mayLeave_ok rfl rfl zK_BorrowedLivesModel_381 zV_X12_mayLeave rfl [25] [0] [0, 1, 2, 3, 4, 5, 6, 7, 8, 9, 10, 11, 12, 13, 14, 15, 16, 17, 18, 19, 20, 21, 22, 23, 24] rfl rfl rfl (by decide) (by decide) (by omega) (by decide) (Nat.zero_le _) (Nat.zero_le _) rfl rfl rfl rfl rfl ?_
    rintro v cc ⟨rfl, rfl⟩
    refine ⟨_, rfl, rfl, ?_⟩
    show AW Z 0 0 21 [some (.ref 0), some (.int a1), none] [.int q3] ([kR 0 (R_thrown_s v0 0)] : List (List zE)).flatten
    refine AW.run hZ hRm [25, 27] 400 ?_
    show ((¬ (q3 = 0) → AW Z 0 0 27 [some (.ref 0), some (.int a1), none] [.ref 0] ([kR 0 (R_thrown_s v0 0)] : List (List zE)).flatten) ∧ ((q3 = 0) → AW Z 0 0 25 [some (.ref 0), some (.int a1), none] [.int (-1)] ([kR 0 (R_thrown_s v0 0)] : List (List zE)).flatten))
    refine ⟨fun c4 => ?_, fun c4 => ?_⟩
    · rw [if_neg c4] at hf
      obtain ⟨q5, h10, hf⟩ := zbind hf
      refine AW.callVc hZ hR hN (c_R_keeps N (R_thrown_s v0 0) q5 h10) zMX12_keeps_ok rfl rfl zK_BorrowedLivesModel_366 zV_X12_keeps rfl [25] [0] [0, 1, 2, 3, 4, 5, 6, 7, 8, 9, 10, 11, 12, 13, 14, 15, 16, 17, 18, 19, 20, 21, 22, 23, 24] rfl rfl rfl (by decide) (by decide) (by omega) (by decide) (Nat.zero_le _) (Nat.zero_le _) rfl rfl rfl rfl rfl ?_
      rintro v cc ⟨rfl, rfl⟩
      refine ⟨_, rfl, rfl, ?_⟩
      show AW Z 0 0 30 [some (.ref 0), some (.int a1), none] [] ([kR 0 (R_s_thrown_state_undos v0 0 q5.1 q5.2)] : List (List zE)).flatten
      refine AW.run hZ hRm [41] 400 ?_
      show AW Z 0 0 41 [some (.ref 0), some (.int a1), none] [.int (R_lotsMany v0), .ref 0] ([kR 0 (R_s_thrown_state_undos_g v0 0 q5.1 q5.2 (Int32.toInt64 a1))] : List (List zE)).flatten
      obtain ⟨q6, h9, hf⟩ := zbind hf
      refine AW.callVc hZ hR hN (c_R_draw N (R_s_thrown_state_undos_g v0 0 q5.1 q5.2 (Int32.toInt64 a1)) (R_lotsMany v0) q6 h9) zMX12_draw_ok rfl rfl zK_BorrowedLivesModel_384 zV_X12_draw rfl [25] [0] [0, 1, 2, 3, 4, 5, 6, 7, 8, 9, 10, 11, 12, 13, 14, 15, 16, 17, 18, 19, 20, 21, 22, 23, 24] rfl rfl rfl (by decide) (by decide) (by omega) (by decide) (Nat.zero_le _) (Nat.zero_le _) rfl rfl rfl rfl rfl ?_
      rintro v cc ⟨rfl, rfl⟩
      refine ⟨_, rfl, rfl, ?_⟩
      show AW Z 0 0 44 [some (.ref 0), some (.int a1), none] [.int q6.1] ([kR 0 (R_s_thrown_state_undos_g v0 0 q5.1 q5.2 q6.2)] : List (List zE)).flatten
      refine AW.run hZ hRm [48] 400 ?_
      show AW Z 0 0 48 [some (.ref 0), some (.int a1), some (.int q6.1)] [.int q6.1, .int 0, .ref 0] ([kR 0 (R_s_thrown_state_undos_g v0 0 q5.1 q5.2 q6.2)] : List (List zE)).flatten
      obtain ⟨q7, h8, hf⟩ := zbind hf
      refine AW.callVc hZ hR hN (c_R_leaves N (R_s_thrown_state_undos_g v0 0 q5.1 q5.2 q6.2) 0 q6.1 q7 h8) zMX12_leaves_ok rfl rfl zK_BorrowedLivesModel_387 zV_X12_leaves rfl [25] [0] [0, 1, 2, 3, 4, 5, 6, 7, 8, 9, 10, 11, 12, 13, 14, 15, 16, 17, 18, 19, 20, 21, 22, 23, 24] rfl rfl rfl (by decide) (by decide) (by omega) (by decide) (Nat.zero_le _) (Nat.zero_le _) rfl rfl rfl rfl rfl ?_
      rintro v cc ⟨rfl, rfl⟩
      refine ⟨_, rfl, rfl, ?_⟩
      show AW Z 0 0 51 [some (.ref 0), some (.int a1), some (.int q6.1)] [] ([kR 0 (R_s_thrown_state_undos_g v0 0 q7 q5.2 q6.2)] : List (List zE)).flatten
      refine AW.run hZ hRm [52] 400 ?_
      show AW Z 0 0 52 [some (.ref 0), some (.int a1), some (.int q6.1)] [.int q6.1] ([kR 0 (R_s_thrown_state_undos_g v0 0 q7 q5.2 q6.2)] : List (List zE)).flatten
      cases hf
      exact AW.iret hZ hE rfl rfl rfl rfl (Nat.le_refl 0) (Nat.le_refl 0) rfl ⟨rfl, rfl⟩
    · rw [if_pos c4] at hf
      cases hf
      exact AW.iret hZ hE rfl rfl rfl rfl (Nat.le_refl 0) (Nat.le_refl 0) rfl ⟨rfl, rfl⟩
def f_R_ledBy_L2 (N : Nat) : Nat → VR → Int32 → Int32 → Int32 → Option (Int32)
  | 0, _, _, _, _ => none
  | fuel + 1, v0, y1, y2, x3 => (if (((y1 + 28) + x3) < 0 ∨ 1656 ≤ Int32.toNatClampNeg ((y1 + 28) + x3)) then none else (if (((R_state v0) (Int32.toNatClampNeg ((y1 + 28) + x3))) = y2) then (some x3) else (f_R_ledBy_L2 N fuel v0 y1 y2 (x3 + 1))))
def f_R_ledBy (N : Nat) (v0 : VR) (a1 : Int32) (a2 : Int32) : Option (Int32) := ((f_R_ledBy_L2 N N v0 a1 a2 0).bind (fun q3 => (some q3)))
set_option maxRecDepth 20000 in
set_option maxHeartbeats 4000000 in
theorem c_R_ledBy_L2 {Z : zCtx} {D n0w nf mcw msw : Nat} (hZ : zOk Z zMX12_ledBy) (hR : zCan Z D mcw msw) (hDd : 1 ≤ D) (hN : zNew Z n0w nf) (hRm : zRoom Z 0 0) (N : Nat) : ∀ (fuel : Nat) (v0 : VR) (y1 : Int32) (y2 : Int32) (x3 : Int32) (q : (Int32)), f_R_ledBy_L2 N fuel v0 y1 y2 x3 = some q → (AW Z 0 0 23 [none, none, none, some (.int q)] [] ([kR 0 v0] : List (List zE)).flatten) → AW Z 0 0 2 [some (.ref 0), some (.int y1), some (.int y2), some (.int x3)] [] ([kR 0 v0] : List (List zE)).flatten := by
  intro fuel
  induction fuel with
  | zero =>
    intro v0 y1 y2 x3 q hf hk0
    simp [f_R_ledBy_L2] at hf
  | succ fuel ih =>
    intro v0 y1 y2 x3 q hf hk0
    rw [f_R_ledBy_L2] at hf
    refine AW.run hZ hRm [2, 23] 400 ?_
    show (¬ (((y1 + 28) + x3) < 0 ∨ 1656 ≤ Int32.toNatClampNeg ((y1 + 28) + x3)) ∧ (((((R_state v0) (Int32.toNatClampNeg ((y1 + 28) + x3))) = y2) → AW Z 0 0 23 [some (.ref 0), some (.int y1), some (.int y2), some (.int x3)] [] ([kR 0 v0] : List (List zE)).flatten) ∧ (¬ (((R_state v0) (Int32.toNatClampNeg ((y1 + 28) + x3))) = y2) → AW Z 0 0 2 [some (.ref 0), some (.int y1), some (.int y2), some (.int (x3 + 1))] [] ([kR 0 v0] : List (List zE)).flatten)))
    obtain ⟨b2, hf⟩ := zneed hf
    refine ⟨b2, ?_⟩
    refine ⟨fun c1 => ?_, fun c1 => ?_⟩
    · rw [if_pos c1] at hf
      cases hf
      refine AW.forget [false, false, false, true] ?_
      show AW Z 0 0 23 [none, none, none, some (.int x3)] [] ([kR 0 v0] : List (List zE)).flatten
      exact hk0
    · rw [if_neg c1] at hf
      exact ih v0 y1 y2 (x3 + 1) q hf hk0
set_option maxRecDepth 20000 in
set_option maxHeartbeats 4000000 in
theorem c_R_ledBy (N : Nat) (v0 : VR) (a1 : Int32) (a2 : Int32) (R : Int32) (hf : f_R_ledBy N v0 a1 a2 = some R) : Ct zMX12_ledBy 1 0 0 0 [.ref 0, .int a1, .int a2] ([kR 0 v0] : List (List zE)).flatten (fun v cc => v = some (.int R) ∧ cc = ([kR 0 v0] : List (List zE)).flatten) := by
  refine Ct.of zMX12_ledBy_ok (by decide) (Nat.le_of_ble_eq_true rfl) ?_
  intro Z hZ hR hN hE
  have hRm : zRoom Z 0 0 := zRoom0 Z
  unfold f_R_ledBy at hf
  show AW Z 0 0 0 [some (.ref 0), some (.int a1), some (.int a2), none] [] ([kR 0 v0] : List (List zE)).flatten
  refine AW.run hZ hRm [2] 400 ?_
  show AW Z 0 0 2 [some (.ref 0), some (.int a1), some (.int a2), some (.int 0)] [] ([kR 0 v0] : List (List zE)).flatten
  obtain ⟨q3, h4, hf⟩ := zbind hf
  refine c_R_ledBy_L2 hZ hR (by omega) hN hRm N N v0 a1 a2 0 q3 h4 ?_
  show AW Z 0 0 23 [none, none, none, some (.int q3)] [] ([kR 0 v0] : List (List zE)).flatten
  refine AW.run hZ hRm [24] 400 ?_
  show AW Z 0 0 24 [none, none, none, some (.int q3)] [.int q3] ([kR 0 v0] : List (List zE)).flatten
  cases hf
  exact AW.iret hZ hE rfl rfl rfl rfl (Nat.le_refl 0) (Nat.le_refl 0) rfl ⟨rfl, rfl⟩
