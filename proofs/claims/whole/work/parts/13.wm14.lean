def f_R_maySwap (N : Nat) (v0 : VR) (a1 : Int32) (a2 : Int32) (a3 : Int32) : Option (Int32) := (if ((a1 + 0) < 0 ∨ 1656 ≤ Int32.toNatClampNeg (a1 + 0)) then none else (if (((R_state v0) (Int32.toNatClampNeg (a1 + 0))) = 1) then (if (a2 = a3) then (some 0) else ((f_R_ledBy N v0 a1 a3).bind (fun q3 => ((f_R_mayBe N v0 a2 q3).bind (fun q4 => (if (q4 = 0) then (some 0) else ((f_R_ledBy N v0 a1 a2).bind (fun q6 => ((f_R_mayBe N v0 a3 q6).bind (fun q7 => (if (q7 = 0) then (some 0) else (some 1)))))))))))) else (some 0)))
set_option maxRecDepth 20000 in
set_option maxHeartbeats 4000000 in
theorem c_R_maySwap (N : Nat) (v0 : VR) (a1 : Int32) (a2 : Int32) (a3 : Int32) (R : Int32) (hf : f_R_maySwap N v0 a1 a2 a3 = some R) : Ct zMX12_maySwap 2 0 0 0 [.ref 0, .int a1, .int a2, .int a3] ([kR 0 v0] : List (List zE)).flatten (fun v cc => v = some (.int R) ∧ cc = ([kR 0 v0] : List (List zE)).flatten) := by
  refine Ct.of zMX12_maySwap_ok (by decide) (Nat.le_of_ble_eq_true rfl) ?_
  intro Z hZ hR hN hE
  have hRm : zRoom Z 0 0 := zRoom0 Z
  unfold f_R_maySwap at hf
  show AW Z 0 0 0 [some (.ref 0), some (.int a1), some (.int a2), some (.int a3)] [] ([kR 0 v0] : List (List zE)).flatten
  refine AW.run hZ hRm [22, 50] 400 ?_
  show (¬ ((a1 + 0) < 0 ∨ 1656 ≤ Int32.toNatClampNeg (a1 + 0)) ∧ ((¬ (((R_state v0) (Int32.toNatClampNeg (a1 + 0))) = 1) → AW Z 0 0 50 [some (.ref 0), some (.int a1), some (.int a2), some (.int a3)] [.int 0] ([kR 0 v0] : List (List zE)).flatten) ∧ ((((R_state v0) (Int32.toNatClampNeg (a1 + 0))) = 1) → (((a2 = a3) → AW Z 0 0 50 [some (.ref 0), some (.int a1), some (.int a2), some (.int a3)] [.int 0] ([kR 0 v0] : List (List zE)).flatten) ∧ (¬ (a2 = a3) → AW Z 0 0 22 [some (.ref 0), some (.int a1), some (.int a2), some (.int a3)] [.int a3, .int a1, .ref 0, .int a2, .ref 0] ([kR 0 v0] : List (List zE)).flatten)))))
  obtain ⟨b13, hf⟩ := zneed hf
  refine ⟨b13, ?_⟩
  refine ⟨fun c1 => ?_, fun c1 => ?_⟩
  · rw [if_neg c1] at hf
    cases hf
    exact AW.iret hZ hE rfl rfl rfl rfl (Nat.le_refl 0) (Nat.le_refl 0) rfl ⟨rfl, rfl⟩
  · rw [if_pos c1] at hf
    refine ⟨fun c2 => ?_, fun c2 => ?_⟩
    · rw [if_pos c2] at hf
      cases hf
      exact AW.iret hZ hE rfl rfl rfl rfl (Nat.le_refl 0) (Nat.le_refl 0) rfl ⟨rfl, rfl⟩
    · rw [if_neg c2] at hf
      obtain ⟨q3, h12, hf⟩ := zbind hf
      refine AW.callVc hZ hR hN (c_R_ledBy N v0 a1 a3 q3 h12) zMX12_ledBy_ok rfl rfl zK_BorrowedLivesModel_390 zV_X12_ledBy rfl [25] [0] [0, 1, 2, 3, 4, 5, 6, 7, 8, 9, 10, 11, 12, 13, 14, 15, 16, 17, 18, 19, 20, 21, 22, 23, 24] rfl rfl rfl (by decide) (by decide) (by omega) (by decide) (Nat.zero_le _) (Nat.zero_le _) rfl rfl rfl rfl rfl ?_
      rintro v cc ⟨rfl, rfl⟩
      refine ⟨_, rfl, rfl, ?_⟩
      show AW Z 0 0 25 [some (.ref 0), some (.int a1), some (.int a2), some (.int a3)] [.int q3, .int a2, .ref 0] ([kR 0 v0] : List (List zE)).flatten
      obtain ⟨q4, h11, hf⟩ := zbind hf
      refine AW.callVc hZ hR hN (c_R_mayBe N v0 a2 q3 q4 h11) zMX12_mayBe_ok rfl rfl zK_BorrowedLivesModel_319 zV_X12_mayBe rfl [25] [0] [0, 1, 2, 3, 4, 5, 6, 7, 8, 9, 10, 11, 12, 13, 14, 15, 16, 17, 18, 19, 20, 21, 22, 23, 24] rfl rfl rfl (by decide) (by decide) (by omega) (by decide) (Nat.zero_le _) (Nat.zero_le _) rfl rfl rfl rfl rfl ?_
      rintro v cc ⟨rfl, rfl⟩
      refine ⟨_, rfl, rfl, ?_⟩
      show AW Z 0 0 28 [some (.ref 0), some (.int a1), some (.int a2), some (.int a3)] [.int q4] ([kR 0 v0] : List (List zE)).flatten
      refine AW.run hZ hRm [36, 50] 400 ?_
      show (((q4 = 0) → AW Z 0 0 50 [some (.ref 0), some (.int a1), some (.int a2), some (.int a3)] [.int 0] ([kR 0 v0] : List (List zE)).flatten) ∧ (¬ (q4 = 0) → AW Z 0 0 36 [some (.ref 0), some (.int a1), some (.int a2), some (.int a3)] [.int a2, .int a1, .ref 0, .int a3, .ref 0] ([kR 0 v0] : List (List zE)).flatten))
      refine ⟨fun c5 => ?_, fun c5 => ?_⟩
      · rw [if_pos c5] at hf
        cases hf
        exact AW.iret hZ hE rfl rfl rfl rfl (Nat.le_refl 0) (Nat.le_refl 0) rfl ⟨rfl, rfl⟩
      · rw [if_neg c5] at hf
        obtain ⟨q6, h10, hf⟩ := zbind hf
        refine AW.callVc hZ hR hN (c_R_ledBy N v0 a1 a2 q6 h10) zMX12_ledBy_ok rfl rfl zK_BorrowedLivesModel_390 zV_X12_ledBy rfl [25] [0] [0, 1, 2, 3, 4, 5, 6, 7, 8, 9, 10, 11, 12, 13, 14, 15, 16, 17, 18, 19, 20, 21, 22, 23, 24] rfl rfl rfl (by decide) (by decide) (by omega) (by decide) (Nat.zero_le _) (Nat.zero_le _) rfl rfl rfl rfl rfl ?_
        rintro v cc ⟨rfl, rfl⟩
        refine ⟨_, rfl, rfl, ?_⟩
        show AW Z 0 0 39 [some (.ref 0), some (.int a1), some (.int a2), some (.int a3)] [.int q6, .int a3, .ref 0] ([kR 0 v0] : List (List zE)).flatten
        obtain ⟨q7, h9, hf⟩ := zbind hf
        refine AW.callVc hZ hR hN (c_R_mayBe N v0 a3 q6 q7 h9) zMX12_mayBe_ok rfl rfl zK_BorrowedLivesModel_319 zV_X12_mayBe rfl [25] [0] [0, 1, 2, 3, 4, 5, 6, 7, 8, 9, 10, 11, 12, 13, 14, 15, 16, 17, 18, 19, 20, 21, 22, 23, 24] rfl rfl rfl (by decide) (by decide) (by omega) (by decide) (Nat.zero_le _) (Nat.zero_le _) rfl rfl rfl rfl rfl ?_
        rintro v cc ⟨rfl, rfl⟩
        refine ⟨_, rfl, rfl, ?_⟩
        show AW Z 0 0 42 [some (.ref 0), some (.int a1), some (.int a2), some (.int a3)] [.int q7] ([kR 0 v0] : List (List zE)).flatten
        refine AW.run hZ hRm [50] 400 ?_
        show (((q7 = 0) → AW Z 0 0 50 [some (.ref 0), some (.int a1), some (.int a2), some (.int a3)] [.int 0] ([kR 0 v0] : List (List zE)).flatten) ∧ (¬ (q7 = 0) → AW Z 0 0 50 [some (.ref 0), some (.int a1), some (.int a2), some (.int a3)] [.int 1] ([kR 0 v0] : List (List zE)).flatten))
        refine ⟨fun c8 => ?_, fun c8 => ?_⟩
        · rw [if_pos c8] at hf
          cases hf
          exact AW.iret hZ hE rfl rfl rfl rfl (Nat.le_refl 0) (Nat.le_refl 0) rfl ⟨rfl, rfl⟩
        · rw [if_neg c8] at hf
          cases hf
          exact AW.iret hZ hE rfl rfl rfl rfl (Nat.le_refl 0) (Nat.le_refl 0) rfl ⟨rfl, rfl⟩
def f_R_swaps (N : Nat) (v0 : VR) (a1 : Int32) (a2 : Int32) (a3 : Int32) : Option ((Nat → Int32)) := ((f_R_ledBy N v0 a1 a2).bind (fun q1 => ((f_R_ledBy N v0 a1 a3).bind (fun q2 => (if (((a1 + 28) + q1) < 0 ∨ 1656 ≤ Int32.toNatClampNeg ((a1 + 28) + q1)) then none else (zlet ((upd (R_state v0) (Int32.toNatClampNeg ((a1 + 28) + q1)) a3) : (Nat → Int32)) (fun z3 => (if (((a1 + 28) + q2) < 0 ∨ 1656 ≤ Int32.toNatClampNeg ((a1 + 28) + q2)) then none else (zlet ((upd z3 (Int32.toNatClampNeg ((a1 + 28) + q2)) a2) : (Nat → Int32)) (fun z4 => (some z4)))))))))))
set_option maxRecDepth 20000 in
set_option maxHeartbeats 4000000 in
theorem c_R_swaps (N : Nat) (v0 : VR) (a1 : Int32) (a2 : Int32) (a3 : Int32) (R : (Nat → Int32)) (hf : f_R_swaps N v0 a1 a2 a3 = some R) : Ct zMX12_swaps 2 0 0 0 [.ref 0, .int a1, .int a2, .int a3] ([kR 0 v0] : List (List zE)).flatten (fun v cc => v = none ∧ cc = ([kR 0 (R_state_s v0 R)] : List (List zE)).flatten) := by
  refine Ct.of zMX12_swaps_ok (by decide) (Nat.le_of_ble_eq_true rfl) ?_
  intro Z hZ hR hN hE
  have hRm : zRoom Z 0 0 := zRoom0 Z
  unfold f_R_swaps at hf
  show AW Z 0 0 0 [some (.ref 0), some (.int a1), some (.int a2), some (.int a3), none, none] [] ([kR 0 v0] : List (List zE)).flatten
  refine AW.run hZ hRm [3] 400 ?_
  show AW Z 0 0 3 [some (.ref 0), some (.int a1), some (.int a2), some (.int a3), none, none] [.int a2, .int a1, .ref 0] ([kR 0 v0] : List (List zE)).flatten
  obtain ⟨q1, h8, hf⟩ := zbind hf
  refine AW.callVc hZ hR hN (c_R_ledBy N v0 a1 a2 q1 h8) zMX12_ledBy_ok rfl rfl zK_BorrowedLivesModel_390 zV_X12_ledBy rfl [25] [0] [0, 1, 2, 3, 4, 5, 6, 7, 8, 9, 10, 11, 12, 13, 14, 15, 16, 17, 18, 19, 20, 21, 22, 23, 24] rfl rfl rfl (by decide) (by decide) (by omega) (by decide) (Nat.zero_le _) (Nat.zero_le _) rfl rfl rfl rfl rfl ?_
  rintro v cc ⟨rfl, rfl⟩
  refine ⟨_, rfl, rfl, ?_⟩
  show AW Z 0 0 6 [some (.ref 0), some (.int a1), some (.int a2), some (.int a3), none, none] [.int q1] ([kR 0 v0] : List (List zE)).flatten
  refine AW.run hZ hRm [11] 400 ?_
  show AW Z 0 0 11 [some (.ref 0), some (.int a1), some (.int a2), some (.int a3), some (.int q1), none] [.int a3, .int a1, .ref 0] ([kR 0 v0] : List (List zE)).flatten
  obtain ⟨q2, h7, hf⟩ := zbind hf
  refine AW.callVc hZ hR hN (c_R_ledBy N v0 a1 a3 q2 h7) zMX12_ledBy_ok rfl rfl zK_BorrowedLivesModel_390 zV_X12_ledBy rfl [25] [0] [0, 1, 2, 3, 4, 5, 6, 7, 8, 9, 10, 11, 12, 13, 14, 15, 16, 17, 18, 19, 20, 21, 22, 23, 24] rfl rfl rfl (by decide) (by decide) (by omega) (by decide) (Nat.zero_le _) (Nat.zero_le _) rfl rfl rfl rfl rfl ?_
  rintro v cc ⟨rfl, rfl⟩
  refine ⟨_, rfl, rfl, ?_⟩
  show AW Z 0 0 14 [some (.ref 0), some (.int a1), some (.int a2), some (.int a3), some (.int q1), none] [.int q2] ([kR 0 v0] : List (List zE)).flatten
  refine AW.run hZ hRm [29] 400 ?_
  show (¬ (((a1 + 28) + q1) < 0 ∨ 1656 ≤ Int32.toNatClampNeg ((a1 + 28) + q1)) ∧ AW Z 0 0 29 [some (.ref 0), some (.int a1), some (.int a2), some (.int a3), some (.int q1), some (.int q2)] [] ([kR 0 (R_state_s v0 (upd (R_state v0) (Int32.toNatClampNeg ((a1 + 28) + q1)) a3))] : List (List zE)).flatten)
  obtain ⟨b6, hf⟩ := zneed hf
  refine ⟨b6, ?_⟩
  replace hf := zlet_gen hf
  generalize ((upd (R_state v0) (Int32.toNatClampNeg ((a1 + 28) + q1)) a3) : (Nat → Int32)) = z3 at hf ⊢
  as_aux_lemma =>
    refine AW.run hZ hRm [42] 400 ?_
    show (¬ (((a1 + 28) + q2) < 0 ∨ 1656 ≤ Int32.toNatClampNeg ((a1 + 28) + q2)) ∧ AW Z 0 0 42 [some (.ref 0), some (.int a1), some (.int a2), some (.int a3), some (.int q1), some (.int q2)] [] ([kR 0 (R_state_s v0 (upd z3 (Int32.toNatClampNeg ((a1 + 28) + q2)) a2))] : List (List zE)).flatten)
    obtain ⟨b5, hf⟩ := zneed hf
    refine ⟨b5, ?_⟩
    replace hf := zlet_gen hf
    generalize ((upd z3 (Int32.toNatClampNeg ((a1 + 28) + q2)) a2) : (Nat → Int32)) = z4 at hf ⊢
    as_aux_lemma =>
      cases hf
      exact AW.vret hZ hE rfl rfl rfl (Nat.le_refl 0) (Nat.le_refl 0) rfl ⟨rfl, rfl⟩
def f_R_swap (N : Nat) (v0 : VR) (a1 : Int32) (a2 : Int32) : Option (Int32 × Int32 × (Nat → Int32) × Int32) := ((f_R_isPerson N (R_thrown_s v0 0) a1).bind (fun q1 => (if (q1 = 0) then (some (0, 0, (R_state v0), (R_undos v0))) else ((f_R_isPerson N (R_thrown_s v0 0) a2).bind (fun q3 => (if (q3 = 0) then (some (0, 0, (R_state v0), (R_undos v0))) else ((f_R_maySwap N (R_thrown_s v0 0) 0 a1 a2).bind (fun q5 => (if (q5 = 0) then (some (0, 0, (R_state v0), (R_undos v0))) else ((f_R_keeps N (R_thrown_s v0 0)).bind (fun q7 => ((f_R_swaps N (R_s_thrown_state_undos v0 0 q7.1 q7.2) 0 a1 a2).bind (fun q8 => (some (1, 0, q8, q7.2)))))))))))))))
set_option maxRecDepth 20000 in
set_option maxHeartbeats 4000000 in
theorem c_R_swap (N : Nat) (v0 : VR) (a1 : Int32) (a2 : Int32) (R : Int32 × Int32 × (Nat → Int32) × Int32) (hf : f_R_swap N v0 a1 a2 = some R) : Ct zMX12_swap 3 0 0 0 [.ref 0, .int a1, .int a2] ([kR 0 v0] : List (List zE)).flatten (fun v cc => v = some (.int R.1) ∧ cc = ([kR 0 (R_s_thrown_state_undos v0 R.2.1 R.2.2.1 R.2.2.2)] : List (List zE)).flatten) := by
  refine Ct.of zMX12_swap_ok (by decide) (Nat.le_of_ble_eq_true rfl) ?_
  intro Z hZ hR hN hE
  have hRm : zRoom Z 0 0 := zRoom0 Z
  unfold f_R_swap at hf
  show AW Z 0 0 0 [some (.ref 0), some (.int a1), some (.int a2)] [] ([kR 0 v0] : List (List zE)).flatten
  refine AW.run hZ hRm [7] 400 ?_
  show AW Z 0 0 7 [some (.ref 0), some (.int a1), some (.int a2)] [.int a1, .ref 0] ([kR 0 (R_thrown_s v0 0)] : List (List zE)).flatten
  obtain ⟨q1, h13, hf⟩ := zbind hf
  refine AW.callVc hZ hR hN (c_R_isPerson N (R_thrown_s v0 0) a1 q1 h13) zMX12_isPerson_ok rfl rfl zK_BorrowedLivesModel_356 zV_X12_isPerson rfl [25] [0] [0, 1, 2, 3, 4, 5, 6, 7, 8, 9, 10, 11, 12, 13, 14, 15, 16, 17, 18, 19, 20, 21, 22, 23, 24] rfl rfl rfl (by decide) (by decide) (by omega) (by decide) (Nat.zero_le _) (Nat.zero_le _) rfl rfl rfl rfl rfl ?_
  rintro v cc ⟨rfl, rfl⟩
  refine ⟨_, rfl, rfl, ?_⟩
  show AW Z 0 0 10 [some (.ref 0), some (.int a1), some (.int a2)] [.int q1] ([kR 0 (R_thrown_s v0 0)] : List (List zE)).flatten
  refine AW.run hZ hRm [15, 32] 400 ?_
  show (((q1 = 0) → AW Z 0 0 32 [some (.ref 0), some (.int a1), some (.int a2)] [.int 0] ([kR 0 (R_thrown_s v0 0)] : List (List zE)).flatten) ∧ (¬ (q1 = 0) → AW Z 0 0 15 [some (.ref 0), some (.int a1), some (.int a2)] [.int a2, .ref 0] ([kR 0 (R_thrown_s v0 0)] : List (List zE)).flatten))
  refine ⟨fun c2 => ?_, fun c2 => ?_⟩
  · rw [if_pos c2] at hf
    cases hf
    exact AW.iret hZ hE rfl rfl rfl rfl (Nat.le_refl 0) (Nat.le_refl 0) rfl ⟨rfl, rfl⟩
  · rw [if_neg c2] at hf
    obtain ⟨q3, h12, hf⟩ := zbind hf
    refine AW.callVc hZ hR hN (c_R_isPerson N (R_thrown_s v0 0) a2 q3 h12) zMX12_isPerson_ok rfl rfl zK_BorrowedLivesModel_356 zV_X12_isPerson rfl [25] [0] [0, 1, 2, 3, 4, 5, 6, 7, 8, 9, 10, 11, 12, 13, 14, 15, 16, 17, 18, 19, 20, 21, 22, 23, 24] rfl rfl rfl (by decide) (by decide) (by omega) (by decide) (Nat.zero_le _) (Nat.zero_le _) rfl rfl rfl rfl rfl ?_
    rintro v cc ⟨rfl, rfl⟩
    refine ⟨_, rfl, rfl, ?_⟩
    show AW Z 0 0 18 [some (.ref 0), some (.int a1), some (.int a2)] [.int q3] ([kR 0 (R_thrown_s v0 0)] : List (List zE)).flatten
    refine AW.run hZ hRm [25, 32] 400 ?_
    show (((q3 = 0) → AW Z 0 0 32 [some (.ref 0), some (.int a1), some (.int a2)] [.int 0] ([kR 0 (R_thrown_s v0 0)] : List (List zE)).flatten) ∧ (¬ (q3 = 0) → AW Z 0 0 25 [some (.ref 0), some (.int a1), some (.int a2)] [.int a2, .int a1, .int 0, .ref 0] ([kR 0 (R_thrown_s v0 0)] : List (List zE)).flatten))
    refine ⟨fun c4 => ?_, fun c4 => ?_⟩
    · rw [if_pos c4] at hf
      cases hf
      exact AW.iret hZ hE rfl rfl rfl rfl (Nat.le_refl 0) (Nat.le_refl 0) rfl ⟨rfl, rfl⟩
    · rw [if_neg c4] at hf
      obtain ⟨q5, h11, hf⟩ := zbind hf
      refine AW.callVc hZ hR hN (c_R_maySwap N (R_thrown_s v0 0) 0 a1 a2 q5 h11) zMX12_maySwap_ok rfl rfl zK_BorrowedLivesModel_393 zV_X12_maySwap rfl [25] [0] [0, 1, 2, 3, 4, 5, 6, 7, 8, 9, 10, 11, 12, 13, 14, 15, 16, 17, 18, 19, 20, 21, 22, 23, 24] rfl rfl rfl (by decide) (by decide) (by omega) (by decide) (Nat.zero_le _) (Nat.zero_le _) rfl rfl rfl rfl rfl ?_
      rintro v cc ⟨rfl, rfl⟩
      refine ⟨_, rfl, rfl, ?_⟩
      show AW Z 0 0 28 [some (.ref 0), some (.int a1), some (.int a2)] [.int q5] ([kR 0 (R_thrown_s v0 0)] : List (List zE)).flatten
      refine AW.run hZ hRm [32, 34] 400 ?_
      show ((¬ (q5 = 0) → AW Z 0 0 34 [some (.ref 0), some (.int a1), some (.int a2)] [.ref 0] ([kR 0 (R_thrown_s v0 0)] : List (List zE)).flatten) ∧ ((q5 = 0) → AW Z 0 0 32 [some (.ref 0), some (.int a1), some (.int a2)] [.int 0] ([kR 0 (R_thrown_s v0 0)] : List (List zE)).flatten))
      refine ⟨fun c6 => ?_, fun c6 => ?_⟩
      · rw [if_neg c6] at hf
        obtain ⟨q7, h10, hf⟩ := zbind hf
        refine AW.callVc hZ hR hN (c_R_keeps N (R_thrown_s v0 0) q7 h10) zMX12_keeps_ok rfl rfl zK_BorrowedLivesModel_366 zV_X12_keeps rfl [25] [0] [0, 1, 2, 3, 4, 5, 6, 7, 8, 9, 10, 11, 12, 13, 14, 15, 16, 17, 18, 19, 20, 21, 22, 23, 24] rfl rfl rfl (by decide) (by decide) (by omega) (by decide) (Nat.zero_le _) (Nat.zero_le _) rfl rfl rfl rfl rfl ?_
        rintro v cc ⟨rfl, rfl⟩
        refine ⟨_, rfl, rfl, ?_⟩
        show AW Z 0 0 37 [some (.ref 0), some (.int a1), some (.int a2)] [] ([kR 0 (R_s_thrown_state_undos v0 0 q7.1 q7.2)] : List (List zE)).flatten
        refine AW.run hZ hRm [41] 400 ?_
        show AW Z 0 0 41 [some (.ref 0), some (.int a1), some (.int a2)] [.int a2, .int a1, .int 0, .ref 0] ([kR 0 (R_s_thrown_state_undos v0 0 q7.1 q7.2)] : List (List zE)).flatten
        obtain ⟨q8, h9, hf⟩ := zbind hf
        refine AW.callVc hZ hR hN (c_R_swaps N (R_s_thrown_state_undos v0 0 q7.1 q7.2) 0 a1 a2 q8 h9) zMX12_swaps_ok rfl rfl zK_BorrowedLivesModel_396 zV_X12_swaps rfl [25] [0] [0, 1, 2, 3, 4, 5, 6, 7, 8, 9, 10, 11, 12, 13, 14, 15, 16, 17, 18, 19, 20, 21, 22, 23, 24] rfl rfl rfl (by decide) (by decide) (by omega) (by decide) (Nat.zero_le _) (Nat.zero_le _) rfl rfl rfl rfl rfl ?_
        rintro v cc ⟨rfl, rfl⟩
        refine ⟨_, rfl, rfl, ?_⟩
        show AW Z 0 0 44 [some (.ref 0), some (.int a1), some (.int a2)] [] ([kR 0 (R_s_thrown_state_undos v0 0 q8 q7.2)] : List (List zE)).flatten
        refine AW.run hZ hRm [45] 400 ?_
        show AW Z 0 0 45 [some (.ref 0), some (.int a1), some (.int a2)] [.int 1] ([kR 0 (R_s_thrown_state_undos v0 0 q8 q7.2)] : List (List zE)).flatten
        cases hf
        exact AW.iret hZ hE rfl rfl rfl rfl (Nat.le_refl 0) (Nat.le_refl 0) rfl ⟨rfl, rfl⟩
      · rw [if_pos c6] at hf
        cases hf
        exact AW.iret hZ hE rfl rfl rfl rfl (Nat.le_refl 0) (Nat.le_refl 0) rfl ⟨rfl, rfl⟩
def f_R_mayPass (N : Nat) (v0 : VR) (a1 : Int32) : Option (Int32) := (if ((a1 + 0) < 0 ∨ 1656 ≤ Int32.toNatClampNeg (a1 + 0)) then none else (if (((R_state v0) (Int32.toNatClampNeg (a1 + 0))) = 1) then (if ((a1 + 1) < 0 ∨ 1656 ≤ Int32.toNatClampNeg (a1 + 1)) then none else (if (7 ≤ ((R_state v0) (Int32.toNatClampNeg (a1 + 1)))) then (some 0) else (some 1))) else (some 0)))
set_option maxRecDepth 20000 in
set_option maxHeartbeats 4000000 in
theorem c_R_mayPass (N : Nat) (v0 : VR) (a1 : Int32) (R : Int32) (hf : f_R_mayPass N v0 a1 = some R) : Ct zMX12_mayPass 1 0 0 0 [.ref 0, .int a1] ([kR 0 v0] : List (List zE)).flatten (fun v cc => v = some (.int R) ∧ cc = ([kR 0 v0] : List (List zE)).flatten) := by
  refine Ct.of zMX12_mayPass_ok (by decide) (Nat.le_of_ble_eq_true rfl) ?_
  intro Z hZ hR hN hE
  have hRm : zRoom Z 0 0 := zRoom0 Z
  unfold f_R_mayPass at hf
  show AW Z 0 0 0 [some (.ref 0), some (.int a1)] [] ([kR 0 v0] : List (List zE)).flatten
  refine AW.run hZ hRm [30] 400 ?_
  show (¬ ((a1 + 0) < 0 ∨ 1656 ≤ Int32.toNatClampNeg (a1 + 0)) ∧ ((¬ (((R_state v0) (Int32.toNatClampNeg (a1 + 0))) = 1) → AW Z 0 0 30 [some (.ref 0), some (.int a1)] [.int 0] ([kR 0 v0] : List (List zE)).flatten) ∧ ((((R_state v0) (Int32.toNatClampNeg (a1 + 0))) = 1) → (¬ ((a1 + 1) < 0 ∨ 1656 ≤ Int32.toNatClampNeg (a1 + 1)) ∧ (((7 ≤ ((R_state v0) (Int32.toNatClampNeg (a1 + 1)))) → AW Z 0 0 30 [some (.ref 0), some (.int a1)] [.int 0] ([kR 0 v0] : List (List zE)).flatten) ∧ (¬ (7 ≤ ((R_state v0) (Int32.toNatClampNeg (a1 + 1)))) → AW Z 0 0 30 [some (.ref 0), some (.int a1)] [.int 1] ([kR 0 v0] : List (List zE)).flatten))))))
  obtain ⟨b4, hf⟩ := zneed hf
  refine ⟨b4, ?_⟩
  refine ⟨fun c1 => ?_, fun c1 => ?_⟩
  · rw [if_neg c1] at hf
    cases hf
    exact AW.iret hZ hE rfl rfl rfl rfl (Nat.le_refl 0) (Nat.le_refl 0) rfl ⟨rfl, rfl⟩
  · rw [if_pos c1] at hf
    obtain ⟨b3, hf⟩ := zneed hf
    refine ⟨b3, ?_⟩
    refine ⟨fun c2 => ?_, fun c2 => ?_⟩
    · rw [if_pos c2] at hf
      cases hf
      exact AW.iret hZ hE rfl rfl rfl rfl (Nat.le_refl 0) (Nat.le_refl 0) rfl ⟨rfl, rfl⟩
    · rw [if_neg c2] at hf
      cases hf
      exact AW.iret hZ hE rfl rfl rfl rfl (Nat.le_refl 0) (Nat.le_refl 0) rfl ⟨rfl, rfl⟩
def f_R_day (N : Nat) (v0 : VR) : Option (Int32 × Int32 × (Nat → Int32) × (Nat → Int32) × (Nat → Int32) × Int32) := ((f_R_mayPass N (R_thrown_s v0 0) 0).bind (fun q1 => (if (q1 = 0) then (some ((-1), 0, (R_facts v0), (R_pile v0), (R_state v0), (R_undos v0))) else ((f_R_keeps N (R_thrown_s v0 0)).bind (fun q3 => ((f_R_passes N (R_s_thrown_state_undos v0 0 q3.1 q3.2) 0).bind (fun q4 => (some ((q4.2.2 (Int32.toNatClampNeg 1)), 0, q4.1, q4.2.1, q4.2.2, q3.2)))))))))
set_option maxRecDepth 20000 in
set_option maxHeartbeats 4000000 in
theorem c_R_day (N : Nat) (v0 : VR) (R : Int32 × Int32 × (Nat → Int32) × (Nat → Int32) × (Nat → Int32) × Int32) (hf : f_R_day N v0 = some R) : Ct zMX12_day 5 0 0 0 [.ref 0] ([kR 0 v0] : List (List zE)).flatten (fun v cc => v = some (.int R.1) ∧ cc = ([kR 0 (R_s_thrown_facts_pile_state_undos v0 R.2.1 R.2.2.1 R.2.2.2.1 R.2.2.2.2.1 R.2.2.2.2.2)] : List (List zE)).flatten) := by
  refine Ct.of zMX12_day_ok (by decide) (Nat.le_of_ble_eq_true rfl) ?_
  intro Z hZ hR hN hE
  have hRm : zRoom Z 0 0 := zRoom0 Z
  unfold f_R_day at hf
  show AW Z 0 0 0 [some (.ref 0)] [] ([kR 0 v0] : List (List zE)).flatten
  refine AW.run hZ hRm [7] 400 ?_
  show AW Z 0 0 7 [some (.ref 0)] [.int 0, .ref 0] ([kR 0 (R_thrown_s v0 0)] : List (List zE)).flatten
  obtain ⟨q1, h7, hf⟩ := zbind hf
  refine AW.callVc hZ hR hN (c_R_mayPass N (R_thrown_s v0 0) 0 q1 h7) zMX12_mayPass_ok rfl rfl zK_BorrowedLivesModel_399 zV_X12_mayPass rfl [25] [0] [0, 1, 2, 3, 4, 5, 6, 7, 8, 9, 10, 11, 12, 13, 14, 15, 16, 17, 18, 19, 20, 21, 22, 23, 24] rfl rfl rfl (by decide) (by decide) (by omega) (by decide) (Nat.zero_le _) (Nat.zero_le _) rfl rfl rfl rfl rfl ?_
  rintro v cc ⟨rfl, rfl⟩
  refine ⟨_, rfl, rfl, ?_⟩
  show AW Z 0 0 10 [some (.ref 0)] [.int q1] ([kR 0 (R_thrown_s v0 0)] : List (List zE)).flatten
  refine AW.run hZ hRm [14, 16] 400 ?_
  show ((¬ (q1 = 0) → AW Z 0 0 16 [some (.ref 0)] [.ref 0] ([kR 0 (R_thrown_s v0 0)] : List (List zE)).flatten) ∧ ((q1 = 0) → AW Z 0 0 14 [some (.ref 0)] [.int (-1)] ([kR 0 (R_thrown_s v0 0)] : List (List zE)).flatten))
  refine ⟨fun c2 => ?_, fun c2 => ?_⟩
  · rw [if_neg c2] at hf
    obtain ⟨q3, h6, hf⟩ := zbind hf
    refine AW.callVc hZ hR hN (c_R_keeps N (R_thrown_s v0 0) q3 h6) zMX12_keeps_ok rfl rfl zK_BorrowedLivesModel_366 zV_X12_keeps rfl [25] [0] [0, 1, 2, 3, 4, 5, 6, 7, 8, 9, 10, 11, 12, 13, 14, 15, 16, 17, 18, 19, 20, 21, 22, 23, 24] rfl rfl rfl (by decide) (by decide) (by omega) (by decide) (Nat.zero_le _) (Nat.zero_le _) rfl rfl rfl rfl rfl ?_
    rintro v cc ⟨rfl, rfl⟩
    refine ⟨_, rfl, rfl, ?_⟩
    show AW Z 0 0 19 [some (.ref 0)] [] ([kR 0 (R_s_thrown_state_undos v0 0 q3.1 q3.2)] : List (List zE)).flatten
    refine AW.run hZ hRm [21] 400 ?_
    show AW Z 0 0 21 [some (.ref 0)] [.int 0, .ref 0] ([kR 0 (R_s_thrown_state_undos v0 0 q3.1 q3.2)] : List (List zE)).flatten
    obtain ⟨q4, h5, hf⟩ := zbind hf
    refine AW.callVc hZ hR hN (c_R_passes N (R_s_thrown_state_undos v0 0 q3.1 q3.2) 0 q4 h5) zMX12_passes_ok rfl rfl zK_BorrowedLivesModel_402 zV_X12_passes rfl [25] [0] [0, 1, 2, 3, 4, 5, 6, 7, 8, 9, 10, 11, 12, 13, 14, 15, 16, 17, 18, 19, 20, 21, 22, 23, 24] rfl rfl rfl (by decide) (by decide) (by omega) (by decide) (Nat.zero_le _) (Nat.zero_le _) rfl rfl rfl rfl rfl ?_
    rintro v cc ⟨rfl, rfl⟩
    refine ⟨_, rfl, rfl, ?_⟩
    show AW Z 0 0 24 [some (.ref 0)] [] ([kR 0 (R_s_thrown_facts_pile_state_undos v0 0 q4.1 q4.2.1 q4.2.2 q3.2)] : List (List zE)).flatten
    refine AW.run hZ hRm [30] 400 ?_
    show (¬ ((1 : Int32) < 0 ∨ 1656 ≤ Int32.toNatClampNeg 1) ∧ AW Z 0 0 30 [some (.ref 0)] [.int (q4.2.2 (Int32.toNatClampNeg 1))] ([kR 0 (R_s_thrown_facts_pile_state_undos v0 0 q4.1 q4.2.1 q4.2.2 q3.2)] : List (List zE)).flatten)
    refine ⟨(by decide), ?_⟩
    cases hf
    exact AW.iret hZ hE rfl rfl rfl rfl (Nat.le_refl 0) (Nat.le_refl 0) rfl ⟨rfl, rfl⟩
  · rw [if_pos c2] at hf
    cases hf
    exact AW.iret hZ hE rfl rfl rfl rfl (Nat.le_refl 0) (Nat.le_refl 0) rfl ⟨rfl, rfl⟩
def f_R_home (N : Nat) (v0 : VR) : Option (Int32 × Int32 × (Nat → Int32) × Int32) := (if (((R_state v0) (Int32.toNatClampNeg 0)) = 0) then (some ((-1), 0, (R_state v0), (R_undos v0))) else ((f_R_keeps N (R_thrown_s v0 0)).bind (fun q2 => ((f_R_goesHome N (R_s_thrown_state_undos v0 0 q2.1 q2.2) 0).bind (fun q3 => (some (q3.1, 0, q3.2, q2.2)))))))
set_option maxRecDepth 20000 in
set_option maxHeartbeats 4000000 in
theorem c_R_home (N : Nat) (v0 : VR) (R : Int32 × Int32 × (Nat → Int32) × Int32) (hf : f_R_home N v0 = some R) : Ct zMX12_home 4 0 0 0 [.ref 0] ([kR 0 v0] : List (List zE)).flatten (fun v cc => v = some (.int R.1) ∧ cc = ([kR 0 (R_s_thrown_state_undos v0 R.2.1 R.2.2.1 R.2.2.2)] : List (List zE)).flatten) := by
  refine Ct.of zMX12_home_ok (by decide) (Nat.le_of_ble_eq_true rfl) ?_
  intro Z hZ hR hN hE
  have hRm : zRoom Z 0 0 := zRoom0 Z
  unfold f_R_home at hf
  show AW Z 0 0 0 [some (.ref 0)] [] ([kR 0 v0] : List (List zE)).flatten
  refine AW.run hZ hRm [15, 17] 400 ?_
  show (¬ ((0 : Int32) < 0 ∨ 1656 ≤ Int32.toNatClampNeg 0) ∧ ((¬ (((R_state v0) (Int32.toNatClampNeg 0)) = 0) → AW Z 0 0 17 [some (.ref 0)] [.ref 0] ([kR 0 (R_thrown_s v0 0)] : List (List zE)).flatten) ∧ ((((R_state v0) (Int32.toNatClampNeg 0)) = 0) → AW Z 0 0 15 [some (.ref 0)] [.int (-1)] ([kR 0 (R_thrown_s v0 0)] : List (List zE)).flatten)))
  refine ⟨(by decide), ?_⟩
  refine ⟨fun c1 => ?_, fun c1 => ?_⟩
  · rw [if_neg c1] at hf
    obtain ⟨q2, h5, hf⟩ := zbind hf
    refine AW.callVc hZ hR hN (c_R_keeps N (R_thrown_s v0 0) q2 h5) zMX12_keeps_ok rfl rfl zK_BorrowedLivesModel_366 zV_X12_keeps rfl [25] [0] [0, 1, 2, 3, 4, 5, 6, 7, 8, 9, 10, 11, 12, 13, 14, 15, 16, 17, 18, 19, 20, 21, 22, 23, 24] rfl rfl rfl (by decide) (by decide) (by omega) (by decide) (Nat.zero_le _) (Nat.zero_le _) rfl rfl rfl rfl rfl ?_
    rintro v cc ⟨rfl, rfl⟩
    refine ⟨_, rfl, rfl, ?_⟩
    show AW Z 0 0 20 [some (.ref 0)] [] ([kR 0 (R_s_thrown_state_undos v0 0 q2.1 q2.2)] : List (List zE)).flatten
    refine AW.run hZ hRm [22] 400 ?_
    show AW Z 0 0 22 [some (.ref 0)] [.int 0, .ref 0] ([kR 0 (R_s_thrown_state_undos v0 0 q2.1 q2.2)] : List (List zE)).flatten
    obtain ⟨q3, h4, hf⟩ := zbind hf
    refine AW.callVc hZ hR hN (c_R_goesHome N (R_s_thrown_state_undos v0 0 q2.1 q2.2) 0 q3 h4) zMX12_goesHome_ok rfl rfl zK_BorrowedLivesModel_405 zV_X12_goesHome rfl [25] [0] [0, 1, 2, 3, 4, 5, 6, 7, 8, 9, 10, 11, 12, 13, 14, 15, 16, 17, 18, 19, 20, 21, 22, 23, 24] rfl rfl rfl (by decide) (by decide) (by omega) (by decide) (Nat.zero_le _) (Nat.zero_le _) rfl rfl rfl rfl rfl ?_
    rintro v cc ⟨rfl, rfl⟩
    refine ⟨_, rfl, rfl, ?_⟩
    show AW Z 0 0 25 [some (.ref 0)] [.int q3.1] ([kR 0 (R_s_thrown_state_undos v0 0 q3.2 q2.2)] : List (List zE)).flatten
    cases hf
    exact AW.iret hZ hE rfl rfl rfl rfl (Nat.le_refl 0) (Nat.le_refl 0) rfl ⟨rfl, rfl⟩
  · rw [if_pos c1] at hf
    cases hf
    exact AW.iret hZ hE rfl rfl rfl rfl (Nat.le_refl 0) (Nat.le_refl 0) rfl ⟨rfl, rfl⟩
def f_R_undo (N : Nat) (v0 : VR) : Option (Int32 × Int32 × (Nat → Int32) × Int32) := (if ((R_undos v0) = 0) then (some (0, 0, (R_state v0), (R_undos v0))) else ((f_R_copies N (R_s_thrown_undos v0 0 ((R_undos v0) - 1)) (72 * (5 + ((R_undos v0) - 1))) 0 46).bind (fun q2 => (some (1, 0, q2, ((R_undos v0) - 1))))))
set_option maxRecDepth 20000 in
set_option maxHeartbeats 4000000 in
theorem c_R_undo (N : Nat) (v0 : VR) (R : Int32 × Int32 × (Nat → Int32) × Int32) (hf : f_R_undo N v0 = some R) : Ct zMX12_undo 2 0 0 0 [.ref 0] ([kR 0 v0] : List (List zE)).flatten (fun v cc => v = some (.int R.1) ∧ cc = ([kR 0 (R_s_thrown_state_undos v0 R.2.1 R.2.2.1 R.2.2.2)] : List (List zE)).flatten) := by
  refine Ct.of zMX12_undo_ok (by decide) (Nat.le_of_ble_eq_true rfl) ?_
  intro Z hZ hR hN hE
  have hRm : zRoom Z 0 0 := zRoom0 Z
  unfold f_R_undo at hf
  show AW Z 0 0 0 [some (.ref 0)] [] ([kR 0 v0] : List (List zE)).flatten
  refine AW.run hZ hRm [13, 37] 400 ?_
  show ((¬ ((R_undos v0) = 0) → AW Z 0 0 37 [some (.ref 0)] [.int 46, .int 0, .int (72 * (5 + ((R_undos v0) - 1))), .ref 0] ([kR 0 (R_s_thrown_undos v0 0 ((R_undos v0) - 1))] : List (List zE)).flatten) ∧ (((R_undos v0) = 0) → AW Z 0 0 13 [some (.ref 0)] [.int 0] ([kR 0 (R_thrown_s v0 0)] : List (List zE)).flatten))
  refine ⟨fun c1 => ?_, fun c1 => ?_⟩
  · rw [if_neg c1] at hf
    obtain ⟨q2, h3, hf⟩ := zbind hf
    refine AW.callVc hZ hR hN (c_R_copies N (R_s_thrown_undos v0 0 ((R_undos v0) - 1)) (72 * (5 + ((R_undos v0) - 1))) 0 46 q2 h3) zMX12_copies_ok rfl rfl zK_BorrowedLivesModel_309 zV_X12_copies rfl [25] [0] [0, 1, 2, 3, 4, 5, 6, 7, 8, 9, 10, 11, 12, 13, 14, 15, 16, 17, 18, 19, 20, 21, 22, 23, 24] rfl rfl rfl (by decide) (by decide) (by omega) (by decide) (Nat.zero_le _) (Nat.zero_le _) rfl rfl rfl rfl rfl ?_
    rintro v cc ⟨rfl, rfl⟩
    refine ⟨_, rfl, rfl, ?_⟩
    show AW Z 0 0 40 [some (.ref 0)] [] ([kR 0 (R_s_thrown_state_undos v0 0 q2 ((R_undos v0) - 1))] : List (List zE)).flatten
    refine AW.run hZ hRm [41] 400 ?_
    show AW Z 0 0 41 [some (.ref 0)] [.int 1] ([kR 0 (R_s_thrown_state_undos v0 0 q2 ((R_undos v0) - 1))] : List (List zE)).flatten
    cases hf
    exact AW.iret hZ hE rfl rfl rfl rfl (Nat.le_refl 0) (Nat.le_refl 0) rfl ⟨rfl, rfl⟩
  · rw [if_pos c1] at hf
    cases hf
    exact AW.iret hZ hE rfl rfl rfl rfl (Nat.le_refl 0) (Nat.le_refl 0) rfl ⟨rfl, rfl⟩
def f_R_mayDo (N : Nat) (v0 : VR) (a1 : Int32) (a2 : Int32) (a3 : Int32) : Option (Int32) := (if (a1 = 0) then ((f_R_mayHide N v0 1512 a2 a3).bind (fun q15 => (if (q15 = 0 ∨ q15 = 1) then (some q15) else none))) else (if (a1 = 1) then ((f_R_mayLeave N v0 1512).bind (fun q11 => (if (q11 = 0 ∨ q11 = 1) then (some q11) else none))) else (if (a1 = 2) then ((f_R_maySwap N v0 1512 a2 a3).bind (fun q7 => (if (q7 = 0 ∨ q7 = 1) then (some q7) else none))) else (if (a1 = 3) then ((f_R_mayPass N v0 1512).bind (fun q3 => (if (q3 = 0 ∨ q3 = 1) then (some q3) else none))) else (if (((R_state v0) (Int32.toNatClampNeg 1512)) = 1) then (some 1) else (some 0))))))
set_option maxRecDepth 20000 in
set_option maxHeartbeats 4000000 in
theorem c_R_mayDo (N : Nat) (v0 : VR) (a1 : Int32) (a2 : Int32) (a3 : Int32) (R : Int32) (hf : f_R_mayDo N v0 a1 a2 a3 = some R) : Ct zMX12_mayDo 3 0 0 0 [.ref 0, .int a1, .int a2, .int a3] ([kR 0 v0] : List (List zE)).flatten (fun v cc => v = some (.int R) ∧ cc = ([kR 0 v0] : List (List zE)).flatten) := by
  refine Ct.of zMX12_mayDo_ok (by decide) (Nat.le_of_ble_eq_true rfl) ?_
  intro Z hZ hR hN hE
  have hRm : zRoom Z 0 0 := zRoom0 Z
  unfold f_R_mayDo at hf
  show AW Z 0 0 0 [some (.ref 0), some (.int a1), some (.int a2), some (.int a3)] [] ([kR 0 v0] : List (List zE)).flatten
  refine AW.run hZ hRm [38, 46, 56, 64, 85] 400 ?_
  show ((a1 = 0 → AW Z 0 0 38 [some (.ref 0), some (.int a1), some (.int a2), some (.int a3)] [.int a3, .int a2, .int 1512, .ref 0] ([kR 0 v0] : List (List zE)).flatten) ∧ (¬ a1 = 0 → ((a1 = 1 → AW Z 0 0 46 [some (.ref 0), some (.int a1), some (.int a2), some (.int a3)] [.int 1512, .ref 0] ([kR 0 v0] : List (List zE)).flatten) ∧ (¬ a1 = 1 → ((a1 = 2 → AW Z 0 0 56 [some (.ref 0), some (.int a1), some (.int a2), some (.int a3)] [.int a3, .int a2, .int 1512, .ref 0] ([kR 0 v0] : List (List zE)).flatten) ∧ (¬ a1 = 2 → ((a1 = 3 → AW Z 0 0 64 [some (.ref 0), some (.int a1), some (.int a2), some (.int a3)] [.int 1512, .ref 0] ([kR 0 v0] : List (List zE)).flatten) ∧ (¬ a1 = 3 → (¬ ((1512 : Int32) < 0 ∨ 1656 ≤ Int32.toNatClampNeg 1512) ∧ ((¬ (((R_state v0) (Int32.toNatClampNeg 1512)) = 1) → AW Z 0 0 85 [some (.ref 0), some (.int a1), some (.int a2), some (.int a3)] [.int 0] ([kR 0 v0] : List (List zE)).flatten) ∧ ((((R_state v0) (Int32.toNatClampNeg 1512)) = 1) → AW Z 0 0 85 [some (.ref 0), some (.int a1), some (.int a2), some (.int a3)] [.int 1] ([kR 0 v0] : List (List zE)).flatten)))))))))))
  refine ⟨fun c14 => ?_, fun c14 => ?_⟩
  · rw [if_pos c14] at hf
    obtain ⟨q15, h17, hf⟩ := zbind hf
    refine AW.callVc hZ hR hN (c_R_mayHide N v0 1512 a2 a3 q15 h17) zMX12_mayHide_ok rfl rfl zK_BorrowedLivesModel_363 zV_X12_mayHide rfl [25] [0] [0, 1, 2, 3, 4, 5, 6, 7, 8, 9, 10, 11, 12, 13, 14, 15, 16, 17, 18, 19, 20, 21, 22, 23, 24] rfl rfl rfl (by decide) (by decide) (by omega) (by decide) (Nat.zero_le _) (Nat.zero_le _) rfl rfl rfl rfl rfl ?_
    rintro v cc ⟨rfl, rfl⟩
    refine ⟨_, rfl, rfl, ?_⟩
    show AW Z 0 0 41 [some (.ref 0), some (.int a1), some (.int a2), some (.int a3)] [.int q15] ([kR 0 v0] : List (List zE)).flatten
    obtain ⟨b16, hf⟩ := zneedP hf
    cases hf
    exact AW.iret hZ hE rfl rfl rfl (znarZ b16) (Nat.le_refl 0) (Nat.le_refl 0) rfl ⟨rfl, rfl⟩
  · rw [if_neg c14] at hf
    refine ⟨fun c10 => ?_, fun c10 => ?_⟩
    · rw [if_pos c10] at hf
      obtain ⟨q11, h13, hf⟩ := zbind hf
      refine AW.callVc hZ hR hN (c_R_mayLeave N v0 1512 q11 h13) zMX12_mayLeave_ok rfl rfl zK_BorrowedLivesModel_381 zV_X12_mayLeave rfl [25] [0] [0, 1, 2, 3, 4, 5, 6, 7, 8, 9, 10, 11, 12, 13, 14, 15, 16, 17, 18, 19, 20, 21, 22, 23, 24] rfl rfl rfl (by decide) (by decide) (by omega) (by decide) (Nat.zero_le _) (Nat.zero_le _) rfl rfl rfl rfl rfl ?_
      rintro v cc ⟨rfl, rfl⟩
      refine ⟨_, rfl, rfl, ?_⟩
      show AW Z 0 0 49 [some (.ref 0), some (.int a1), some (.int a2), some (.int a3)] [.int q11] ([kR 0 v0] : List (List zE)).flatten
      obtain ⟨b12, hf⟩ := zneedP hf
      cases hf
      exact AW.iret hZ hE rfl rfl rfl (znarZ b12) (Nat.le_refl 0) (Nat.le_refl 0) rfl ⟨rfl, rfl⟩
    · rw [if_neg c10] at hf
      refine ⟨fun c6 => ?_, fun c6 => ?_⟩
      · rw [if_pos c6] at hf
        obtain ⟨q7, h9, hf⟩ := zbind hf
        refine AW.callVc hZ hR hN (c_R_maySwap N v0 1512 a2 a3 q7 h9) zMX12_maySwap_ok rfl rfl zK_BorrowedLivesModel_393 zV_X12_maySwap rfl [25] [0] [0, 1, 2, 3, 4, 5, 6, 7, 8, 9, 10, 11, 12, 13, 14, 15, 16, 17, 18, 19, 20, 21, 22, 23, 24] rfl rfl rfl (by decide) (by decide) (by omega) (by decide) (Nat.zero_le _) (Nat.zero_le _) rfl rfl rfl rfl rfl ?_
        rintro v cc ⟨rfl, rfl⟩
        refine ⟨_, rfl, rfl, ?_⟩
        show AW Z 0 0 59 [some (.ref 0), some (.int a1), some (.int a2), some (.int a3)] [.int q7] ([kR 0 v0] : List (List zE)).flatten
        obtain ⟨b8, hf⟩ := zneedP hf
        cases hf
        exact AW.iret hZ hE rfl rfl rfl (znarZ b8) (Nat.le_refl 0) (Nat.le_refl 0) rfl ⟨rfl, rfl⟩
      · rw [if_neg c6] at hf
        refine ⟨fun c2 => ?_, fun c2 => ?_⟩
        · rw [if_pos c2] at hf
          obtain ⟨q3, h5, hf⟩ := zbind hf
          refine AW.callVc hZ hR hN (c_R_mayPass N v0 1512 q3 h5) zMX12_mayPass_ok rfl rfl zK_BorrowedLivesModel_399 zV_X12_mayPass rfl [25] [0] [0, 1, 2, 3, 4, 5, 6, 7, 8, 9, 10, 11, 12, 13, 14, 15, 16, 17, 18, 19, 20, 21, 22, 23, 24] rfl rfl rfl (by decide) (by decide) (by omega) (by decide) (Nat.zero_le _) (Nat.zero_le _) rfl rfl rfl rfl rfl ?_
          rintro v cc ⟨rfl, rfl⟩
          refine ⟨_, rfl, rfl, ?_⟩
          show AW Z 0 0 67 [some (.ref 0), some (.int a1), some (.int a2), some (.int a3)] [.int q3] ([kR 0 v0] : List (List zE)).flatten
          obtain ⟨b4, hf⟩ := zneedP hf
          cases hf
          exact AW.iret hZ hE rfl rfl rfl (znarZ b4) (Nat.le_refl 0) (Nat.le_refl 0) rfl ⟨rfl, rfl⟩
        · rw [if_neg c2] at hf
          refine ⟨(by decide), ?_⟩
          refine ⟨fun c1 => ?_, fun c1 => ?_⟩
          · rw [if_neg c1] at hf
            cases hf
            exact AW.iret hZ hE rfl rfl rfl rfl (Nat.le_refl 0) (Nat.le_refl 0) rfl ⟨rfl, rfl⟩
          · rw [if_pos c1] at hf
            cases hf
            exact AW.iret hZ hE rfl rfl rfl rfl (Nat.le_refl 0) (Nat.le_refl 0) rfl ⟨rfl, rfl⟩
def f_R_does (N : Nat) (v0 : VR) (a1 : Int32) (a2 : Int32) (a3 : Int32) : Option ((Nat → Int32) × (Nat → Int32) × (Nat → Int32) × Int64) := (if (a1 = 0) then (if ((1534 + a2) < 0 ∨ 1656 ≤ Int32.toNatClampNeg (1534 + a2)) then none else (zlet ((upd (R_state v0) (Int32.toNatClampNeg (1534 + a2)) a3) : (Nat → Int32)) (fun z15 => (some ((R_facts v0), (R_pile v0), z15, (R_g v0)))))) else (if (a1 = 1) then ((f_R_draw N (R_g_s v0 (Int32.toInt64 a2)) (R_lotsMany v0)).bind (fun q11 => ((f_R_leaves N (R_g_s v0 q11.2) 1512 q11.1).bind (fun q12 => (some ((R_facts v0), (R_pile v0), q12, q11.2)))))) else (if (a1 = 2) then ((f_R_swaps N v0 1512 a2 a3).bind (fun q9 => (some ((R_facts v0), (R_pile v0), q9, (R_g v0))))) else (if (a1 = 3) then ((f_R_passes N v0 1512).bind (fun q7 => (some (q7.1, q7.2.1, q7.2.2, (R_g v0))))) else ((f_R_goesHome N v0 1512).bind (fun q5 => (some ((R_facts v0), (R_pile v0), q5.2, (R_g v0)))))))))
set_option maxRecDepth 20000 in
set_option maxHeartbeats 4000000 in
theorem c_R_does (N : Nat) (v0 : VR) (a1 : Int32) (a2 : Int32) (a3 : Int32) (R : (Nat → Int32) × (Nat → Int32) × (Nat → Int32) × Int64) (hf : f_R_does N v0 a1 a2 a3 = some R) : Ct zMX12_does 5 0 0 0 [.ref 0, .int a1, .int a2, .int a3] ([kR 0 v0] : List (List zE)).flatten (fun v cc => v = none ∧ cc = ([kR 0 (R_s_facts_pile_state_g v0 R.1 R.2.1 R.2.2.1 R.2.2.2)] : List (List zE)).flatten) := by
  refine Ct.of zMX12_does_ok (by decide) (Nat.le_of_ble_eq_true rfl) ?_
  intro Z hZ hR hN hE
  have hRm : zRoom Z 0 0 := zRoom0 Z
  unfold f_R_does at hf
  show AW Z 0 0 0 [some (.ref 0), some (.int a1), some (.int a2), some (.int a3)] [] ([kR 0 v0] : List (List zE)).flatten
  refine AW.run hZ hRm [15, 38, 58, 73, 83] 400 ?_
  show ((¬ (a1 = 0) → ((¬ (a1 = 1) → ((¬ (a1 = 2) → ((¬ (a1 = 3) → AW Z 0 0 83 [some (.ref 0), some (.int a1), some (.int a2), some (.int a3)] [.int 1512, .ref 0] ([kR 0 v0] : List (List zE)).flatten) ∧ ((a1 = 3) → AW Z 0 0 73 [some (.ref 0), some (.int a1), some (.int a2), some (.int a3)] [.int 1512, .ref 0] ([kR 0 v0] : List (List zE)).flatten))) ∧ ((a1 = 2) → AW Z 0 0 58 [some (.ref 0), some (.int a1), some (.int a2), some (.int a3)] [.int a3, .int a2, .int 1512, .ref 0] ([kR 0 v0] : List (List zE)).flatten))) ∧ ((a1 = 1) → AW Z 0 0 38 [some (.ref 0), some (.int a1), some (.int a2), some (.int a3)] [.int (R_lotsMany v0), .ref 0, .int 1512, .ref 0] ([kR 0 (R_g_s v0 (Int32.toInt64 a2))] : List (List zE)).flatten))) ∧ ((a1 = 0) → (¬ ((1534 + a2) < 0 ∨ 1656 ≤ Int32.toNatClampNeg (1534 + a2)) ∧ AW Z 0 0 15 [some (.ref 0), some (.int a1), some (.int a2), some (.int a3)] [] ([kR 0 (R_state_s v0 (upd (R_state v0) (Int32.toNatClampNeg (1534 + a2)) a3))] : List (List zE)).flatten)))
  refine ⟨fun c1 => ?_, fun c1 => ?_⟩
  · rw [if_neg c1] at hf
    refine ⟨fun c2 => ?_, fun c2 => ?_⟩
    · rw [if_neg c2] at hf
      refine ⟨fun c3 => ?_, fun c3 => ?_⟩
      · rw [if_neg c3] at hf
        refine ⟨fun c4 => ?_, fun c4 => ?_⟩
        · rw [if_neg c4] at hf
          obtain ⟨q5, h6, hf⟩ := zbind hf
          refine AW.callVc hZ hR hN (c_R_goesHome N v0 1512 q5 h6) zMX12_goesHome_ok rfl rfl zK_BorrowedLivesModel_405 zV_X12_goesHome rfl [25] [0] [0, 1, 2, 3, 4, 5, 6, 7, 8, 9, 10, 11, 12, 13, 14, 15, 16, 17, 18, 19, 20, 21, 22, 23, 24] rfl rfl rfl (by decide) (by decide) (by omega) (by decide) (Nat.zero_le _) (Nat.zero_le _) rfl rfl rfl rfl rfl ?_
          rintro v cc ⟨rfl, rfl⟩
          refine ⟨_, rfl, rfl, ?_⟩
          show AW Z 0 0 86 [some (.ref 0), some (.int a1), some (.int a2), some (.int a3)] [.int q5.1] ([kR 0 (R_state_s v0 q5.2)] : List (List zE)).flatten
          refine AW.run hZ hRm [87] 400 ?_
          show AW Z 0 0 87 [some (.ref 0), some (.int a1), some (.int a2), some (.int a3)] [] ([kR 0 (R_state_s v0 q5.2)] : List (List zE)).flatten
          cases hf
          exact AW.vret hZ hE rfl rfl rfl (Nat.le_refl 0) (Nat.le_refl 0) rfl ⟨rfl, rfl⟩
        · rw [if_pos c4] at hf
          obtain ⟨q7, h8, hf⟩ := zbind hf
          refine AW.callVc hZ hR hN (c_R_passes N v0 1512 q7 h8) zMX12_passes_ok rfl rfl zK_BorrowedLivesModel_402 zV_X12_passes rfl [25] [0] [0, 1, 2, 3, 4, 5, 6, 7, 8, 9, 10, 11, 12, 13, 14, 15, 16, 17, 18, 19, 20, 21, 22, 23, 24] rfl rfl rfl (by decide) (by decide) (by omega) (by decide) (Nat.zero_le _) (Nat.zero_le _) rfl rfl rfl rfl rfl ?_
          rintro v cc ⟨rfl, rfl⟩
          refine ⟨_, rfl, rfl, ?_⟩
          show AW Z 0 0 76 [some (.ref 0), some (.int a1), some (.int a2), some (.int a3)] [] ([kR 0 (R_s_facts_pile_state v0 q7.1 q7.2.1 q7.2.2)] : List (List zE)).flatten
          refine AW.run hZ hRm [87] 400 ?_
          show AW Z 0 0 87 [some (.ref 0), some (.int a1), some (.int a2), some (.int a3)] [] ([kR 0 (R_s_facts_pile_state v0 q7.1 q7.2.1 q7.2.2)] : List (List zE)).flatten
          cases hf
          exact AW.vret hZ hE rfl rfl rfl (Nat.le_refl 0) (Nat.le_refl 0) rfl ⟨rfl, rfl⟩
      · rw [if_pos c3] at hf
        obtain ⟨q9, h10, hf⟩ := zbind hf
        refine AW.callVc hZ hR hN (c_R_swaps N v0 1512 a2 a3 q9 h10) zMX12_swaps_ok rfl rfl zK_BorrowedLivesModel_396 zV_X12_swaps rfl [25] [0] [0, 1, 2, 3, 4, 5, 6, 7, 8, 9, 10, 11, 12, 13, 14, 15, 16, 17, 18, 19, 20, 21, 22, 23, 24] rfl rfl rfl (by decide) (by decide) (by omega) (by decide) (Nat.zero_le _) (Nat.zero_le _) rfl rfl rfl rfl rfl ?_
        rintro v cc ⟨rfl, rfl⟩
        refine ⟨_, rfl, rfl, ?_⟩
        show AW Z 0 0 61 [some (.ref 0), some (.int a1), some (.int a2), some (.int a3)] [] ([kR 0 (R_state_s v0 q9)] : List (List zE)).flatten
        refine AW.run hZ hRm [87] 400 ?_
        show AW Z 0 0 87 [some (.ref 0), some (.int a1), some (.int a2), some (.int a3)] [] ([kR 0 (R_state_s v0 q9)] : List (List zE)).flatten
        cases hf
        exact AW.vret hZ hE rfl rfl rfl (Nat.le_refl 0) (Nat.le_refl 0) rfl ⟨rfl, rfl⟩
    · rw [if_pos c2] at hf
      obtain ⟨q11, h14, hf⟩ := zbind hf
      refine AW.callVc hZ hR hN (c_R_draw N (R_g_s v0 (Int32.toInt64 a2)) (R_lotsMany v0) q11 h14) zMX12_draw_ok rfl rfl zK_BorrowedLivesModel_384 zV_X12_draw rfl [25] [0] [0, 1, 2, 3, 4, 5, 6, 7, 8, 9, 10, 11, 12, 13, 14, 15, 16, 17, 18, 19, 20, 21, 22, 23, 24] rfl rfl rfl (by decide) (by decide) (by omega) (by decide) (Nat.zero_le _) (Nat.zero_le _) rfl rfl rfl rfl rfl ?_
      rintro v cc ⟨rfl, rfl⟩
      refine ⟨_, rfl, rfl, ?_⟩
      show AW Z 0 0 41 [some (.ref 0), some (.int a1), some (.int a2), some (.int a3)] [.int q11.1, .int 1512, .ref 0] ([kR 0 (R_g_s v0 q11.2)] : List (List zE)).flatten
      obtain ⟨q12, h13, hf⟩ := zbind hf
      refine AW.callVc hZ hR hN (c_R_leaves N (R_g_s v0 q11.2) 1512 q11.1 q12 h13) zMX12_leaves_ok rfl rfl zK_BorrowedLivesModel_387 zV_X12_leaves rfl [25] [0] [0, 1, 2, 3, 4, 5, 6, 7, 8, 9, 10, 11, 12, 13, 14, 15, 16, 17, 18, 19, 20, 21, 22, 23, 24] rfl rfl rfl (by decide) (by decide) (by omega) (by decide) (Nat.zero_le _) (Nat.zero_le _) rfl rfl rfl rfl rfl ?_
      rintro v cc ⟨rfl, rfl⟩
      refine ⟨_, rfl, rfl, ?_⟩
      show AW Z 0 0 44 [some (.ref 0), some (.int a1), some (.int a2), some (.int a3)] [] ([kR 0 (R_s_state_g v0 q12 q11.2)] : List (List zE)).flatten
      refine AW.run hZ hRm [87] 400 ?_
      show AW Z 0 0 87 [some (.ref 0), some (.int a1), some (.int a2), some (.int a3)] [] ([kR 0 (R_s_state_g v0 q12 q11.2)] : List (List zE)).flatten
      cases hf
      exact AW.vret hZ hE rfl rfl rfl (Nat.le_refl 0) (Nat.le_refl 0) rfl ⟨rfl, rfl⟩
  · rw [if_pos c1] at hf
    obtain ⟨b16, hf⟩ := zneed hf
    refine ⟨b16, ?_⟩
    replace hf := zlet_gen hf
    generalize ((upd (R_state v0) (Int32.toNatClampNeg (1534 + a2)) a3) : (Nat → Int32)) = z15 at hf ⊢
    as_aux_lemma =>
      refine AW.run hZ hRm [87] 400 ?_
      show AW Z 0 0 87 [some (.ref 0), some (.int a1), some (.int a2), some (.int a3)] [] ([kR 0 (R_state_s v0 z15)] : List (List zE)).flatten
      cases hf
      exact AW.vret hZ hE rfl rfl rfl (Nat.le_refl 0) (Nat.le_refl 0) rfl ⟨rfl, rfl⟩
