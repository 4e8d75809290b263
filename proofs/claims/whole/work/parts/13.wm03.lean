def f_R_find_L4 (N : Nat) : Nat → VR → Int32 → Int32 → Int32 → Option (Int32)
  | 0, _, _, _, _ => none
  | fuel + 1, v0, y1, x2, x3 => (if (((if (y1 = 0) then (R_namesMany v0) else (R_readMany v0)) : Int32) ≤ x3) then (some x2) else (if (y1 = 0) then (if (x3 < 0 ∨ 6 ≤ Int32.toNatClampNeg x3) then none else (if ((R_at v0) < 0 ∨ 1002 ≤ Int32.toNatClampNeg (R_at v0)) then none else (zlet ((if ((lg_cmp ((R_names v0) (Int32.toNatClampNeg x3)) ((R_value v0) (Int32.toNatClampNeg (R_at v0)))) = 0) then x3 else x2) : Int32) (fun z7 => (f_R_find_L4 N fuel v0 y1 z7 (x3 + 1)))))) else (if (x3 < 0 ∨ 6 ≤ Int32.toNatClampNeg x3) then none else (if ((R_at v0) < 0 ∨ 1002 ≤ Int32.toNatClampNeg (R_at v0)) then none else (zlet ((if ((lg_cmp ((R_readNames v0) (Int32.toNatClampNeg x3)) ((R_value v0) (Int32.toNatClampNeg (R_at v0)))) = 0) then x3 else x2) : Int32) (fun z12 => (f_R_find_L4 N fuel v0 y1 z12 (x3 + 1))))))))
def f_R_find (N : Nat) (v0 : VR) (a1 : Int32) : Option (Int32) := ((f_R_find_L4 N N v0 a1 (-1) 0).bind (fun q15 => (some q15)))
set_option maxRecDepth 20000 in
set_option maxHeartbeats 4000000 in
theorem c_R_find_L4 {Z : zCtx} {D n0w nf mcw msw : Nat} (hZ : zOk Z zMX12_find) (hR : zCan Z D mcw msw) (hDd : 1 ≤ D) (hN : zNew Z n0w nf) (hRm : zRoom Z 0 0) (N : Nat) : ∀ (fuel : Nat) (v0 : VR) (y1 : Int32) (x2 : Int32) (x3 : Int32) (q : (Int32)), f_R_find_L4 N fuel v0 y1 x2 x3 = some q → (AW Z 0 0 67 [none, none, some (.int q), none] [] ([kR 0 v0] : List (List zE)).flatten) → AW Z 0 0 4 [some (.ref 0), some (.int y1), some (.int x2), some (.int x3)] [] ([kR 0 v0] : List (List zE)).flatten := by
  intro fuel
  induction fuel with
  | zero =>
    intro v0 y1 x2 x3 q hf hk0
    simp [f_R_find_L4] at hf
  | succ fuel ih =>
    intro v0 y1 x2 x3 q hf hk0
    rw [f_R_find_L4] at hf
    refine AW.run hZ hRm [6] 400 ?_
    show AW Z 0 0 6 [some (.ref 0), some (.int y1), some (.int x2), some (.int x3)] [.int y1, .int x3] ([kR 0 v0] : List (List zE)).flatten
    suffices H1 : AW Z 0 0 20 [some (.ref 0), some (.int y1), some (.int x2), some (.int x3)] [.int (if (y1 = 0) then (R_namesMany v0) else (R_readMany v0)), .int x3] ([kR 0 v0] : List (List zE)).flatten from by
      refine AW.run hZ hRm [20] 400 ?_
      show (((y1 = 0) → AW Z 0 0 20 [some (.ref 0), some (.int y1), some (.int x2), some (.int x3)] [.int (R_namesMany v0), .int x3] ([kR 0 v0] : List (List zE)).flatten) ∧ (¬ (y1 = 0) → AW Z 0 0 20 [some (.ref 0), some (.int y1), some (.int x2), some (.int x3)] [.int (R_readMany v0), .int x3] ([kR 0 v0] : List (List zE)).flatten))
      refine ⟨fun c2 => ?_, fun c2 => ?_⟩
      · simpa only [if_pos c2] using H1
      · simpa only [if_neg c2] using H1
    refine AW.run hZ hRm [52, 67] 400 ?_
    show (((((if (y1 = 0) then (R_namesMany v0) else (R_readMany v0)) : Int32) ≤ x3) → AW Z 0 0 67 [some (.ref 0), some (.int y1), some (.int x2), some (.int x3)] [] ([kR 0 v0] : List (List zE)).flatten) ∧ (¬ (((if (y1 = 0) then (R_namesMany v0) else (R_readMany v0)) : Int32) ≤ x3) → (((y1 = 0) → (¬ (x3 < 0 ∨ 6 ≤ Int32.toNatClampNeg x3) ∧ (¬ ((R_at v0) < 0 ∨ 1002 ≤ Int32.toNatClampNeg (R_at v0)) ∧ AW Z 0 0 52 [some (.ref 0), some (.int y1), some (.int x2), some (.int x3)] [.int (lg_cmp ((R_names v0) (Int32.toNatClampNeg x3)) ((R_value v0) (Int32.toNatClampNeg (R_at v0))))] ([kR 0 v0] : List (List zE)).flatten))) ∧ (¬ (y1 = 0) → (¬ (x3 < 0 ∨ 6 ≤ Int32.toNatClampNeg x3) ∧ (¬ ((R_at v0) < 0 ∨ 1002 ≤ Int32.toNatClampNeg (R_at v0)) ∧ AW Z 0 0 52 [some (.ref 0), some (.int y1), some (.int x2), some (.int x3)] [.int (lg_cmp ((R_readNames v0) (Int32.toNatClampNeg x3)) ((R_value v0) (Int32.toNatClampNeg (R_at v0))))] ([kR 0 v0] : List (List zE)).flatten))))))
    refine ⟨fun c3 => ?_, fun c3 => ?_⟩
    · rw [if_pos c3] at hf
      cases hf
      refine AW.forget [false, false, true, false] ?_
      show AW Z 0 0 67 [none, none, some (.int x2), none] [] ([kR 0 v0] : List (List zE)).flatten
      exact hk0
    · rw [if_neg c3] at hf
      refine ⟨fun c4 => ?_, fun c4 => ?_⟩
      · rw [if_pos c4] at hf
        obtain ⟨b9, hf⟩ := zneed hf
        refine ⟨b9, ?_⟩
        obtain ⟨b8, hf⟩ := zneed hf
        refine ⟨b8, ?_⟩
        suffices H5 : AW Z 0 0 60 [some (.ref 0), some (.int y1), none, some (.int x3)] [.int (if ((lg_cmp ((R_names v0) (Int32.toNatClampNeg x3)) ((R_value v0) (Int32.toNatClampNeg (R_at v0)))) = 0) then x3 else x2)] ([kR 0 v0] : List (List zE)).flatten from by
          refine AW.run hZ hRm [60] 400 ?_
          show ((¬ ((lg_cmp ((R_names v0) (Int32.toNatClampNeg x3)) ((R_value v0) (Int32.toNatClampNeg (R_at v0)))) = 0) → AW Z 0 0 60 [some (.ref 0), some (.int y1), some (.int x2), some (.int x3)] [.int x2] ([kR 0 v0] : List (List zE)).flatten) ∧ (((lg_cmp ((R_names v0) (Int32.toNatClampNeg x3)) ((R_value v0) (Int32.toNatClampNeg (R_at v0)))) = 0) → AW Z 0 0 60 [some (.ref 0), some (.int y1), some (.int x2), some (.int x3)] [.int x3] ([kR 0 v0] : List (List zE)).flatten))
          refine ⟨fun c6 => ?_, fun c6 => ?_⟩
          · refine AW.forget [true, true, false, true] ?_
            show AW Z 0 0 60 [some (.ref 0), some (.int y1), none, some (.int x3)] [.int x2] ([kR 0 v0] : List (List zE)).flatten
            simpa only [if_neg c6] using H5
          · refine AW.forget [true, true, false, true] ?_
            show AW Z 0 0 60 [some (.ref 0), some (.int y1), none, some (.int x3)] [.int x3] ([kR 0 v0] : List (List zE)).flatten
            simpa only [if_pos c6] using H5
        replace hf := zlet_gen hf
        generalize ((if ((lg_cmp ((R_names v0) (Int32.toNatClampNeg x3)) ((R_value v0) (Int32.toNatClampNeg (R_at v0)))) = 0) then x3 else x2) : Int32) = z7 at hf ⊢
        refine AW.run hZ hRm [4] 400 ?_
        show AW Z 0 0 4 [some (.ref 0), some (.int y1), some (.int z7), some (.int (x3 + 1))] [] ([kR 0 v0] : List (List zE)).flatten
        exact ih v0 y1 z7 (x3 + 1) q hf hk0
      · rw [if_neg c4] at hf
        obtain ⟨b14, hf⟩ := zneed hf
        refine ⟨b14, ?_⟩
        obtain ⟨b13, hf⟩ := zneed hf
        refine ⟨b13, ?_⟩
        suffices H10 : AW Z 0 0 60 [some (.ref 0), some (.int y1), none, some (.int x3)] [.int (if ((lg_cmp ((R_readNames v0) (Int32.toNatClampNeg x3)) ((R_value v0) (Int32.toNatClampNeg (R_at v0)))) = 0) then x3 else x2)] ([kR 0 v0] : List (List zE)).flatten from by
          refine AW.run hZ hRm [60] 400 ?_
          show ((¬ ((lg_cmp ((R_readNames v0) (Int32.toNatClampNeg x3)) ((R_value v0) (Int32.toNatClampNeg (R_at v0)))) = 0) → AW Z 0 0 60 [some (.ref 0), some (.int y1), some (.int x2), some (.int x3)] [.int x2] ([kR 0 v0] : List (List zE)).flatten) ∧ (((lg_cmp ((R_readNames v0) (Int32.toNatClampNeg x3)) ((R_value v0) (Int32.toNatClampNeg (R_at v0)))) = 0) → AW Z 0 0 60 [some (.ref 0), some (.int y1), some (.int x2), some (.int x3)] [.int x3] ([kR 0 v0] : List (List zE)).flatten))
          refine ⟨fun c11 => ?_, fun c11 => ?_⟩
          · refine AW.forget [true, true, false, true] ?_
            show AW Z 0 0 60 [some (.ref 0), some (.int y1), none, some (.int x3)] [.int x2] ([kR 0 v0] : List (List zE)).flatten
            simpa only [if_neg c11] using H10
          · refine AW.forget [true, true, false, true] ?_
            show AW Z 0 0 60 [some (.ref 0), some (.int y1), none, some (.int x3)] [.int x3] ([kR 0 v0] : List (List zE)).flatten
            simpa only [if_pos c11] using H10
        replace hf := zlet_gen hf
        generalize ((if ((lg_cmp ((R_readNames v0) (Int32.toNatClampNeg x3)) ((R_value v0) (Int32.toNatClampNeg (R_at v0)))) = 0) then x3 else x2) : Int32) = z12 at hf ⊢
        refine AW.run hZ hRm [4] 400 ?_
        show AW Z 0 0 4 [some (.ref 0), some (.int y1), some (.int z12), some (.int (x3 + 1))] [] ([kR 0 v0] : List (List zE)).flatten
        exact ih v0 y1 z12 (x3 + 1) q hf hk0
set_option maxRecDepth 20000 in
set_option maxHeartbeats 4000000 in
theorem c_R_find (N : Nat) (v0 : VR) (a1 : Int32) (R : Int32) (hf : f_R_find N v0 a1 = some R) : Ct zMX12_find 1 0 0 0 [.ref 0, .int a1] ([kR 0 v0] : List (List zE)).flatten (fun v cc => v = some (.int R) ∧ cc = ([kR 0 v0] : List (List zE)).flatten) := by
  refine Ct.of zMX12_find_ok (by decide) (Nat.le_of_ble_eq_true rfl) ?_
  intro Z hZ hR hN hE
  have hRm : zRoom Z 0 0 := zRoom0 Z
  unfold f_R_find at hf
  show AW Z 0 0 0 [some (.ref 0), some (.int a1), none, none] [] ([kR 0 v0] : List (List zE)).flatten
  refine AW.run hZ hRm [4] 400 ?_
  show AW Z 0 0 4 [some (.ref 0), some (.int a1), some (.int (-1)), some (.int 0)] [] ([kR 0 v0] : List (List zE)).flatten
  obtain ⟨q15, h16, hf⟩ := zbind hf
  refine c_R_find_L4 hZ hR (by omega) hN hRm N N v0 a1 (-1) 0 q15 h16 ?_
  show AW Z 0 0 67 [none, none, some (.int q15), none] [] ([kR 0 v0] : List (List zE)).flatten
  refine AW.run hZ hRm [68] 400 ?_
  show AW Z 0 0 68 [none, none, some (.int q15), none] [.int q15] ([kR 0 v0] : List (List zE)).flatten
  cases hf
  exact AW.iret hZ hE rfl rfl rfl rfl (Nat.le_refl 0) (Nat.le_refl 0) rfl ⟨rfl, rfl⟩
def f_R_toldHere (N : Nat) (v0 : VR) (a1 : Int32) : Option (Int32 × Int32) := (if ((R_fault v0) = 0) then ((f_R_isName N v0).bind (fun q17 => (if (q17 = 0) then ((f_R_wrong N v0 1).bind (fun q34 => (if (q34 ≤ 0) then ((f_R_find N (R_fault_s v0 q34) a1).bind (fun q36 => (if (q34 = 0) then (if (0 ≤ q36) then (if (q34 ≤ 0) then (some (q36, q34)) else (some (0, q34))) else ((f_R_wrong N (R_fault_s v0 q34) 2).bind (fun q41 => (if (q41 ≤ 0) then (some (q36, q41)) else (some (0, q41)))))) else (if (q34 ≤ 0) then (some (q36, q34)) else (some (0, q34)))))) else (if (q34 = 0) then ((f_R_wrong N (R_fault_s v0 q34) 2).bind (fun q47 => (if (q47 ≤ 0) then (some ((-1), q47)) else (some (0, q47))))) else (if (q34 ≤ 0) then (some ((-1), q34)) else (some (0, q34))))))) else (if ((R_fault v0) ≤ 0) then ((f_R_find N v0 a1).bind (fun q20 => (if ((R_fault v0) = 0) then (if (0 ≤ q20) then (if ((R_fault v0) ≤ 0) then (some (q20, (R_fault v0))) else (some (0, (R_fault v0)))) else ((f_R_wrong N v0 2).bind (fun q25 => (if (q25 ≤ 0) then (some (q20, q25)) else (some (0, q25)))))) else (if ((R_fault v0) ≤ 0) then (some (q20, (R_fault v0))) else (some (0, (R_fault v0))))))) else (if ((R_fault v0) = 0) then ((f_R_wrong N v0 2).bind (fun q31 => (if (q31 ≤ 0) then (some ((-1), q31)) else (some (0, q31))))) else (if ((R_fault v0) ≤ 0) then (some ((-1), (R_fault v0))) else (some (0, (R_fault v0))))))))) else (if ((R_fault v0) ≤ 0) then ((f_R_find N v0 a1).bind (fun q3 => (if ((R_fault v0) = 0) then (if (0 ≤ q3) then (if ((R_fault v0) ≤ 0) then (some (q3, (R_fault v0))) else (some (0, (R_fault v0)))) else ((f_R_wrong N v0 2).bind (fun q8 => (if (q8 ≤ 0) then (some (q3, q8)) else (some (0, q8)))))) else (if ((R_fault v0) ≤ 0) then (some (q3, (R_fault v0))) else (some (0, (R_fault v0))))))) else (if ((R_fault v0) = 0) then ((f_R_wrong N v0 2).bind (fun q14 => (if (q14 ≤ 0) then (some ((-1), q14)) else (some (0, q14))))) else (if ((R_fault v0) ≤ 0) then (some ((-1), (R_fault v0))) else (some (0, (R_fault v0)))))))
set_option maxRecDepth 20000 in
set_option maxHeartbeats 4000000 in
theorem c_R_toldHere (N : Nat) (v0 : VR) (a1 : Int32) (R : Int32 × Int32) (hf : f_R_toldHere N v0 a1 = some R) : Ct zMX12_toldHere 4 0 0 0 [.ref 0, .int a1] ([kR 0 v0] : List (List zE)).flatten (fun v cc => v = some (.int R.1) ∧ cc = ([kR 0 (R_fault_s v0 R.2)] : List (List zE)).flatten) := by
  refine Ct.of zMX12_toldHere_ok (by decide) (Nat.le_of_ble_eq_true rfl) ?_
  intro Z hZ hR hN hE
  have hRm : zRoom Z 0 0 := zRoom0 Z
  unfold f_R_toldHere at hf
  show AW Z 0 0 0 [some (.ref 0), some (.int a1), none] [] ([kR 0 v0] : List (List zE)).flatten
  refine AW.run hZ hRm [8, 32, 49, 64] 400 ?_
  show ((¬ ((R_fault v0) = 0) → ((((R_fault v0) ≤ 0) → AW Z 0 0 32 [some (.ref 0), some (.int a1), none] [.int a1, .ref 0] ([kR 0 v0] : List (List zE)).flatten) ∧ (¬ ((R_fault v0) ≤ 0) → ((¬ ((R_fault v0) = 0) → ((((R_fault v0) ≤ 0) → AW Z 0 0 64 [some (.ref 0), some (.int a1), some (.int (-1))] [.int (-1)] ([kR 0 v0] : List (List zE)).flatten) ∧ (¬ ((R_fault v0) ≤ 0) → AW Z 0 0 64 [some (.ref 0), some (.int a1), some (.int (-1))] [.int 0] ([kR 0 v0] : List (List zE)).flatten))) ∧ (((R_fault v0) = 0) → ((((0 : Int32) ≤ (-1)) → ((((R_fault v0) ≤ 0) → AW Z 0 0 64 [some (.ref 0), some (.int a1), some (.int (-1))] [.int (-1)] ([kR 0 v0] : List (List zE)).flatten) ∧ (¬ ((R_fault v0) ≤ 0) → AW Z 0 0 64 [some (.ref 0), some (.int a1), some (.int (-1))] [.int 0] ([kR 0 v0] : List (List zE)).flatten))) ∧ (¬ ((0 : Int32) ≤ (-1)) → AW Z 0 0 49 [some (.ref 0), some (.int a1), some (.int (-1))] [.int 2, .ref 0] ([kR 0 v0] : List (List zE)).flatten))))))) ∧ (((R_fault v0) = 0) → AW Z 0 0 8 [some (.ref 0), some (.int a1), none] [.ref 0] ([kR 0 v0] : List (List zE)).flatten))
  refine ⟨fun c1 => ?_, fun c1 => ?_⟩
  · rw [if_neg c1] at hf
    refine ⟨fun c2 => ?_, fun c2 => ?_⟩
    · rw [if_pos c2] at hf
      obtain ⟨q3, h11, hf⟩ := zbind hf
      refine AW.callVc hZ hR hN (c_R_find N v0 a1 q3 h11) zMX12_find_ok rfl rfl zK_BorrowedLivesModel_217 zV_X12_find rfl [25] [0] [0, 1, 2, 3, 4, 5, 6, 7, 8, 9, 10, 11, 12, 13, 14, 15, 16, 17, 18, 19, 20, 21, 22, 23, 24] rfl rfl rfl (by decide) (by decide) (by omega) (by decide) (Nat.zero_le _) (Nat.zero_le _) rfl rfl rfl rfl rfl ?_
      rintro v cc ⟨rfl, rfl⟩
      refine ⟨_, rfl, rfl, ?_⟩
      show AW Z 0 0 35 [some (.ref 0), some (.int a1), none] [.int q3] ([kR 0 v0] : List (List zE)).flatten
      refine AW.run hZ hRm [49, 64] 400 ?_
      show ((¬ ((R_fault v0) = 0) → ((((R_fault v0) ≤ 0) → AW Z 0 0 64 [some (.ref 0), some (.int a1), some (.int q3)] [.int q3] ([kR 0 v0] : List (List zE)).flatten) ∧ (¬ ((R_fault v0) ≤ 0) → AW Z 0 0 64 [some (.ref 0), some (.int a1), some (.int q3)] [.int 0] ([kR 0 v0] : List (List zE)).flatten))) ∧ (((R_fault v0) = 0) → (((0 ≤ q3) → ((((R_fault v0) ≤ 0) → AW Z 0 0 64 [some (.ref 0), some (.int a1), some (.int q3)] [.int q3] ([kR 0 v0] : List (List zE)).flatten) ∧ (¬ ((R_fault v0) ≤ 0) → AW Z 0 0 64 [some (.ref 0), some (.int a1), some (.int q3)] [.int 0] ([kR 0 v0] : List (List zE)).flatten))) ∧ (¬ (0 ≤ q3) → AW Z 0 0 49 [some (.ref 0), some (.int a1), some (.int q3)] [.int 2, .ref 0] ([kR 0 v0] : List (List zE)).flatten))))
      refine ⟨fun c4 => ?_, fun c4 => ?_⟩
      · rw [if_neg c4] at hf
        refine ⟨fun c5 => ?_, fun c5 => ?_⟩
        · rw [if_pos c5] at hf
          cases hf
          exact AW.iret hZ hE rfl rfl rfl rfl (Nat.le_refl 0) (Nat.le_refl 0) rfl ⟨rfl, rfl⟩
        · rw [if_neg c5] at hf
          cases hf
          exact AW.iret hZ hE rfl rfl rfl rfl (Nat.le_refl 0) (Nat.le_refl 0) rfl ⟨rfl, rfl⟩
      · rw [if_pos c4] at hf
        refine ⟨fun c6 => ?_, fun c6 => ?_⟩
        · rw [if_pos c6] at hf
          refine ⟨fun c7 => ?_, fun c7 => ?_⟩
          · rw [if_pos c7] at hf
            cases hf
            exact AW.iret hZ hE rfl rfl rfl rfl (Nat.le_refl 0) (Nat.le_refl 0) rfl ⟨rfl, rfl⟩
          · rw [if_neg c7] at hf
            cases hf
            exact AW.iret hZ hE rfl rfl rfl rfl (Nat.le_refl 0) (Nat.le_refl 0) rfl ⟨rfl, rfl⟩
        · rw [if_neg c6] at hf
          obtain ⟨q8, h10, hf⟩ := zbind hf
          refine AW.callVc hZ hR hN (c_R_wrong N v0 2 q8 h10) zMX12_wrong_ok rfl rfl zK_BorrowedLivesModel_188 zV_X12_wrong rfl [25] [0] [0, 1, 2, 3, 4, 5, 6, 7, 8, 9, 10, 11, 12, 13, 14, 15, 16, 17, 18, 19, 20, 21, 22, 23, 24] rfl rfl rfl (by decide) (by decide) (by omega) (by decide) (Nat.zero_le _) (Nat.zero_le _) rfl rfl rfl rfl rfl ?_
          rintro v cc ⟨rfl, rfl⟩
          refine ⟨_, rfl, rfl, ?_⟩
          show AW Z 0 0 52 [some (.ref 0), some (.int a1), some (.int q3)] [] ([kR 0 (R_fault_s v0 q8)] : List (List zE)).flatten
          refine AW.run hZ hRm [64] 400 ?_
          show (((q8 ≤ 0) → AW Z 0 0 64 [some (.ref 0), some (.int a1), some (.int q3)] [.int q3] ([kR 0 (R_fault_s v0 q8)] : List (List zE)).flatten) ∧ (¬ (q8 ≤ 0) → AW Z 0 0 64 [some (.ref 0), some (.int a1), some (.int q3)] [.int 0] ([kR 0 (R_fault_s v0 q8)] : List (List zE)).flatten))
          refine ⟨fun c9 => ?_, fun c9 => ?_⟩
          · rw [if_pos c9] at hf
            cases hf
            exact AW.iret hZ hE rfl rfl rfl rfl (Nat.le_refl 0) (Nat.le_refl 0) rfl ⟨rfl, rfl⟩
          · rw [if_neg c9] at hf
            cases hf
            exact AW.iret hZ hE rfl rfl rfl rfl (Nat.le_refl 0) (Nat.le_refl 0) rfl ⟨rfl, rfl⟩
    · rw [if_neg c2] at hf
      refine ⟨fun c12 => ?_, fun c12 => ?_⟩
      · rw [if_neg c12] at hf
        refine ⟨fun c13 => ?_, fun c13 => ?_⟩
        · rw [if_pos c13] at hf
          cases hf
          exact AW.iret hZ hE rfl rfl rfl rfl (Nat.le_refl 0) (Nat.le_refl 0) rfl ⟨rfl, rfl⟩
        · rw [if_neg c13] at hf
          cases hf
          exact AW.iret hZ hE rfl rfl rfl rfl (Nat.le_refl 0) (Nat.le_refl 0) rfl ⟨rfl, rfl⟩
      · rw [if_pos c12] at hf
        refine ⟨fun h => absurd h (by decide), fun _ => ?_⟩
        obtain ⟨q14, h16, hf⟩ := zbind hf
        refine AW.callVc hZ hR hN (c_R_wrong N v0 2 q14 h16) zMX12_wrong_ok rfl rfl zK_BorrowedLivesModel_188 zV_X12_wrong rfl [25] [0] [0, 1, 2, 3, 4, 5, 6, 7, 8, 9, 10, 11, 12, 13, 14, 15, 16, 17, 18, 19, 20, 21, 22, 23, 24] rfl rfl rfl (by decide) (by decide) (by omega) (by decide) (Nat.zero_le _) (Nat.zero_le _) rfl rfl rfl rfl rfl ?_
        rintro v cc ⟨rfl, rfl⟩
        refine ⟨_, rfl, rfl, ?_⟩
        show AW Z 0 0 52 [some (.ref 0), some (.int a1), some (.int (-1))] [] ([kR 0 (R_fault_s v0 q14)] : List (List zE)).flatten
        refine AW.run hZ hRm [64] 400 ?_
        show (((q14 ≤ 0) → AW Z 0 0 64 [some (.ref 0), some (.int a1), some (.int (-1))] [.int (-1)] ([kR 0 (R_fault_s v0 q14)] : List (List zE)).flatten) ∧ (¬ (q14 ≤ 0) → AW Z 0 0 64 [some (.ref 0), some (.int a1), some (.int (-1))] [.int 0] ([kR 0 (R_fault_s v0 q14)] : List (List zE)).flatten))
        refine ⟨fun c15 => ?_, fun c15 => ?_⟩
        · rw [if_pos c15] at hf
          cases hf
          exact AW.iret hZ hE rfl rfl rfl rfl (Nat.le_refl 0) (Nat.le_refl 0) rfl ⟨rfl, rfl⟩
        · rw [if_neg c15] at hf
          cases hf
          exact AW.iret hZ hE rfl rfl rfl rfl (Nat.le_refl 0) (Nat.le_refl 0) rfl ⟨rfl, rfl⟩
  · rw [if_pos c1] at hf
    obtain ⟨q17, h51, hf⟩ := zbind hf
    refine AW.callVc hZ hR hN (c_R_isName N v0 q17 h51) zMX12_isName_ok rfl rfl zK_BorrowedLivesModel_213 zV_X12_isName rfl [25] [0] [0, 1, 2, 3, 4, 5, 6, 7, 8, 9, 10, 11, 12, 13, 14, 15, 16, 17, 18, 19, 20, 21, 22, 23, 24] rfl rfl rfl (by decide) (by decide) (by omega) (by decide) (Nat.zero_le _) (Nat.zero_le _) rfl rfl rfl rfl rfl ?_
    rintro v cc ⟨rfl, rfl⟩
    refine ⟨_, rfl, rfl, ?_⟩
    show AW Z 0 0 11 [some (.ref 0), some (.int a1), none] [.int q17] ([kR 0 v0] : List (List zE)).flatten
    refine AW.run hZ hRm [16, 32, 49, 64] 400 ?_
    show ((¬ (q17 = 0) → ((((R_fault v0) ≤ 0) → AW Z 0 0 32 [some (.ref 0), some (.int a1), none] [.int a1, .ref 0] ([kR 0 v0] : List (List zE)).flatten) ∧ (¬ ((R_fault v0) ≤ 0) → ((¬ ((R_fault v0) = 0) → ((((R_fault v0) ≤ 0) → AW Z 0 0 64 [some (.ref 0), some (.int a1), some (.int (-1))] [.int (-1)] ([kR 0 v0] : List (List zE)).flatten) ∧ (¬ ((R_fault v0) ≤ 0) → AW Z 0 0 64 [some (.ref 0), some (.int a1), some (.int (-1))] [.int 0] ([kR 0 v0] : List (List zE)).flatten))) ∧ (((R_fault v0) = 0) → ((((0 : Int32) ≤ (-1)) → ((((R_fault v0) ≤ 0) → AW Z 0 0 64 [some (.ref 0), some (.int a1), some (.int (-1))] [.int (-1)] ([kR 0 v0] : List (List zE)).flatten) ∧ (¬ ((R_fault v0) ≤ 0) → AW Z 0 0 64 [some (.ref 0), some (.int a1), some (.int (-1))] [.int 0] ([kR 0 v0] : List (List zE)).flatten))) ∧ (¬ ((0 : Int32) ≤ (-1)) → AW Z 0 0 49 [some (.ref 0), some (.int a1), some (.int (-1))] [.int 2, .ref 0] ([kR 0 v0] : List (List zE)).flatten))))))) ∧ ((q17 = 0) → AW Z 0 0 16 [some (.ref 0), some (.int a1), none] [.int 1, .ref 0] ([kR 0 v0] : List (List zE)).flatten))
    refine ⟨fun c18 => ?_, fun c18 => ?_⟩
    · rw [if_neg c18] at hf
      refine ⟨fun c19 => ?_, fun c19 => ?_⟩
      · rw [if_pos c19] at hf
        obtain ⟨q20, h28, hf⟩ := zbind hf
        refine AW.callVc hZ hR hN (c_R_find N v0 a1 q20 h28) zMX12_find_ok rfl rfl zK_BorrowedLivesModel_217 zV_X12_find rfl [25] [0] [0, 1, 2, 3, 4, 5, 6, 7, 8, 9, 10, 11, 12, 13, 14, 15, 16, 17, 18, 19, 20, 21, 22, 23, 24] rfl rfl rfl (by decide) (by decide) (by omega) (by decide) (Nat.zero_le _) (Nat.zero_le _) rfl rfl rfl rfl rfl ?_
        rintro v cc ⟨rfl, rfl⟩
        refine ⟨_, rfl, rfl, ?_⟩
        show AW Z 0 0 35 [some (.ref 0), some (.int a1), none] [.int q20] ([kR 0 v0] : List (List zE)).flatten
        refine AW.run hZ hRm [49, 64] 400 ?_
        show ((¬ ((R_fault v0) = 0) → ((((R_fault v0) ≤ 0) → AW Z 0 0 64 [some (.ref 0), some (.int a1), some (.int q20)] [.int q20] ([kR 0 v0] : List (List zE)).flatten) ∧ (¬ ((R_fault v0) ≤ 0) → AW Z 0 0 64 [some (.ref 0), some (.int a1), some (.int q20)] [.int 0] ([kR 0 v0] : List (List zE)).flatten))) ∧ (((R_fault v0) = 0) → (((0 ≤ q20) → ((((R_fault v0) ≤ 0) → AW Z 0 0 64 [some (.ref 0), some (.int a1), some (.int q20)] [.int q20] ([kR 0 v0] : List (List zE)).flatten) ∧ (¬ ((R_fault v0) ≤ 0) → AW Z 0 0 64 [some (.ref 0), some (.int a1), some (.int q20)] [.int 0] ([kR 0 v0] : List (List zE)).flatten))) ∧ (¬ (0 ≤ q20) → AW Z 0 0 49 [some (.ref 0), some (.int a1), some (.int q20)] [.int 2, .ref 0] ([kR 0 v0] : List (List zE)).flatten))))
        refine ⟨fun c21 => ?_, fun c21 => ?_⟩
        · rw [if_neg c21] at hf
          refine ⟨fun c22 => ?_, fun c22 => ?_⟩
          · rw [if_pos c22] at hf
            cases hf
            exact AW.iret hZ hE rfl rfl rfl rfl (Nat.le_refl 0) (Nat.le_refl 0) rfl ⟨rfl, rfl⟩
          · rw [if_neg c22] at hf
            cases hf
            exact AW.iret hZ hE rfl rfl rfl rfl (Nat.le_refl 0) (Nat.le_refl 0) rfl ⟨rfl, rfl⟩
        · rw [if_pos c21] at hf
          refine ⟨fun c23 => ?_, fun c23 => ?_⟩
          · rw [if_pos c23] at hf
            refine ⟨fun c24 => ?_, fun c24 => ?_⟩
            · rw [if_pos c24] at hf
              cases hf
              exact AW.iret hZ hE rfl rfl rfl rfl (Nat.le_refl 0) (Nat.le_refl 0) rfl ⟨rfl, rfl⟩
            · rw [if_neg c24] at hf
              cases hf
              exact AW.iret hZ hE rfl rfl rfl rfl (Nat.le_refl 0) (Nat.le_refl 0) rfl ⟨rfl, rfl⟩
          · rw [if_neg c23] at hf
            obtain ⟨q25, h27, hf⟩ := zbind hf
            refine AW.callVc hZ hR hN (c_R_wrong N v0 2 q25 h27) zMX12_wrong_ok rfl rfl zK_BorrowedLivesModel_188 zV_X12_wrong rfl [25] [0] [0, 1, 2, 3, 4, 5, 6, 7, 8, 9, 10, 11, 12, 13, 14, 15, 16, 17, 18, 19, 20, 21, 22, 23, 24] rfl rfl rfl (by decide) (by decide) (by omega) (by decide) (Nat.zero_le _) (Nat.zero_le _) rfl rfl rfl rfl rfl ?_
            rintro v cc ⟨rfl, rfl⟩
            refine ⟨_, rfl, rfl, ?_⟩
            show AW Z 0 0 52 [some (.ref 0), some (.int a1), some (.int q20)] [] ([kR 0 (R_fault_s v0 q25)] : List (List zE)).flatten
            refine AW.run hZ hRm [64] 400 ?_
            show (((q25 ≤ 0) → AW Z 0 0 64 [some (.ref 0), some (.int a1), some (.int q20)] [.int q20] ([kR 0 (R_fault_s v0 q25)] : List (List zE)).flatten) ∧ (¬ (q25 ≤ 0) → AW Z 0 0 64 [some (.ref 0), some (.int a1), some (.int q20)] [.int 0] ([kR 0 (R_fault_s v0 q25)] : List (List zE)).flatten))
            refine ⟨fun c26 => ?_, fun c26 => ?_⟩
            · rw [if_pos c26] at hf
              cases hf
              exact AW.iret hZ hE rfl rfl rfl rfl (Nat.le_refl 0) (Nat.le_refl 0) rfl ⟨rfl, rfl⟩
            · rw [if_neg c26] at hf
              cases hf
              exact AW.iret hZ hE rfl rfl rfl rfl (Nat.le_refl 0) (Nat.le_refl 0) rfl ⟨rfl, rfl⟩
      · rw [if_neg c19] at hf
        refine ⟨fun c29 => ?_, fun c29 => ?_⟩
        · rw [if_neg c29] at hf
          refine ⟨fun c30 => ?_, fun c30 => ?_⟩
          · rw [if_pos c30] at hf
            cases hf
            exact AW.iret hZ hE rfl rfl rfl rfl (Nat.le_refl 0) (Nat.le_refl 0) rfl ⟨rfl, rfl⟩
          · rw [if_neg c30] at hf
            cases hf
            exact AW.iret hZ hE rfl rfl rfl rfl (Nat.le_refl 0) (Nat.le_refl 0) rfl ⟨rfl, rfl⟩
        · rw [if_pos c29] at hf
          refine ⟨fun h => absurd h (by decide), fun _ => ?_⟩
          obtain ⟨q31, h33, hf⟩ := zbind hf
          refine AW.callVc hZ hR hN (c_R_wrong N v0 2 q31 h33) zMX12_wrong_ok rfl rfl zK_BorrowedLivesModel_188 zV_X12_wrong rfl [25] [0] [0, 1, 2, 3, 4, 5, 6, 7, 8, 9, 10, 11, 12, 13, 14, 15, 16, 17, 18, 19, 20, 21, 22, 23, 24] rfl rfl rfl (by decide) (by decide) (by omega) (by decide) (Nat.zero_le _) (Nat.zero_le _) rfl rfl rfl rfl rfl ?_
          rintro v cc ⟨rfl, rfl⟩
          refine ⟨_, rfl, rfl, ?_⟩
          show AW Z 0 0 52 [some (.ref 0), some (.int a1), some (.int (-1))] [] ([kR 0 (R_fault_s v0 q31)] : List (List zE)).flatten
          refine AW.run hZ hRm [64] 400 ?_
          show (((q31 ≤ 0) → AW Z 0 0 64 [some (.ref 0), some (.int a1), some (.int (-1))] [.int (-1)] ([kR 0 (R_fault_s v0 q31)] : List (List zE)).flatten) ∧ (¬ (q31 ≤ 0) → AW Z 0 0 64 [some (.ref 0), some (.int a1), some (.int (-1))] [.int 0] ([kR 0 (R_fault_s v0 q31)] : List (List zE)).flatten))
          refine ⟨fun c32 => ?_, fun c32 => ?_⟩
          · rw [if_pos c32] at hf
            cases hf
            exact AW.iret hZ hE rfl rfl rfl rfl (Nat.le_refl 0) (Nat.le_refl 0) rfl ⟨rfl, rfl⟩
          · rw [if_neg c32] at hf
            cases hf
            exact AW.iret hZ hE rfl rfl rfl rfl (Nat.le_refl 0) (Nat.le_refl 0) rfl ⟨rfl, rfl⟩
    · rw [if_pos c18] at hf
      obtain ⟨q34, h50, hf⟩ := zbind hf
      refine AW.callVc hZ hR hN (c_R_wrong N v0 1 q34 h50) zMX12_wrong_ok rfl rfl zK_BorrowedLivesModel_188 zV_X12_wrong rfl [25] [0] [0, 1, 2, 3, 4, 5, 6, 7, 8, 9, 10, 11, 12, 13, 14, 15, 16, 17, 18, 19, 20, 21, 22, 23, 24] rfl rfl rfl (by decide) (by decide) (by omega) (by decide) (Nat.zero_le _) (Nat.zero_le _) rfl rfl rfl rfl rfl ?_
      rintro v cc ⟨rfl, rfl⟩
      refine ⟨_, rfl, rfl, ?_⟩
      show AW Z 0 0 19 [some (.ref 0), some (.int a1), none] [] ([kR 0 (R_fault_s v0 q34)] : List (List zE)).flatten
      refine AW.run hZ hRm [32, 49, 64] 400 ?_
      show (((q34 ≤ 0) → AW Z 0 0 32 [some (.ref 0), some (.int a1), none] [.int a1, .ref 0] ([kR 0 (R_fault_s v0 q34)] : List (List zE)).flatten) ∧ (¬ (q34 ≤ 0) → ((¬ (q34 = 0) → (((q34 ≤ 0) → AW Z 0 0 64 [some (.ref 0), some (.int a1), some (.int (-1))] [.int (-1)] ([kR 0 (R_fault_s v0 q34)] : List (List zE)).flatten) ∧ (¬ (q34 ≤ 0) → AW Z 0 0 64 [some (.ref 0), some (.int a1), some (.int (-1))] [.int 0] ([kR 0 (R_fault_s v0 q34)] : List (List zE)).flatten))) ∧ ((q34 = 0) → ((((0 : Int32) ≤ (-1)) → (((q34 ≤ 0) → AW Z 0 0 64 [some (.ref 0), some (.int a1), some (.int (-1))] [.int (-1)] ([kR 0 (R_fault_s v0 q34)] : List (List zE)).flatten) ∧ (¬ (q34 ≤ 0) → AW Z 0 0 64 [some (.ref 0), some (.int a1), some (.int (-1))] [.int 0] ([kR 0 (R_fault_s v0 q34)] : List (List zE)).flatten))) ∧ (¬ ((0 : Int32) ≤ (-1)) → AW Z 0 0 49 [some (.ref 0), some (.int a1), some (.int (-1))] [.int 2, .ref 0] ([kR 0 (R_fault_s v0 q34)] : List (List zE)).flatten))))))
      refine ⟨fun c35 => ?_, fun c35 => ?_⟩
      · rw [if_pos c35] at hf
        obtain ⟨q36, h44, hf⟩ := zbind hf
        refine AW.callVc hZ hR hN (c_R_find N (R_fault_s v0 q34) a1 q36 h44) zMX12_find_ok rfl rfl zK_BorrowedLivesModel_217 zV_X12_find rfl [25] [0] [0, 1, 2, 3, 4, 5, 6, 7, 8, 9, 10, 11, 12, 13, 14, 15, 16, 17, 18, 19, 20, 21, 22, 23, 24] rfl rfl rfl (by decide) (by decide) (by omega) (by decide) (Nat.zero_le _) (Nat.zero_le _) rfl rfl rfl rfl rfl ?_
        rintro v cc ⟨rfl, rfl⟩
        refine ⟨_, rfl, rfl, ?_⟩
        show AW Z 0 0 35 [some (.ref 0), some (.int a1), none] [.int q36] ([kR 0 (R_fault_s v0 q34)] : List (List zE)).flatten
        refine AW.run hZ hRm [49, 64] 400 ?_
        show ((¬ (q34 = 0) → (((q34 ≤ 0) → AW Z 0 0 64 [some (.ref 0), some (.int a1), some (.int q36)] [.int q36] ([kR 0 (R_fault_s v0 q34)] : List (List zE)).flatten) ∧ (¬ (q34 ≤ 0) → AW Z 0 0 64 [some (.ref 0), some (.int a1), some (.int q36)] [.int 0] ([kR 0 (R_fault_s v0 q34)] : List (List zE)).flatten))) ∧ ((q34 = 0) → (((0 ≤ q36) → (((q34 ≤ 0) → AW Z 0 0 64 [some (.ref 0), some (.int a1), some (.int q36)] [.int q36] ([kR 0 (R_fault_s v0 q34)] : List (List zE)).flatten) ∧ (¬ (q34 ≤ 0) → AW Z 0 0 64 [some (.ref 0), some (.int a1), some (.int q36)] [.int 0] ([kR 0 (R_fault_s v0 q34)] : List (List zE)).flatten))) ∧ (¬ (0 ≤ q36) → AW Z 0 0 49 [some (.ref 0), some (.int a1), some (.int q36)] [.int 2, .ref 0] ([kR 0 (R_fault_s v0 q34)] : List (List zE)).flatten))))
        refine ⟨fun c37 => ?_, fun c37 => ?_⟩
        · rw [if_neg c37] at hf
          refine ⟨fun c38 => ?_, fun c38 => ?_⟩
          · rw [if_pos c38] at hf
            cases hf
            exact AW.iret hZ hE rfl rfl rfl rfl (Nat.le_refl 0) (Nat.le_refl 0) rfl ⟨rfl, rfl⟩
          · rw [if_neg c38] at hf
            cases hf
            exact AW.iret hZ hE rfl rfl rfl rfl (Nat.le_refl 0) (Nat.le_refl 0) rfl ⟨rfl, rfl⟩
        · rw [if_pos c37] at hf
          refine ⟨fun c39 => ?_, fun c39 => ?_⟩
          · rw [if_pos c39] at hf
            refine ⟨fun c40 => ?_, fun c40 => ?_⟩
            · rw [if_pos c40] at hf
              cases hf
              exact AW.iret hZ hE rfl rfl rfl rfl (Nat.le_refl 0) (Nat.le_refl 0) rfl ⟨rfl, rfl⟩
            · rw [if_neg c40] at hf
              cases hf
              exact AW.iret hZ hE rfl rfl rfl rfl (Nat.le_refl 0) (Nat.le_refl 0) rfl ⟨rfl, rfl⟩
          · rw [if_neg c39] at hf
            obtain ⟨q41, h43, hf⟩ := zbind hf
            refine AW.callVc hZ hR hN (c_R_wrong N (R_fault_s v0 q34) 2 q41 h43) zMX12_wrong_ok rfl rfl zK_BorrowedLivesModel_188 zV_X12_wrong rfl [25] [0] [0, 1, 2, 3, 4, 5, 6, 7, 8, 9, 10, 11, 12, 13, 14, 15, 16, 17, 18, 19, 20, 21, 22, 23, 24] rfl rfl rfl (by decide) (by decide) (by omega) (by decide) (Nat.zero_le _) (Nat.zero_le _) rfl rfl rfl rfl rfl ?_
            rintro v cc ⟨rfl, rfl⟩
            refine ⟨_, rfl, rfl, ?_⟩
            show AW Z 0 0 52 [some (.ref 0), some (.int a1), some (.int q36)] [] ([kR 0 (R_fault_s v0 q41)] : List (List zE)).flatten
            refine AW.run hZ hRm [64] 400 ?_
            show (((q41 ≤ 0) → AW Z 0 0 64 [some (.ref 0), some (.int a1), some (.int q36)] [.int q36] ([kR 0 (R_fault_s v0 q41)] : List (List zE)).flatten) ∧ (¬ (q41 ≤ 0) → AW Z 0 0 64 [some (.ref 0), some (.int a1), some (.int q36)] [.int 0] ([kR 0 (R_fault_s v0 q41)] : List (List zE)).flatten))
            refine ⟨fun c42 => ?_, fun c42 => ?_⟩
            · rw [if_pos c42] at hf
              cases hf
              exact AW.iret hZ hE rfl rfl rfl rfl (Nat.le_refl 0) (Nat.le_refl 0) rfl ⟨rfl, rfl⟩
            · rw [if_neg c42] at hf
              cases hf
              exact AW.iret hZ hE rfl rfl rfl rfl (Nat.le_refl 0) (Nat.le_refl 0) rfl ⟨rfl, rfl⟩
      · rw [if_neg c35] at hf
        refine ⟨fun c45 => ?_, fun c45 => ?_⟩
        · rw [if_neg c45] at hf
          refine ⟨fun c46 => ?_, fun c46 => ?_⟩
          · rw [if_pos c46] at hf
            cases hf
            exact AW.iret hZ hE rfl rfl rfl rfl (Nat.le_refl 0) (Nat.le_refl 0) rfl ⟨rfl, rfl⟩
          · rw [if_neg c46] at hf
            cases hf
            exact AW.iret hZ hE rfl rfl rfl rfl (Nat.le_refl 0) (Nat.le_refl 0) rfl ⟨rfl, rfl⟩
        · rw [if_pos c45] at hf
          refine ⟨fun h => absurd h (by decide), fun _ => ?_⟩
          obtain ⟨q47, h49, hf⟩ := zbind hf
          refine AW.callVc hZ hR hN (c_R_wrong N (R_fault_s v0 q34) 2 q47 h49) zMX12_wrong_ok rfl rfl zK_BorrowedLivesModel_188 zV_X12_wrong rfl [25] [0] [0, 1, 2, 3, 4, 5, 6, 7, 8, 9, 10, 11, 12, 13, 14, 15, 16, 17, 18, 19, 20, 21, 22, 23, 24] rfl rfl rfl (by decide) (by decide) (by omega) (by decide) (Nat.zero_le _) (Nat.zero_le _) rfl rfl rfl rfl rfl ?_
          rintro v cc ⟨rfl, rfl⟩
          refine ⟨_, rfl, rfl, ?_⟩
          show AW Z 0 0 52 [some (.ref 0), some (.int a1), some (.int (-1))] [] ([kR 0 (R_fault_s v0 q47)] : List (List zE)).flatten
          refine AW.run hZ hRm [64] 400 ?_
          show (((q47 ≤ 0) → AW Z 0 0 64 [some (.ref 0), some (.int a1), some (.int (-1))] [.int (-1)] ([kR 0 (R_fault_s v0 q47)] : List (List zE)).flatten) ∧ (¬ (q47 ≤ 0) → AW Z 0 0 64 [some (.ref 0), some (.int a1), some (.int (-1))] [.int 0] ([kR 0 (R_fault_s v0 q47)] : List (List zE)).flatten))
          refine ⟨fun c48 => ?_, fun c48 => ?_⟩
          · rw [if_pos c48] at hf
            cases hf
            exact AW.iret hZ hE rfl rfl rfl rfl (Nat.le_refl 0) (Nat.le_refl 0) rfl ⟨rfl, rfl⟩
          · rw [if_neg c48] at hf
            cases hf
            exact AW.iret hZ hE rfl rfl rfl rfl (Nat.le_refl 0) (Nat.le_refl 0) rfl ⟨rfl, rfl⟩
def f_R_takeTold (N : Nat) (v0 : VR) (a1 : Int32) : Option (Int32 × Int32 × Int32) := ((f_R_toldHere N v0 a1).bind (fun q1 => (some (q1.1, ((R_at v0) + (if (q1.2 ≤ 0) then 1 else 0)), q1.2))))
set_option maxRecDepth 20000 in
set_option maxHeartbeats 4000000 in
theorem c_R_takeTold (N : Nat) (v0 : VR) (a1 : Int32) (R : Int32 × Int32 × Int32) (hf : f_R_takeTold N v0 a1 = some R) : Ct zMX12_takeTold 5 0 0 0 [.ref 0, .int a1] ([kR 0 v0] : List (List zE)).flatten (fun v cc => v = some (.int R.1) ∧ cc = ([kR 0 (R_s_at_fault v0 R.2.1 R.2.2)] : List (List zE)).flatten) := by
  refine Ct.of zMX12_takeTold_ok (by decide) (Nat.le_of_ble_eq_true rfl) ?_
  intro Z hZ hR hN hE
  have hRm : zRoom Z 0 0 := zRoom0 Z
  unfold f_R_takeTold at hf
  show AW Z 0 0 0 [some (.ref 0), some (.int a1), none] [] ([kR 0 v0] : List (List zE)).flatten
  refine AW.run hZ hRm [2] 400 ?_
  show AW Z 0 0 2 [some (.ref 0), some (.int a1), none] [.int a1, .ref 0] ([kR 0 v0] : List (List zE)).flatten
  obtain ⟨q1, h4, hf⟩ := zbind hf
  refine AW.callVc hZ hR hN (c_R_toldHere N v0 a1 q1 h4) zMX12_toldHere_ok rfl rfl zK_BorrowedLivesModel_221 zV_X12_toldHere rfl [25] [0] [0, 1, 2, 3, 4, 5, 6, 7, 8, 9, 10, 11, 12, 13, 14, 15, 16, 17, 18, 19, 20, 21, 22, 23, 24] rfl rfl rfl (by decide) (by decide) (by omega) (by decide) (Nat.zero_le _) (Nat.zero_le _) rfl rfl rfl rfl rfl ?_
  rintro v cc ⟨rfl, rfl⟩
  refine ⟨_, rfl, rfl, ?_⟩
  show AW Z 0 0 5 [some (.ref 0), some (.int a1), none] [.int q1.1] ([kR 0 (R_fault_s v0 q1.2)] : List (List zE)).flatten
  refine AW.run hZ hRm [15] 400 ?_
  show AW Z 0 0 15 [some (.ref 0), some (.int a1), some (.int q1.1)] [.int q1.2, .int (R_at v0), .ref 0] ([kR 0 (R_fault_s v0 q1.2)] : List (List zE)).flatten
  suffices H2 : AW Z 0 0 23 [none, none, some (.int q1.1)] [.int (if (q1.2 ≤ 0) then 1 else 0), .int (R_at v0), .ref 0] ([kR 0 (R_fault_s v0 q1.2)] : List (List zE)).flatten from by
    refine AW.run hZ hRm [23] 400 ?_
    show (((q1.2 ≤ 0) → AW Z 0 0 23 [some (.ref 0), some (.int a1), some (.int q1.1)] [.int 1, .int (R_at v0), .ref 0] ([kR 0 (R_fault_s v0 q1.2)] : List (List zE)).flatten) ∧ (¬ (q1.2 ≤ 0) → AW Z 0 0 23 [some (.ref 0), some (.int a1), some (.int q1.1)] [.int 0, .int (R_at v0), .ref 0] ([kR 0 (R_fault_s v0 q1.2)] : List (List zE)).flatten))
    refine ⟨fun c3 => ?_, fun c3 => ?_⟩
    · refine AW.forget [false, false, true] ?_
      show AW Z 0 0 23 [none, none, some (.int q1.1)] [.int 1, .int (R_at v0), .ref 0] ([kR 0 (R_fault_s v0 q1.2)] : List (List zE)).flatten
      simpa only [if_pos c3] using H2
    · refine AW.forget [false, false, true] ?_
      show AW Z 0 0 23 [none, none, some (.int q1.1)] [.int 0, .int (R_at v0), .ref 0] ([kR 0 (R_fault_s v0 q1.2)] : List (List zE)).flatten
      simpa only [if_neg c3] using H2
  refine AW.run hZ hRm [28] 400 ?_
  show AW Z 0 0 28 [none, none, some (.int q1.1)] [.int q1.1] ([kR 0 (R_s_at_fault v0 ((R_at v0) + (if (q1.2 ≤ 0) then 1 else 0)) q1.2)] : List (List zE)).flatten
  cases hf
  exact AW.iret hZ hE rfl rfl rfl rfl (Nat.le_refl 0) (Nat.le_refl 0) rfl ⟨rfl, rfl⟩
