def f_R_readBar (N : Nat) (v0 : VR) : Option (Int32 × Int32 × (Nat → Int32)) := ((f_R_takeTold N (R_at_s v0 ((R_at v0) + 1)) 1).bind (fun q1 => ((f_R_toldHere N (R_s_at_fault v0 q1.2.1 q1.2.2) 1).bind (fun q2 => (if (q2.2 = 0) then (if (q1.1 = q2.1) then ((f_R_wrong N (R_s_at_fault v0 q1.2.1 q2.2) 3).bind (fun q9 => (if (q9 = 0) then (if (((118 + (6 * q1.1)) + q2.1) < 0 ∨ 160 ≤ Int32.toNatClampNeg ((118 + (6 * q1.1)) + q2.1)) then none else (zlet ((upd (R_towns v0) (Int32.toNatClampNeg ((118 + (6 * q1.1)) + q2.1)) 1) : (Nat → Int32)) (fun z11 => (zlet ((upd z11 (Int32.toNatClampNeg 81) ((z11 (Int32.toNatClampNeg 81)) + 1)) : (Nat → Int32)) (fun z12 => (some ((q1.2.1 + 1), q9, z12))))))) else (some (q1.2.1, q9, (R_towns v0)))))) else (if (((118 + (6 * q1.1)) + q2.1) < 0 ∨ 160 ≤ Int32.toNatClampNeg ((118 + (6 * q1.1)) + q2.1)) then none else (if (((R_towns v0) (Int32.toNatClampNeg ((118 + (6 * q1.1)) + q2.1))) = 1) then ((f_R_wrong N (R_s_at_fault v0 q1.2.1 q2.2) 3).bind (fun q20 => (if (q20 = 0) then (if (((118 + (6 * q1.1)) + q2.1) < 0 ∨ 160 ≤ Int32.toNatClampNeg ((118 + (6 * q1.1)) + q2.1)) then none else (zlet ((upd (R_towns v0) (Int32.toNatClampNeg ((118 + (6 * q1.1)) + q2.1)) 1) : (Nat → Int32)) (fun z22 => (zlet ((upd z22 (Int32.toNatClampNeg 81) ((z22 (Int32.toNatClampNeg 81)) + 1)) : (Nat → Int32)) (fun z23 => (some ((q1.2.1 + 1), q20, z23))))))) else (some (q1.2.1, q20, (R_towns v0)))))) else (if (q2.2 = 0) then (if (((118 + (6 * q1.1)) + q2.1) < 0 ∨ 160 ≤ Int32.toNatClampNeg ((118 + (6 * q1.1)) + q2.1)) then none else (zlet ((upd (R_towns v0) (Int32.toNatClampNeg ((118 + (6 * q1.1)) + q2.1)) 1) : (Nat → Int32)) (fun z17 => (zlet ((upd z17 (Int32.toNatClampNeg 81) ((z17 (Int32.toNatClampNeg 81)) + 1)) : (Nat → Int32)) (fun z18 => (some ((q1.2.1 + 1), q2.2, z18))))))) else (some (q1.2.1, q2.2, (R_towns v0))))))) else (if (q2.2 = 0) then (if (((118 + (6 * q1.1)) + q2.1) < 0 ∨ 160 ≤ Int32.toNatClampNeg ((118 + (6 * q1.1)) + q2.1)) then none else (zlet ((upd (R_towns v0) (Int32.toNatClampNeg ((118 + (6 * q1.1)) + q2.1)) 1) : (Nat → Int32)) (fun z5 => (zlet ((upd z5 (Int32.toNatClampNeg 81) ((z5 (Int32.toNatClampNeg 81)) + 1)) : (Nat → Int32)) (fun z6 => (some ((q1.2.1 + 1), q2.2, z6))))))) else (some (q1.2.1, q2.2, (R_towns v0)))))))))
set_option maxRecDepth 20000 in
set_option maxHeartbeats 4000000 in
theorem c_R_readBar (N : Nat) (v0 : VR) (R : Int32 × Int32 × (Nat → Int32)) (hf : f_R_readBar N v0 = some R) : Ct zMX12_readBar 6 0 0 0 [.ref 0] ([kR 0 v0] : List (List zE)).flatten (fun v cc => v = none ∧ cc = ([kR 0 (R_s_at_fault_towns v0 R.1 R.2.1 R.2.2)] : List (List zE)).flatten) := by
  refine Ct.of zMX12_readBar_ok (by decide) (Nat.le_of_ble_eq_true rfl) ?_
  intro Z hZ hR hN hE
  have hRm : zRoom Z 0 0 := zRoom0 Z
  unfold f_R_readBar at hf
  show AW Z 0 0 0 [some (.ref 0), none, none] [] ([kR 0 v0] : List (List zE)).flatten
  refine AW.run hZ hRm [12] 400 ?_
  show AW Z 0 0 12 [some (.ref 0), none, none] [.int 1, .ref 0] ([kR 0 (R_at_s v0 ((R_at v0) + 1))] : List (List zE)).flatten
  obtain ⟨q1, h28, hf⟩ := zbind hf
  refine AW.callVc hZ hR hN (c_R_takeTold N (R_at_s v0 ((R_at v0) + 1)) 1 q1 h28) zMX12_takeTold_ok rfl rfl zK_BorrowedLivesModel_253 zV_X12_takeTold rfl [25] [0] [0, 1, 2, 3, 4, 5, 6, 7, 8, 9, 10, 11, 12, 13, 14, 15, 16, 17, 18, 19, 20, 21, 22, 23, 24] rfl rfl rfl (by decide) (by decide) (by omega) (by decide) (Nat.zero_le _) (Nat.zero_le _) rfl rfl rfl rfl rfl ?_
  rintro v cc ⟨rfl, rfl⟩
  refine ⟨_, rfl, rfl, ?_⟩
  show AW Z 0 0 15 [some (.ref 0), none, none] [.int q1.1] ([kR 0 (R_s_at_fault v0 q1.2.1 q1.2.2)] : List (List zE)).flatten
  refine AW.run hZ hRm [18] 400 ?_
  show AW Z 0 0 18 [some (.ref 0), some (.int q1.1), none] [.int 1, .ref 0] ([kR 0 (R_s_at_fault v0 q1.2.1 q1.2.2)] : List (List zE)).flatten
  obtain ⟨q2, h27, hf⟩ := zbind hf
  refine AW.callVc hZ hR hN (c_R_toldHere N (R_s_at_fault v0 q1.2.1 q1.2.2) 1 q2 h27) zMX12_toldHere_ok rfl rfl zK_BorrowedLivesModel_221 zV_X12_toldHere rfl [25] [0] [0, 1, 2, 3, 4, 5, 6, 7, 8, 9, 10, 11, 12, 13, 14, 15, 16, 17, 18, 19, 20, 21, 22, 23, 24] rfl rfl rfl (by decide) (by decide) (by omega) (by decide) (Nat.zero_le _) (Nat.zero_le _) rfl rfl rfl rfl rfl ?_
  rintro v cc ⟨rfl, rfl⟩
  refine ⟨_, rfl, rfl, ?_⟩
  show AW Z 0 0 21 [some (.ref 0), some (.int q1.1), none] [.int q2.1] ([kR 0 (R_s_at_fault v0 q1.2.1 q2.2)] : List (List zE)).flatten
  refine AW.run hZ hRm [54, 89, 100] 400 ?_
  show ((¬ (q2.2 = 0) → ((¬ (q2.2 = 0) → AW Z 0 0 100 [some (.ref 0), some (.int q1.1), some (.int q2.1)] [] ([kR 0 (R_s_at_fault v0 q1.2.1 q2.2)] : List (List zE)).flatten) ∧ ((q2.2 = 0) → (¬ (((118 + (6 * q1.1)) + q2.1) < 0 ∨ 160 ≤ Int32.toNatClampNeg ((118 + (6 * q1.1)) + q2.1)) ∧ AW Z 0 0 89 [some (.ref 0), some (.int q1.1), some (.int q2.1)] [] ([kR 0 (R_s_at_fault_towns v0 (q1.2.1 + 1) q2.2 (upd (R_towns v0) (Int32.toNatClampNeg ((118 + (6 * q1.1)) + q2.1)) 1))] : List (List zE)).flatten)))) ∧ ((q2.2 = 0) → (((q1.1 = q2.1) → AW Z 0 0 54 [some (.ref 0), some (.int q1.1), some (.int q2.1)] [.int 3, .ref 0] ([kR 0 (R_s_at_fault v0 q1.2.1 q2.2)] : List (List zE)).flatten) ∧ (¬ (q1.1 = q2.1) → (¬ (((118 + (6 * q1.1)) + q2.1) < 0 ∨ 160 ≤ Int32.toNatClampNeg ((118 + (6 * q1.1)) + q2.1)) ∧ ((¬ (((R_towns v0) (Int32.toNatClampNeg ((118 + (6 * q1.1)) + q2.1))) = 1) → ((¬ (q2.2 = 0) → AW Z 0 0 100 [some (.ref 0), some (.int q1.1), some (.int q2.1)] [] ([kR 0 (R_s_at_fault v0 q1.2.1 q2.2)] : List (List zE)).flatten) ∧ ((q2.2 = 0) → (¬ (((118 + (6 * q1.1)) + q2.1) < 0 ∨ 160 ≤ Int32.toNatClampNeg ((118 + (6 * q1.1)) + q2.1)) ∧ AW Z 0 0 89 [some (.ref 0), some (.int q1.1), some (.int q2.1)] [] ([kR 0 (R_s_at_fault_towns v0 (q1.2.1 + 1) q2.2 (upd (R_towns v0) (Int32.toNatClampNeg ((118 + (6 * q1.1)) + q2.1)) 1))] : List (List zE)).flatten)))) ∧ ((((R_towns v0) (Int32.toNatClampNeg ((118 + (6 * q1.1)) + q2.1))) = 1) → AW Z 0 0 54 [some (.ref 0), some (.int q1.1), some (.int q2.1)] [.int 3, .ref 0] ([kR 0 (R_s_at_fault v0 q1.2.1 q2.2)] : List (List zE)).flatten)))))))
  refine ⟨fun c3 => ?_, fun c3 => ?_⟩
  · rw [if_neg c3] at hf
    refine ⟨fun c4 => ?_, fun c4 => ?_⟩
    · rw [if_neg c4] at hf
      as_aux_lemma =>
        cases hf
        exact AW.vret hZ hE rfl rfl rfl (Nat.le_refl 0) (Nat.le_refl 0) rfl ⟨rfl, rfl⟩
    · rw [if_pos c4] at hf
      obtain ⟨b7, hf⟩ := zneed hf
      refine ⟨b7, ?_⟩
      replace hf := zlet_gen hf
      generalize ((upd (R_towns v0) (Int32.toNatClampNeg ((118 + (6 * q1.1)) + q2.1)) 1) : (Nat → Int32)) = z5 at hf ⊢
      as_aux_lemma =>
        refine AW.run hZ hRm [100] 400 ?_
        show (¬ ((81 : Int32) < 0 ∨ 160 ≤ Int32.toNatClampNeg 81) ∧ (¬ ((81 : Int32) < 0 ∨ 160 ≤ Int32.toNatClampNeg 81) ∧ AW Z 0 0 100 [some (.ref 0), some (.int q1.1), some (.int q2.1)] [] ([kR 0 (R_s_at_fault_towns v0 (q1.2.1 + 1) q2.2 (upd z5 (Int32.toNatClampNeg 81) ((z5 (Int32.toNatClampNeg 81)) + 1)))] : List (List zE)).flatten))
        refine ⟨(by decide), ?_⟩
        refine ⟨(by decide), ?_⟩
        replace hf := zlet_gen hf
        generalize ((upd z5 (Int32.toNatClampNeg 81) ((z5 (Int32.toNatClampNeg 81)) + 1)) : (Nat → Int32)) = z6 at hf ⊢
        as_aux_lemma =>
          cases hf
          exact AW.vret hZ hE rfl rfl rfl (Nat.le_refl 0) (Nat.le_refl 0) rfl ⟨rfl, rfl⟩
  · rw [if_pos c3] at hf
    refine ⟨fun c8 => ?_, fun c8 => ?_⟩
    · rw [if_pos c8] at hf
      obtain ⟨q9, h14, hf⟩ := zbind hf
      refine AW.callVc hZ hR hN (c_R_wrong N (R_s_at_fault v0 q1.2.1 q2.2) 3 q9 h14) zMX12_wrong_ok rfl rfl zK_BorrowedLivesModel_188 zV_X12_wrong rfl [25] [0] [0, 1, 2, 3, 4, 5, 6, 7, 8, 9, 10, 11, 12, 13, 14, 15, 16, 17, 18, 19, 20, 21, 22, 23, 24] rfl rfl rfl (by decide) (by decide) (by omega) (by decide) (Nat.zero_le _) (Nat.zero_le _) rfl rfl rfl rfl rfl ?_
      rintro v cc ⟨rfl, rfl⟩
      refine ⟨_, rfl, rfl, ?_⟩
      show AW Z 0 0 57 [some (.ref 0), some (.int q1.1), some (.int q2.1)] [] ([kR 0 (R_s_at_fault v0 q1.2.1 q9)] : List (List zE)).flatten
      refine AW.run hZ hRm [89, 100] 400 ?_
      show ((¬ (q9 = 0) → AW Z 0 0 100 [some (.ref 0), some (.int q1.1), some (.int q2.1)] [] ([kR 0 (R_s_at_fault v0 q1.2.1 q9)] : List (List zE)).flatten) ∧ ((q9 = 0) → (¬ (((118 + (6 * q1.1)) + q2.1) < 0 ∨ 160 ≤ Int32.toNatClampNeg ((118 + (6 * q1.1)) + q2.1)) ∧ AW Z 0 0 89 [some (.ref 0), some (.int q1.1), some (.int q2.1)] [] ([kR 0 (R_s_at_fault_towns v0 (q1.2.1 + 1) q9 (upd (R_towns v0) (Int32.toNatClampNeg ((118 + (6 * q1.1)) + q2.1)) 1))] : List (List zE)).flatten)))
      refine ⟨fun c10 => ?_, fun c10 => ?_⟩
      · rw [if_neg c10] at hf
        as_aux_lemma =>
          cases hf
          exact AW.vret hZ hE rfl rfl rfl (Nat.le_refl 0) (Nat.le_refl 0) rfl ⟨rfl, rfl⟩
      · rw [if_pos c10] at hf
        obtain ⟨b13, hf⟩ := zneed hf
        refine ⟨b13, ?_⟩
        replace hf := zlet_gen hf
        generalize ((upd (R_towns v0) (Int32.toNatClampNeg ((118 + (6 * q1.1)) + q2.1)) 1) : (Nat → Int32)) = z11 at hf ⊢
        as_aux_lemma =>
          refine AW.run hZ hRm [100] 400 ?_
          show (¬ ((81 : Int32) < 0 ∨ 160 ≤ Int32.toNatClampNeg 81) ∧ (¬ ((81 : Int32) < 0 ∨ 160 ≤ Int32.toNatClampNeg 81) ∧ AW Z 0 0 100 [some (.ref 0), some (.int q1.1), some (.int q2.1)] [] ([kR 0 (R_s_at_fault_towns v0 (q1.2.1 + 1) q9 (upd z11 (Int32.toNatClampNeg 81) ((z11 (Int32.toNatClampNeg 81)) + 1)))] : List (List zE)).flatten))
          refine ⟨(by decide), ?_⟩
          refine ⟨(by decide), ?_⟩
          replace hf := zlet_gen hf
          generalize ((upd z11 (Int32.toNatClampNeg 81) ((z11 (Int32.toNatClampNeg 81)) + 1)) : (Nat → Int32)) = z12 at hf ⊢
          as_aux_lemma =>
            cases hf
            exact AW.vret hZ hE rfl rfl rfl (Nat.le_refl 0) (Nat.le_refl 0) rfl ⟨rfl, rfl⟩
    · rw [if_neg c8] at hf
      obtain ⟨b26, hf⟩ := zneed hf
      refine ⟨b26, ?_⟩
      refine ⟨fun c15 => ?_, fun c15 => ?_⟩
      · rw [if_neg c15] at hf
        refine ⟨fun c16 => ?_, fun c16 => ?_⟩
        · rw [if_neg c16] at hf
          as_aux_lemma =>
            cases hf
            exact AW.vret hZ hE rfl rfl rfl (Nat.le_refl 0) (Nat.le_refl 0) rfl ⟨rfl, rfl⟩
        · rw [if_pos c16] at hf
          obtain ⟨b19, hf⟩ := zneed hf
          refine ⟨b19, ?_⟩
          replace hf := zlet_gen hf
          generalize ((upd (R_towns v0) (Int32.toNatClampNeg ((118 + (6 * q1.1)) + q2.1)) 1) : (Nat → Int32)) = z17 at hf ⊢
          as_aux_lemma =>
            refine AW.run hZ hRm [100] 400 ?_
            show (¬ ((81 : Int32) < 0 ∨ 160 ≤ Int32.toNatClampNeg 81) ∧ (¬ ((81 : Int32) < 0 ∨ 160 ≤ Int32.toNatClampNeg 81) ∧ AW Z 0 0 100 [some (.ref 0), some (.int q1.1), some (.int q2.1)] [] ([kR 0 (R_s_at_fault_towns v0 (q1.2.1 + 1) q2.2 (upd z17 (Int32.toNatClampNeg 81) ((z17 (Int32.toNatClampNeg 81)) + 1)))] : List (List zE)).flatten))
            refine ⟨(by decide), ?_⟩
            refine ⟨(by decide), ?_⟩
            replace hf := zlet_gen hf
            generalize ((upd z17 (Int32.toNatClampNeg 81) ((z17 (Int32.toNatClampNeg 81)) + 1)) : (Nat → Int32)) = z18 at hf ⊢
            as_aux_lemma =>
              cases hf
              exact AW.vret hZ hE rfl rfl rfl (Nat.le_refl 0) (Nat.le_refl 0) rfl ⟨rfl, rfl⟩
      · rw [if_pos c15] at hf
        obtain ⟨q20, h25, hf⟩ := zbind hf
        refine AW.callVc hZ hR hN (c_R_wrong N (R_s_at_fault v0 q1.2.1 q2.2) 3 q20 h25) zMX12_wrong_ok rfl rfl zK_BorrowedLivesModel_188 zV_X12_wrong rfl [25] [0] [0, 1, 2, 3, 4, 5, 6, 7, 8, 9, 10, 11, 12, 13, 14, 15, 16, 17, 18, 19, 20, 21, 22, 23, 24] rfl rfl rfl (by decide) (by decide) (by omega) (by decide) (Nat.zero_le _) (Nat.zero_le _) rfl rfl rfl rfl rfl ?_
        rintro v cc ⟨rfl, rfl⟩
        refine ⟨_, rfl, rfl, ?_⟩
        show AW Z 0 0 57 [some (.ref 0), some (.int q1.1), some (.int q2.1)] [] ([kR 0 (R_s_at_fault v0 q1.2.1 q20)] : List (List zE)).flatten
        refine AW.run hZ hRm [89, 100] 400 ?_
        show ((¬ (q20 = 0) → AW Z 0 0 100 [some (.ref 0), some (.int q1.1), some (.int q2.1)] [] ([kR 0 (R_s_at_fault v0 q1.2.1 q20)] : List (List zE)).flatten) ∧ ((q20 = 0) → (¬ (((118 + (6 * q1.1)) + q2.1) < 0 ∨ 160 ≤ Int32.toNatClampNeg ((118 + (6 * q1.1)) + q2.1)) ∧ AW Z 0 0 89 [some (.ref 0), some (.int q1.1), some (.int q2.1)] [] ([kR 0 (R_s_at_fault_towns v0 (q1.2.1 + 1) q20 (upd (R_towns v0) (Int32.toNatClampNeg ((118 + (6 * q1.1)) + q2.1)) 1))] : List (List zE)).flatten)))
        refine ⟨fun c21 => ?_, fun c21 => ?_⟩
        · rw [if_neg c21] at hf
          as_aux_lemma =>
            cases hf
            exact AW.vret hZ hE rfl rfl rfl (Nat.le_refl 0) (Nat.le_refl 0) rfl ⟨rfl, rfl⟩
        · rw [if_pos c21] at hf
          obtain ⟨b24, hf⟩ := zneed hf
          refine ⟨b24, ?_⟩
          replace hf := zlet_gen hf
          generalize ((upd (R_towns v0) (Int32.toNatClampNeg ((118 + (6 * q1.1)) + q2.1)) 1) : (Nat → Int32)) = z22 at hf ⊢
          as_aux_lemma =>
            refine AW.run hZ hRm [100] 400 ?_
            show (¬ ((81 : Int32) < 0 ∨ 160 ≤ Int32.toNatClampNeg 81) ∧ (¬ ((81 : Int32) < 0 ∨ 160 ≤ Int32.toNatClampNeg 81) ∧ AW Z 0 0 100 [some (.ref 0), some (.int q1.1), some (.int q2.1)] [] ([kR 0 (R_s_at_fault_towns v0 (q1.2.1 + 1) q20 (upd z22 (Int32.toNatClampNeg 81) ((z22 (Int32.toNatClampNeg 81)) + 1)))] : List (List zE)).flatten))
            refine ⟨(by decide), ?_⟩
            refine ⟨(by decide), ?_⟩
            replace hf := zlet_gen hf
            generalize ((upd z22 (Int32.toNatClampNeg 81) ((z22 (Int32.toNatClampNeg 81)) + 1)) : (Nat → Int32)) = z23 at hf ⊢
            as_aux_lemma =>
              cases hf
              exact AW.vret hZ hE rfl rfl rfl (Nat.le_refl 0) (Nat.le_refl 0) rfl ⟨rfl, rfl⟩
def f_R_emit (N : Nat) (v0 : VR) (a1 : Int32) (a2 : Int32) : Option ((Nat → Int32) × (Nat → Int32) × Int32) := (if ((1100 + (R_codes v0)) < 0 ∨ 2200 ≤ Int32.toNatClampNeg (1100 + (R_codes v0))) then none else (zlet ((upd (R_op v0) (Int32.toNatClampNeg (1100 + (R_codes v0))) a1) : (Nat → Int32)) (fun z1 => (if ((1100 + (R_codes v0)) < 0 ∨ 2200 ≤ Int32.toNatClampNeg (1100 + (R_codes v0))) then none else (zlet ((upd (R_arg v0) (Int32.toNatClampNeg (1100 + (R_codes v0))) a2) : (Nat → Int32)) (fun z2 => (some (z1, z2, ((R_codes v0) + 1)))))))))
set_option maxRecDepth 20000 in
set_option maxHeartbeats 4000000 in
theorem c_R_emit (N : Nat) (v0 : VR) (a1 : Int32) (a2 : Int32) (R : (Nat → Int32) × (Nat → Int32) × Int32) (hf : f_R_emit N v0 a1 a2 = some R) : Ct zMX12_emit 1 0 0 0 [.ref 0, .int a1, .int a2] ([kR 0 v0] : List (List zE)).flatten (fun v cc => v = none ∧ cc = ([kR 0 (R_s_op_arg_codes v0 R.1 R.2.1 R.2.2)] : List (List zE)).flatten) := by
  refine Ct.of zMX12_emit_ok (by decide) (Nat.le_of_ble_eq_true rfl) ?_
  intro Z hZ hR hN hE
  have hRm : zRoom Z 0 0 := zRoom0 Z
  unfold f_R_emit at hf
  show AW Z 0 0 0 [some (.ref 0), some (.int a1), some (.int a2)] [] ([kR 0 v0] : List (List zE)).flatten
  refine AW.run hZ hRm [14] 400 ?_
  show (¬ ((1100 + (R_codes v0)) < 0 ∨ 2200 ≤ Int32.toNatClampNeg (1100 + (R_codes v0))) ∧ AW Z 0 0 14 [some (.ref 0), some (.int a1), some (.int a2)] [] ([kR 0 (R_op_s v0 (upd (R_op v0) (Int32.toNatClampNeg (1100 + (R_codes v0))) a1))] : List (List zE)).flatten)
  obtain ⟨b4, hf⟩ := zneed hf
  refine ⟨b4, ?_⟩
  replace hf := zlet_gen hf
  generalize ((upd (R_op v0) (Int32.toNatClampNeg (1100 + (R_codes v0))) a1) : (Nat → Int32)) = z1 at hf ⊢
  as_aux_lemma =>
    refine AW.run hZ hRm [28] 400 ?_
    show (¬ ((1100 + (R_codes v0)) < 0 ∨ 2200 ≤ Int32.toNatClampNeg (1100 + (R_codes v0))) ∧ AW Z 0 0 28 [some (.ref 0), some (.int a1), some (.int a2)] [] ([kR 0 (R_s_op_arg v0 z1 (upd (R_arg v0) (Int32.toNatClampNeg (1100 + (R_codes v0))) a2))] : List (List zE)).flatten)
    obtain ⟨b3, hf⟩ := zneed hf
    refine ⟨b3, ?_⟩
    replace hf := zlet_gen hf
    generalize ((upd (R_arg v0) (Int32.toNatClampNeg (1100 + (R_codes v0))) a2) : (Nat → Int32)) = z2 at hf ⊢
    as_aux_lemma =>
      refine AW.run hZ hRm [38] 400 ?_
      show AW Z 0 0 38 [some (.ref 0), some (.int a1), some (.int a2)] [] ([kR 0 (R_s_op_arg_codes v0 z1 z2 ((R_codes v0) + 1))] : List (List zE)).flatten
      cases hf
      exact AW.vret hZ hE rfl rfl rfl (Nat.le_refl 0) (Nat.le_refl 0) rfl ⟨rfl, rfl⟩
