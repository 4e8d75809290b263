def f_R_readOnce (N : Nat) (v0 : VR) : Option (Int32 × Int32 × (Nat → Int32) × (Nat → Int32) × (Nat → Int32) × Int32 × Int32 × Int32) := ((f_R_isWord N v0 6).bind (fun q1 => (if (q1 = 0) then ((f_R_wordHere N v0 7 4).bind (fun q3 => (if (0 ≤ q3) then (if (q3 = 4) then (if ((R_hasSigned v0) = 0) then (if ((R_fault v0) ≤ 0) then (if (q3 = 4) then ((f_R_takeNumber N (R_s_at_hasSigned v0 ((R_at v0) + 1) 1) 0 999).bind (fun q47 => (zlet ((upd (R_towns v0) (Int32.toNatClampNeg 82) q47.1) : (Nat → Int32)) (fun z48 => (some (q47.2.1, q47.2.2, z48, (R_op v0), (R_arg v0), (R_codes v0), 1, (R_factsHere v0))))))) else (if ((83 + q3) < 0 ∨ 160 ≤ Int32.toNatClampNeg (83 + q3)) then none else (zlet ((upd (R_towns v0) (Int32.toNatClampNeg (83 + q3)) (R_codes v0)) : (Nat → Int32)) (fun z39 => ((f_R_all 64 N (R_s_at_towns_factsHere v0 ((R_at v0) + 1) z39 (if (q3 = 2) then 7 else 31)) 0).bind (fun q42 => ((f_R_emit N (R_s_at_fault_towns_op_arg_codes_factsHere v0 q42.1 q42.2.1 z39 q42.2.2.1 q42.2.2.2.1 q42.2.2.2.2 (if (q3 = 2) then 7 else 31)) 0 0).bind (fun q43 => (some (q42.1, q42.2.1, z39, q43.1, q43.2.1, q43.2.2, (R_hasSigned v0), (if (q3 = 2) then 7 else 31))))))))))) else (some ((R_at v0), (R_fault v0), (R_towns v0), (R_op v0), (R_arg v0), (R_codes v0), (R_hasSigned v0), (R_factsHere v0)))) else ((f_R_wrong N v0 3).bind (fun q50 => (if (q50 ≤ 0) then (if (q3 = 4) then ((f_R_takeNumber N (R_s_at_fault_hasSigned v0 ((R_at v0) + 1) q50 1) 0 999).bind (fun q61 => (zlet ((upd (R_towns v0) (Int32.toNatClampNeg 82) q61.1) : (Nat → Int32)) (fun z62 => (some (q61.2.1, q61.2.2, z62, (R_op v0), (R_arg v0), (R_codes v0), 1, (R_factsHere v0))))))) else (if ((83 + q3) < 0 ∨ 160 ≤ Int32.toNatClampNeg (83 + q3)) then none else (zlet ((upd (R_towns v0) (Int32.toNatClampNeg (83 + q3)) (R_codes v0)) : (Nat → Int32)) (fun z53 => ((f_R_all 64 N (R_s_at_fault_towns_factsHere v0 ((R_at v0) + 1) q50 z53 (if (q3 = 2) then 7 else 31)) 0).bind (fun q56 => ((f_R_emit N (R_s_at_fault_towns_op_arg_codes_factsHere v0 q56.1 q56.2.1 z53 q56.2.2.1 q56.2.2.2.1 q56.2.2.2.2 (if (q3 = 2) then 7 else 31)) 0 0).bind (fun q57 => (some (q56.1, q56.2.1, z53, q57.1, q57.2.1, q57.2.2, (R_hasSigned v0), (if (q3 = 2) then 7 else 31))))))))))) else (some ((R_at v0), q50, (R_towns v0), (R_op v0), (R_arg v0), (R_codes v0), (R_hasSigned v0), (R_factsHere v0))))))) else (if ((83 + q3) < 0 ∨ 160 ≤ Int32.toNatClampNeg (83 + q3)) then none else (if (((R_towns v0) (Int32.toNatClampNeg (83 + q3))) < 0) then (if ((R_fault v0) ≤ 0) then (if (q3 = 4) then ((f_R_takeNumber N (R_s_at_hasSigned v0 ((R_at v0) + 1) 1) 0 999).bind (fun q17 => (zlet ((upd (R_towns v0) (Int32.toNatClampNeg 82) q17.1) : (Nat → Int32)) (fun z18 => (some (q17.2.1, q17.2.2, z18, (R_op v0), (R_arg v0), (R_codes v0), 1, (R_factsHere v0))))))) else (if ((83 + q3) < 0 ∨ 160 ≤ Int32.toNatClampNeg (83 + q3)) then none else (zlet ((upd (R_towns v0) (Int32.toNatClampNeg (83 + q3)) (R_codes v0)) : (Nat → Int32)) (fun z9 => ((f_R_all 64 N (R_s_at_towns_factsHere v0 ((R_at v0) + 1) z9 (if (q3 = 2) then 7 else 31)) 0).bind (fun q12 => ((f_R_emit N (R_s_at_fault_towns_op_arg_codes_factsHere v0 q12.1 q12.2.1 z9 q12.2.2.1 q12.2.2.2.1 q12.2.2.2.2 (if (q3 = 2) then 7 else 31)) 0 0).bind (fun q13 => (some (q12.1, q12.2.1, z9, q13.1, q13.2.1, q13.2.2, (R_hasSigned v0), (if (q3 = 2) then 7 else 31))))))))))) else (some ((R_at v0), (R_fault v0), (R_towns v0), (R_op v0), (R_arg v0), (R_codes v0), (R_hasSigned v0), (R_factsHere v0)))) else ((f_R_wrong N v0 3).bind (fun q20 => (if (q20 ≤ 0) then (if (q3 = 4) then ((f_R_takeNumber N (R_s_at_fault_hasSigned v0 ((R_at v0) + 1) q20 1) 0 999).bind (fun q31 => (zlet ((upd (R_towns v0) (Int32.toNatClampNeg 82) q31.1) : (Nat → Int32)) (fun z32 => (some (q31.2.1, q31.2.2, z32, (R_op v0), (R_arg v0), (R_codes v0), 1, (R_factsHere v0))))))) else (if ((83 + q3) < 0 ∨ 160 ≤ Int32.toNatClampNeg (83 + q3)) then none else (zlet ((upd (R_towns v0) (Int32.toNatClampNeg (83 + q3)) (R_codes v0)) : (Nat → Int32)) (fun z23 => ((f_R_all 64 N (R_s_at_fault_towns_factsHere v0 ((R_at v0) + 1) q20 z23 (if (q3 = 2) then 7 else 31)) 0).bind (fun q26 => ((f_R_emit N (R_s_at_fault_towns_op_arg_codes_factsHere v0 q26.1 q26.2.1 z23 q26.2.2.1 q26.2.2.2.1 q26.2.2.2.2 (if (q3 = 2) then 7 else 31)) 0 0).bind (fun q27 => (some (q26.1, q26.2.1, z23, q27.1, q27.2.1, q27.2.2, (R_hasSigned v0), (if (q3 = 2) then 7 else 31))))))))))) else (some ((R_at v0), q20, (R_towns v0), (R_op v0), (R_arg v0), (R_codes v0), (R_hasSigned v0), (R_factsHere v0))))))))) else ((f_R_wrong N v0 1).bind (fun q65 => (if (q65 ≤ 0) then (if (q3 = 4) then ((f_R_takeNumber N (R_s_at_fault_hasSigned v0 ((R_at v0) + 1) q65 1) 0 999).bind (fun q76 => (zlet ((upd (R_towns v0) (Int32.toNatClampNeg 82) q76.1) : (Nat → Int32)) (fun z77 => (some (q76.2.1, q76.2.2, z77, (R_op v0), (R_arg v0), (R_codes v0), 1, (R_factsHere v0))))))) else (if ((83 + q3) < 0 ∨ 160 ≤ Int32.toNatClampNeg (83 + q3)) then none else (zlet ((upd (R_towns v0) (Int32.toNatClampNeg (83 + q3)) (R_codes v0)) : (Nat → Int32)) (fun z68 => ((f_R_all 64 N (R_s_at_fault_towns_factsHere v0 ((R_at v0) + 1) q65 z68 (if (q3 = 2) then 7 else 31)) 0).bind (fun q71 => ((f_R_emit N (R_s_at_fault_towns_op_arg_codes_factsHere v0 q71.1 q71.2.1 z68 q71.2.2.1 q71.2.2.2.1 q71.2.2.2.2 (if (q3 = 2) then 7 else 31)) 0 0).bind (fun q72 => (some (q71.1, q71.2.1, z68, q72.1, q72.2.1, q72.2.2, (R_hasSigned v0), (if (q3 = 2) then 7 else 31))))))))))) else (some ((R_at v0), q65, (R_towns v0), (R_op v0), (R_arg v0), (R_codes v0), (R_hasSigned v0), (R_factsHere v0))))))))) else (if ((R_hasSigned v0) = 0) then (if ((R_fault v0) ≤ 0) then ((f_R_takeNumber N (R_s_at_hasSigned v0 ((R_at v0) + 1) 1) 0 999).bind (fun q83 => (zlet ((upd (R_towns v0) (Int32.toNatClampNeg 82) q83.1) : (Nat → Int32)) (fun z84 => (some (q83.2.1, q83.2.2, z84, (R_op v0), (R_arg v0), (R_codes v0), 1, (R_factsHere v0))))))) else (some ((R_at v0), (R_fault v0), (R_towns v0), (R_op v0), (R_arg v0), (R_codes v0), (R_hasSigned v0), (R_factsHere v0)))) else ((f_R_wrong N v0 3).bind (fun q86 => (if (q86 ≤ 0) then ((f_R_takeNumber N (R_s_at_fault_hasSigned v0 ((R_at v0) + 1) q86 1) 0 999).bind (fun q88 => (zlet ((upd (R_towns v0) (Int32.toNatClampNeg 82) q88.1) : (Nat → Int32)) (fun z89 => (some (q88.2.1, q88.2.2, z89, (R_op v0), (R_arg v0), (R_codes v0), 1, (R_factsHere v0))))))) else (some ((R_at v0), q86, (R_towns v0), (R_op v0), (R_arg v0), (R_codes v0), (R_hasSigned v0), (R_factsHere v0))))))))))
set_option maxRecDepth 20000 in
set_option maxHeartbeats 4000000 in
theorem c_R_readOnce (N : Nat) (v0 : VR) (R : Int32 × Int32 × (Nat → Int32) × (Nat → Int32) × (Nat → Int32) × Int32 × Int32 × Int32) (hf : f_R_readOnce N v0 = some R) : Ct zMX12_readOnce 67 0 0 0 [.ref 0] ([kR 0 v0] : List (List zE)).flatten (fun v cc => v = none ∧ cc = ([kR 0 (R_s_at_fault_towns_op_arg_codes_hasSigned_factsHere v0 R.1 R.2.1 R.2.2.1 R.2.2.2.1 R.2.2.2.2.1 R.2.2.2.2.2.1 R.2.2.2.2.2.2.1 R.2.2.2.2.2.2.2)] : List (List zE)).flatten) := by
  refine Ct.of zMX12_readOnce_ok (by decide) (Nat.le_of_ble_eq_true rfl) ?_
  intro Z hZ hR hN hE
  have hRm : zRoom Z 0 0 := zRoom0 Z
  unfold f_R_readOnce at hf
  show AW Z 0 0 0 [some (.ref 0), none] [] ([kR 0 v0] : List (List zE)).flatten
  refine AW.run hZ hRm [3] 400 ?_
  show AW Z 0 0 3 [some (.ref 0), none] [.int 6, .ref 0] ([kR 0 v0] : List (List zE)).flatten
  obtain ⟨q1, h92, hf⟩ := zbind hf
  refine AW.callVc hZ hR hN (c_R_isWord N v0 6 q1 h92) zMX12_isWord_ok rfl rfl zK_BorrowedLivesModel_191 zV_X12_isWord rfl [25] [0] [0, 1, 2, 3, 4, 5, 6, 7, 8, 9, 10, 11, 12, 13, 14, 15, 16, 17, 18, 19, 20, 21, 22, 23, 24] rfl rfl rfl (by decide) (by decide) (by omega) (by decide) (Nat.zero_le _) (Nat.zero_le _) rfl rfl rfl rfl rfl ?_
  rintro v cc ⟨rfl, rfl⟩
  refine ⟨_, rfl, rfl, ?_⟩
  show AW Z 0 0 6 [some (.ref 0), none] [.int q1] ([kR 0 v0] : List (List zE)).flatten
  refine AW.run hZ hRm [17, 27, 62, 72, 104, 124] 400 ?_
  show (((q1 = 0) → AW Z 0 0 17 [some (.ref 0), none] [.int 4, .int 7, .ref 0] ([kR 0 v0] : List (List zE)).flatten) ∧ (¬ (q1 = 0) → ((((0 : Int32) ≤ 4) → ((¬ ((4 : Int32) = 4) → (¬ (((83 : Int32) + 4) < 0 ∨ 160 ≤ Int32.toNatClampNeg ((83 : Int32) + 4)) ∧ (((((R_towns v0) (Int32.toNatClampNeg ((83 : Int32) + 4))) < 0) → ((((R_fault v0) ≤ 0) → ((¬ ((4 : Int32) = 4) → (¬ (((83 : Int32) + 4) < 0 ∨ 160 ≤ Int32.toNatClampNeg ((83 : Int32) + 4)) ∧ AW Z 0 0 124 [some (.ref 0), some (.int 4)] [] ([kR 0 (R_s_at_towns v0 ((R_at v0) + 1) (upd (R_towns v0) (Int32.toNatClampNeg ((83 : Int32) + 4)) (R_codes v0)))] : List (List zE)).flatten)) ∧ (((4 : Int32) = 4) → (((1 : Int32) = 0 ∨ (1 : Int32) = 1) ∧ AW Z 0 0 104 [some (.ref 0), some (.int 4)] [.int 999, .int 0, .ref 0, .int 82, .ref 6] ([kR 0 (R_s_at_hasSigned v0 ((R_at v0) + 1) 1)] : List (List zE)).flatten)))) ∧ (¬ ((R_fault v0) ≤ 0) → AW Z 0 0 72 [some (.ref 0), some (.int 4)] [] ([kR 0 v0] : List (List zE)).flatten))) ∧ (¬ (((R_towns v0) (Int32.toNatClampNeg ((83 : Int32) + 4))) < 0) → AW Z 0 0 62 [some (.ref 0), some (.int 4)] [.int 3, .ref 0] ([kR 0 v0] : List (List zE)).flatten)))) ∧ (((4 : Int32) = 4) → ((((R_hasSigned v0) = 0) → ((((R_fault v0) ≤ 0) → ((¬ ((4 : Int32) = 4) → (¬ (((83 : Int32) + 4) < 0 ∨ 160 ≤ Int32.toNatClampNeg ((83 : Int32) + 4)) ∧ AW Z 0 0 124 [some (.ref 0), some (.int 4)] [] ([kR 0 (R_s_at_towns v0 ((R_at v0) + 1) (upd (R_towns v0) (Int32.toNatClampNeg ((83 : Int32) + 4)) (R_codes v0)))] : List (List zE)).flatten)) ∧ (((4 : Int32) = 4) → (((1 : Int32) = 0 ∨ (1 : Int32) = 1) ∧ AW Z 0 0 104 [some (.ref 0), some (.int 4)] [.int 999, .int 0, .ref 0, .int 82, .ref 6] ([kR 0 (R_s_at_hasSigned v0 ((R_at v0) + 1) 1)] : List (List zE)).flatten)))) ∧ (¬ ((R_fault v0) ≤ 0) → AW Z 0 0 72 [some (.ref 0), some (.int 4)] [] ([kR 0 v0] : List (List zE)).flatten))) ∧ (¬ ((R_hasSigned v0) = 0) → AW Z 0 0 62 [some (.ref 0), some (.int 4)] [.int 3, .ref 0] ([kR 0 v0] : List (List zE)).flatten))))) ∧ (¬ ((0 : Int32) ≤ 4) → AW Z 0 0 27 [some (.ref 0), some (.int 4)] [.int 1, .ref 0] ([kR 0 v0] : List (List zE)).flatten))))
  refine ⟨fun c2 => ?_, fun c2 => ?_⟩
  · rw [if_pos c2] at hf
    obtain ⟨q3, h80, hf⟩ := zbind hf
    refine AW.callVc hZ hR hN (c_R_wordHere N v0 7 4 q3 h80) zMX12_wordHere_ok rfl rfl zK_BorrowedLivesModel_204 zV_X12_wordHere rfl [25] [0] [0, 1, 2, 3, 4, 5, 6, 7, 8, 9, 10, 11, 12, 13, 14, 15, 16, 17, 18, 19, 20, 21, 22, 23, 24] rfl rfl rfl (by decide) (by decide) (by omega) (by decide) (Nat.zero_le _) (Nat.zero_le _) rfl rfl rfl rfl rfl ?_
    rintro v cc ⟨rfl, rfl⟩
    refine ⟨_, rfl, rfl, ?_⟩
    show AW Z 0 0 20 [some (.ref 0), none] [.int q3] ([kR 0 v0] : List (List zE)).flatten
    refine AW.run hZ hRm [27, 62, 72, 104, 124] 400 ?_
    show (((0 ≤ q3) → ((¬ (q3 = 4) → (¬ ((83 + q3) < 0 ∨ 160 ≤ Int32.toNatClampNeg (83 + q3)) ∧ (((((R_towns v0) (Int32.toNatClampNeg (83 + q3))) < 0) → ((((R_fault v0) ≤ 0) → ((¬ (q3 = 4) → (¬ ((83 + q3) < 0 ∨ 160 ≤ Int32.toNatClampNeg (83 + q3)) ∧ AW Z 0 0 124 [some (.ref 0), some (.int q3)] [] ([kR 0 (R_s_at_towns v0 ((R_at v0) + 1) (upd (R_towns v0) (Int32.toNatClampNeg (83 + q3)) (R_codes v0)))] : List (List zE)).flatten)) ∧ ((q3 = 4) → (((1 : Int32) = 0 ∨ (1 : Int32) = 1) ∧ AW Z 0 0 104 [some (.ref 0), some (.int q3)] [.int 999, .int 0, .ref 0, .int 82, .ref 6] ([kR 0 (R_s_at_hasSigned v0 ((R_at v0) + 1) 1)] : List (List zE)).flatten)))) ∧ (¬ ((R_fault v0) ≤ 0) → AW Z 0 0 72 [some (.ref 0), some (.int q3)] [] ([kR 0 v0] : List (List zE)).flatten))) ∧ (¬ (((R_towns v0) (Int32.toNatClampNeg (83 + q3))) < 0) → AW Z 0 0 62 [some (.ref 0), some (.int q3)] [.int 3, .ref 0] ([kR 0 v0] : List (List zE)).flatten)))) ∧ ((q3 = 4) → ((((R_hasSigned v0) = 0) → ((((R_fault v0) ≤ 0) → ((¬ (q3 = 4) → (¬ ((83 + q3) < 0 ∨ 160 ≤ Int32.toNatClampNeg (83 + q3)) ∧ AW Z 0 0 124 [some (.ref 0), some (.int q3)] [] ([kR 0 (R_s_at_towns v0 ((R_at v0) + 1) (upd (R_towns v0) (Int32.toNatClampNeg (83 + q3)) (R_codes v0)))] : List (List zE)).flatten)) ∧ ((q3 = 4) → (((1 : Int32) = 0 ∨ (1 : Int32) = 1) ∧ AW Z 0 0 104 [some (.ref 0), some (.int q3)] [.int 999, .int 0, .ref 0, .int 82, .ref 6] ([kR 0 (R_s_at_hasSigned v0 ((R_at v0) + 1) 1)] : List (List zE)).flatten)))) ∧ (¬ ((R_fault v0) ≤ 0) → AW Z 0 0 72 [some (.ref 0), some (.int q3)] [] ([kR 0 v0] : List (List zE)).flatten))) ∧ (¬ ((R_hasSigned v0) = 0) → AW Z 0 0 62 [some (.ref 0), some (.int q3)] [.int 3, .ref 0] ([kR 0 v0] : List (List zE)).flatten))))) ∧ (¬ (0 ≤ q3) → AW Z 0 0 27 [some (.ref 0), some (.int q3)] [.int 1, .ref 0] ([kR 0 v0] : List (List zE)).flatten))
    refine ⟨fun c4 => ?_, fun c4 => ?_⟩
    · rw [if_pos c4] at hf
      refine ⟨fun c5 => ?_, fun c5 => ?_⟩
      · rw [if_neg c5] at hf
        obtain ⟨b35, hf⟩ := zneed hf
        refine ⟨b35, ?_⟩
        refine ⟨fun c6 => ?_, fun c6 => ?_⟩
        · rw [if_pos c6] at hf
          refine ⟨fun c7 => ?_, fun c7 => ?_⟩
          · rw [if_pos c7] at hf
            refine ⟨fun c8 => ?_, fun c8 => ?_⟩
            · rw [if_neg c8] at hf
              obtain ⟨b16, hf⟩ := zneed hf
              refine ⟨b16, ?_⟩
              replace hf := zlet_gen hf
              generalize ((upd (R_towns v0) (Int32.toNatClampNeg (83 + q3)) (R_codes v0)) : (Nat → Int32)) = z9 at hf ⊢
              as_aux_lemma =>
                refine AW.run hZ hRm [127] 400 ?_
                show AW Z 0 0 127 [some (.ref 0), some (.int q3)] [.int 2, .int q3, .ref 0] ([kR 0 (R_s_at_towns v0 ((R_at v0) + 1) z9)] : List (List zE)).flatten
                suffices H10 : AW Z 0 0 137 [some (.ref 0), none] [.int (if (q3 = 2) then 7 else 31), .ref 0] ([kR 0 (R_s_at_towns v0 ((R_at v0) + 1) z9)] : List (List zE)).flatten from by
                  refine AW.run hZ hRm [137] 400 ?_
                  show ((¬ (q3 = 2) → AW Z 0 0 137 [some (.ref 0), some (.int q3)] [.int 31, .ref 0] ([kR 0 (R_s_at_towns v0 ((R_at v0) + 1) z9)] : List (List zE)).flatten) ∧ ((q3 = 2) → AW Z 0 0 137 [some (.ref 0), some (.int q3)] [.int 7, .ref 0] ([kR 0 (R_s_at_towns v0 ((R_at v0) + 1) z9)] : List (List zE)).flatten))
                  refine ⟨fun c11 => ?_, fun c11 => ?_⟩
                  · refine AW.forget [true, false] ?_
                    show AW Z 0 0 137 [some (.ref 0), none] [.int 31, .ref 0] ([kR 0 (R_s_at_towns v0 ((R_at v0) + 1) z9)] : List (List zE)).flatten
                    simpa only [if_neg c11] using H10
                  · refine AW.forget [true, false] ?_
                    show AW Z 0 0 137 [some (.ref 0), none] [.int 7, .ref 0] ([kR 0 (R_s_at_towns v0 ((R_at v0) + 1) z9)] : List (List zE)).flatten
                    simpa only [if_pos c11] using H10
                refine AW.run hZ hRm [142] 400 ?_
                show AW Z 0 0 142 [some (.ref 0), none] [.int 0, .ref 0] ([kR 0 (R_s_at_towns_factsHere v0 ((R_at v0) + 1) z9 (if (q3 = 2) then 7 else 31))] : List (List zE)).flatten
                obtain ⟨q12, h15, hf⟩ := zbind hf
                refine AW.callVc hZ hR hN (c_R_all 64 N (R_s_at_towns_factsHere v0 ((R_at v0) + 1) z9 (if (q3 = 2) then 7 else 31)) 0 q12 h15) zMX12_all_ok rfl rfl zK_BorrowedLivesModel_259 zV_X12_all rfl [25] [0] [0, 1, 2, 3, 4, 5, 6, 7, 8, 9, 10, 11, 12, 13, 14, 15, 16, 17, 18, 19, 20, 21, 22, 23, 24] rfl rfl rfl (by decide) (by decide) (by omega) (by decide) (Nat.zero_le _) (Nat.zero_le _) rfl rfl rfl rfl rfl ?_
                rintro v cc ⟨rfl, rfl⟩
                refine ⟨_, rfl, rfl, ?_⟩
                show AW Z 0 0 145 [some (.ref 0), none] [] ([kR 0 (R_s_at_fault_towns_op_arg_codes_factsHere v0 q12.1 q12.2.1 z9 q12.2.2.1 q12.2.2.2.1 q12.2.2.2.2 (if (q3 = 2) then 7 else 31))] : List (List zE)).flatten
                refine AW.run hZ hRm [148] 400 ?_
                show AW Z 0 0 148 [some (.ref 0), none] [.int 0, .int 0, .ref 0] ([kR 0 (R_s_at_fault_towns_op_arg_codes_factsHere v0 q12.1 q12.2.1 z9 q12.2.2.1 q12.2.2.2.1 q12.2.2.2.2 (if (q3 = 2) then 7 else 31))] : List (List zE)).flatten
                obtain ⟨q13, h14, hf⟩ := zbind hf
                refine AW.callVc hZ hR hN (c_R_emit N (R_s_at_fault_towns_op_arg_codes_factsHere v0 q12.1 q12.2.1 z9 q12.2.2.1 q12.2.2.2.1 q12.2.2.2.2 (if (q3 = 2) then 7 else 31)) 0 0 q13 h14) zMX12_emit_ok rfl rfl zK_BorrowedLivesModel_262 zV_X12_emit rfl [25] [0] [0, 1, 2, 3, 4, 5, 6, 7, 8, 9, 10, 11, 12, 13, 14, 15, 16, 17, 18, 19, 20, 21, 22, 23, 24] rfl rfl rfl (by decide) (by decide) (by omega) (by decide) (Nat.zero_le _) (Nat.zero_le _) rfl rfl rfl rfl rfl ?_
                rintro v cc ⟨rfl, rfl⟩
                refine ⟨_, rfl, rfl, ?_⟩
                show AW Z 0 0 151 [some (.ref 0), none] [] ([kR 0 (R_s_at_fault_towns_op_arg_codes_factsHere v0 q12.1 q12.2.1 z9 q13.1 q13.2.1 q13.2.2 (if (q3 = 2) then 7 else 31))] : List (List zE)).flatten
                cases hf
                exact AW.vret hZ hE rfl rfl rfl (Nat.le_refl 0) (Nat.le_refl 0) rfl ⟨rfl, rfl⟩
            · rw [if_pos c8] at hf
              refine ⟨(by decide), ?_⟩
              obtain ⟨q17, h19, hf⟩ := zbind hf
              refine AW.callVc hZ hR hN (c_R_takeNumber N (R_s_at_hasSigned v0 ((R_at v0) + 1) 1) 0 999 q17 h19) zMX12_takeNumber_ok rfl rfl zK_BorrowedLivesModel_200 zV_X12_takeNumber rfl [25] [0] [0, 1, 2, 3, 4, 5, 6, 7, 8, 9, 10, 11, 12, 13, 14, 15, 16, 17, 18, 19, 20, 21, 22, 23, 24] rfl rfl rfl (by decide) (by decide) (by omega) (by decide) (Nat.zero_le _) (Nat.zero_le _) rfl rfl rfl rfl rfl ?_
              rintro v cc ⟨rfl, rfl⟩
              refine ⟨_, rfl, rfl, ?_⟩
              show AW Z 0 0 107 [some (.ref 0), some (.int q3)] [.int q17.1, .int 82, .ref 6] ([kR 0 (R_s_at_fault_hasSigned v0 q17.2.1 q17.2.2 1)] : List (List zE)).flatten
              refine AW.run hZ hRm [108] 400 ?_
              show (¬ ((82 : Int32) < 0 ∨ 160 ≤ Int32.toNatClampNeg 82) ∧ AW Z 0 0 108 [some (.ref 0), some (.int q3)] [] ([kR 0 (R_s_at_fault_towns_hasSigned v0 q17.2.1 q17.2.2 (upd (R_towns v0) (Int32.toNatClampNeg 82) q17.1) 1)] : List (List zE)).flatten)
              refine ⟨(by decide), ?_⟩
              replace hf := zlet_gen hf
              generalize ((upd (R_towns v0) (Int32.toNatClampNeg 82) q17.1) : (Nat → Int32)) = z18 at hf ⊢
              as_aux_lemma =>
                refine AW.run hZ hRm [151] 400 ?_
                show AW Z 0 0 151 [some (.ref 0), some (.int q3)] [] ([kR 0 (R_s_at_fault_towns_hasSigned v0 q17.2.1 q17.2.2 z18 1)] : List (List zE)).flatten
                cases hf
                exact AW.vret hZ hE rfl rfl rfl (Nat.le_refl 0) (Nat.le_refl 0) rfl ⟨rfl, rfl⟩
          · rw [if_neg c7] at hf
            cases hf
            exact AW.vret hZ hE rfl rfl rfl (Nat.le_refl 0) (Nat.le_refl 0) rfl ⟨rfl, rfl⟩
        · rw [if_neg c6] at hf
          obtain ⟨q20, h34, hf⟩ := zbind hf
          refine AW.callVc hZ hR hN (c_R_wrong N v0 3 q20 h34) zMX12_wrong_ok rfl rfl zK_BorrowedLivesModel_188 zV_X12_wrong rfl [25] [0] [0, 1, 2, 3, 4, 5, 6, 7, 8, 9, 10, 11, 12, 13, 14, 15, 16, 17, 18, 19, 20, 21, 22, 23, 24] rfl rfl rfl (by decide) (by decide) (by omega) (by decide) (Nat.zero_le _) (Nat.zero_le _) rfl rfl rfl rfl rfl ?_
          rintro v cc ⟨rfl, rfl⟩
          refine ⟨_, rfl, rfl, ?_⟩
          show AW Z 0 0 65 [some (.ref 0), some (.int q3)] [] ([kR 0 (R_fault_s v0 q20)] : List (List zE)).flatten
          refine AW.run hZ hRm [72, 104, 124] 400 ?_
          show (((q20 ≤ 0) → ((¬ (q3 = 4) → (¬ ((83 + q3) < 0 ∨ 160 ≤ Int32.toNatClampNeg (83 + q3)) ∧ AW Z 0 0 124 [some (.ref 0), some (.int q3)] [] ([kR 0 (R_s_at_fault_towns v0 ((R_at v0) + 1) q20 (upd (R_towns v0) (Int32.toNatClampNeg (83 + q3)) (R_codes v0)))] : List (List zE)).flatten)) ∧ ((q3 = 4) → (((1 : Int32) = 0 ∨ (1 : Int32) = 1) ∧ AW Z 0 0 104 [some (.ref 0), some (.int q3)] [.int 999, .int 0, .ref 0, .int 82, .ref 6] ([kR 0 (R_s_at_fault_hasSigned v0 ((R_at v0) + 1) q20 1)] : List (List zE)).flatten)))) ∧ (¬ (q20 ≤ 0) → AW Z 0 0 72 [some (.ref 0), some (.int q3)] [] ([kR 0 (R_fault_s v0 q20)] : List (List zE)).flatten))
          refine ⟨fun c21 => ?_, fun c21 => ?_⟩
          · rw [if_pos c21] at hf
            refine ⟨fun c22 => ?_, fun c22 => ?_⟩
            · rw [if_neg c22] at hf
              obtain ⟨b30, hf⟩ := zneed hf
              refine ⟨b30, ?_⟩
              replace hf := zlet_gen hf
              generalize ((upd (R_towns v0) (Int32.toNatClampNeg (83 + q3)) (R_codes v0)) : (Nat → Int32)) = z23 at hf ⊢
              as_aux_lemma =>
                refine AW.run hZ hRm [127] 400 ?_
                show AW Z 0 0 127 [some (.ref 0), some (.int q3)] [.int 2, .int q3, .ref 0] ([kR 0 (R_s_at_fault_towns v0 ((R_at v0) + 1) q20 z23)] : List (List zE)).flatten
                suffices H24 : AW Z 0 0 137 [some (.ref 0), none] [.int (if (q3 = 2) then 7 else 31), .ref 0] ([kR 0 (R_s_at_fault_towns v0 ((R_at v0) + 1) q20 z23)] : List (List zE)).flatten from by
                  refine AW.run hZ hRm [137] 400 ?_
                  show ((¬ (q3 = 2) → AW Z 0 0 137 [some (.ref 0), some (.int q3)] [.int 31, .ref 0] ([kR 0 (R_s_at_fault_towns v0 ((R_at v0) + 1) q20 z23)] : List (List zE)).flatten) ∧ ((q3 = 2) → AW Z 0 0 137 [some (.ref 0), some (.int q3)] [.int 7, .ref 0] ([kR 0 (R_s_at_fault_towns v0 ((R_at v0) + 1) q20 z23)] : List (List zE)).flatten))
                  refine ⟨fun c25 => ?_, fun c25 => ?_⟩
                  · refine AW.forget [true, false] ?_
                    show AW Z 0 0 137 [some (.ref 0), none] [.int 31, .ref 0] ([kR 0 (R_s_at_fault_towns v0 ((R_at v0) + 1) q20 z23)] : List (List zE)).flatten
                    simpa only [if_neg c25] using H24
                  · refine AW.forget [true, false] ?_
                    show AW Z 0 0 137 [some (.ref 0), none] [.int 7, .ref 0] ([kR 0 (R_s_at_fault_towns v0 ((R_at v0) + 1) q20 z23)] : List (List zE)).flatten
                    simpa only [if_pos c25] using H24
                refine AW.run hZ hRm [142] 400 ?_
                show AW Z 0 0 142 [some (.ref 0), none] [.int 0, .ref 0] ([kR 0 (R_s_at_fault_towns_factsHere v0 ((R_at v0) + 1) q20 z23 (if (q3 = 2) then 7 else 31))] : List (List zE)).flatten
                obtain ⟨q26, h29, hf⟩ := zbind hf
                refine AW.callVc hZ hR hN (c_R_all 64 N (R_s_at_fault_towns_factsHere v0 ((R_at v0) + 1) q20 z23 (if (q3 = 2) then 7 else 31)) 0 q26 h29) zMX12_all_ok rfl rfl zK_BorrowedLivesModel_259 zV_X12_all rfl [25] [0] [0, 1, 2, 3, 4, 5, 6, 7, 8, 9, 10, 11, 12, 13, 14, 15, 16, 17, 18, 19, 20, 21, 22, 23, 24] rfl rfl rfl (by decide) (by decide) (by omega) (by decide) (Nat.zero_le _) (Nat.zero_le _) rfl rfl rfl rfl rfl ?_
                rintro v cc ⟨rfl, rfl⟩
                refine ⟨_, rfl, rfl, ?_⟩
                show AW Z 0 0 145 [some (.ref 0), none] [] ([kR 0 (R_s_at_fault_towns_op_arg_codes_factsHere v0 q26.1 q26.2.1 z23 q26.2.2.1 q26.2.2.2.1 q26.2.2.2.2 (if (q3 = 2) then 7 else 31))] : List (List zE)).flatten
                refine AW.run hZ hRm [148] 400 ?_
                show AW Z 0 0 148 [some (.ref 0), none] [.int 0, .int 0, .ref 0] ([kR 0 (R_s_at_fault_towns_op_arg_codes_factsHere v0 q26.1 q26.2.1 z23 q26.2.2.1 q26.2.2.2.1 q26.2.2.2.2 (if (q3 = 2) then 7 else 31))] : List (List zE)).flatten
                obtain ⟨q27, h28, hf⟩ := zbind hf
                refine AW.callVc hZ hR hN (c_R_emit N (R_s_at_fault_towns_op_arg_codes_factsHere v0 q26.1 q26.2.1 z23 q26.2.2.1 q26.2.2.2.1 q26.2.2.2.2 (if (q3 = 2) then 7 else 31)) 0 0 q27 h28) zMX12_emit_ok rfl rfl zK_BorrowedLivesModel_262 zV_X12_emit rfl [25] [0] [0, 1, 2, 3, 4, 5, 6, 7, 8, 9, 10, 11, 12, 13, 14, 15, 16, 17, 18, 19, 20, 21, 22, 23, 24] rfl rfl rfl (by decide) (by decide) (by omega) (by decide) (Nat.zero_le _) (Nat.zero_le _) rfl rfl rfl rfl rfl ?_
                rintro v cc ⟨rfl, rfl⟩
                refine ⟨_, rfl, rfl, ?_⟩
                show AW Z 0 0 151 [some (.ref 0), none] [] ([kR 0 (R_s_at_fault_towns_op_arg_codes_factsHere v0 q26.1 q26.2.1 z23 q27.1 q27.2.1 q27.2.2 (if (q3 = 2) then 7 else 31))] : List (List zE)).flatten
                cases hf
                exact AW.vret hZ hE rfl rfl rfl (Nat.le_refl 0) (Nat.le_refl 0) rfl ⟨rfl, rfl⟩
            · rw [if_pos c22] at hf
              refine ⟨(by decide), ?_⟩
              obtain ⟨q31, h33, hf⟩ := zbind hf
              refine AW.callVc hZ hR hN (c_R_takeNumber N (R_s_at_fault_hasSigned v0 ((R_at v0) + 1) q20 1) 0 999 q31 h33) zMX12_takeNumber_ok rfl rfl zK_BorrowedLivesModel_200 zV_X12_takeNumber rfl [25] [0] [0, 1, 2, 3, 4, 5, 6, 7, 8, 9, 10, 11, 12, 13, 14, 15, 16, 17, 18, 19, 20, 21, 22, 23, 24] rfl rfl rfl (by decide) (by decide) (by omega) (by decide) (Nat.zero_le _) (Nat.zero_le _) rfl rfl rfl rfl rfl ?_
              rintro v cc ⟨rfl, rfl⟩
              refine ⟨_, rfl, rfl, ?_⟩
              show AW Z 0 0 107 [some (.ref 0), some (.int q3)] [.int q31.1, .int 82, .ref 6] ([kR 0 (R_s_at_fault_hasSigned v0 q31.2.1 q31.2.2 1)] : List (List zE)).flatten
              refine AW.run hZ hRm [108] 400 ?_
              show (¬ ((82 : Int32) < 0 ∨ 160 ≤ Int32.toNatClampNeg 82) ∧ AW Z 0 0 108 [some (.ref 0), some (.int q3)] [] ([kR 0 (R_s_at_fault_towns_hasSigned v0 q31.2.1 q31.2.2 (upd (R_towns v0) (Int32.toNatClampNeg 82) q31.1) 1)] : List (List zE)).flatten)
              refine ⟨(by decide), ?_⟩
              replace hf := zlet_gen hf
              generalize ((upd (R_towns v0) (Int32.toNatClampNeg 82) q31.1) : (Nat → Int32)) = z32 at hf ⊢
              as_aux_lemma =>
                refine AW.run hZ hRm [151] 400 ?_
                show AW Z 0 0 151 [some (.ref 0), some (.int q3)] [] ([kR 0 (R_s_at_fault_towns_hasSigned v0 q31.2.1 q31.2.2 z32 1)] : List (List zE)).flatten
                cases hf
                exact AW.vret hZ hE rfl rfl rfl (Nat.le_refl 0) (Nat.le_refl 0) rfl ⟨rfl, rfl⟩
          · rw [if_neg c21] at hf
            cases hf
            exact AW.vret hZ hE rfl rfl rfl (Nat.le_refl 0) (Nat.le_refl 0) rfl ⟨rfl, rfl⟩
      · rw [if_pos c5] at hf
        refine ⟨fun c36 => ?_, fun c36 => ?_⟩
        · rw [if_pos c36] at hf
          refine ⟨fun c37 => ?_, fun c37 => ?_⟩
          · rw [if_pos c37] at hf
            refine ⟨fun c38 => ?_, fun c38 => ?_⟩
            · rw [if_neg c38] at hf
              obtain ⟨b46, hf⟩ := zneed hf
              refine ⟨b46, ?_⟩
              replace hf := zlet_gen hf
              generalize ((upd (R_towns v0) (Int32.toNatClampNeg (83 + q3)) (R_codes v0)) : (Nat → Int32)) = z39 at hf ⊢
              as_aux_lemma =>
                refine AW.run hZ hRm [127] 400 ?_
                show AW Z 0 0 127 [some (.ref 0), some (.int q3)] [.int 2, .int q3, .ref 0] ([kR 0 (R_s_at_towns v0 ((R_at v0) + 1) z39)] : List (List zE)).flatten
                suffices H40 : AW Z 0 0 137 [some (.ref 0), none] [.int (if (q3 = 2) then 7 else 31), .ref 0] ([kR 0 (R_s_at_towns v0 ((R_at v0) + 1) z39)] : List (List zE)).flatten from by
                  refine AW.run hZ hRm [137] 400 ?_
                  show ((¬ (q3 = 2) → AW Z 0 0 137 [some (.ref 0), some (.int q3)] [.int 31, .ref 0] ([kR 0 (R_s_at_towns v0 ((R_at v0) + 1) z39)] : List (List zE)).flatten) ∧ ((q3 = 2) → AW Z 0 0 137 [some (.ref 0), some (.int q3)] [.int 7, .ref 0] ([kR 0 (R_s_at_towns v0 ((R_at v0) + 1) z39)] : List (List zE)).flatten))
                  refine ⟨fun c41 => ?_, fun c41 => ?_⟩
                  · refine AW.forget [true, false] ?_
                    show AW Z 0 0 137 [some (.ref 0), none] [.int 31, .ref 0] ([kR 0 (R_s_at_towns v0 ((R_at v0) + 1) z39)] : List (List zE)).flatten
                    simpa only [if_neg c41] using H40
                  · refine AW.forget [true, false] ?_
                    show AW Z 0 0 137 [some (.ref 0), none] [.int 7, .ref 0] ([kR 0 (R_s_at_towns v0 ((R_at v0) + 1) z39)] : List (List zE)).flatten
                    simpa only [if_pos c41] using H40
                refine AW.run hZ hRm [142] 400 ?_
                show AW Z 0 0 142 [some (.ref 0), none] [.int 0, .ref 0] ([kR 0 (R_s_at_towns_factsHere v0 ((R_at v0) + 1) z39 (if (q3 = 2) then 7 else 31))] : List (List zE)).flatten
                obtain ⟨q42, h45, hf⟩ := zbind hf
                refine AW.callVc hZ hR hN (c_R_all 64 N (R_s_at_towns_factsHere v0 ((R_at v0) + 1) z39 (if (q3 = 2) then 7 else 31)) 0 q42 h45) zMX12_all_ok rfl rfl zK_BorrowedLivesModel_259 zV_X12_all rfl [25] [0] [0, 1, 2, 3, 4, 5, 6, 7, 8, 9, 10, 11, 12, 13, 14, 15, 16, 17, 18, 19, 20, 21, 22, 23, 24] rfl rfl rfl (by decide) (by decide) (by omega) (by decide) (Nat.zero_le _) (Nat.zero_le _) rfl rfl rfl rfl rfl ?_
                rintro v cc ⟨rfl, rfl⟩
                refine ⟨_, rfl, rfl, ?_⟩
                show AW Z 0 0 145 [some (.ref 0), none] [] ([kR 0 (R_s_at_fault_towns_op_arg_codes_factsHere v0 q42.1 q42.2.1 z39 q42.2.2.1 q42.2.2.2.1 q42.2.2.2.2 (if (q3 = 2) then 7 else 31))] : List (List zE)).flatten
                refine AW.run hZ hRm [148] 400 ?_
                show AW Z 0 0 148 [some (.ref 0), none] [.int 0, .int 0, .ref 0] ([kR 0 (R_s_at_fault_towns_op_arg_codes_factsHere v0 q42.1 q42.2.1 z39 q42.2.2.1 q42.2.2.2.1 q42.2.2.2.2 (if (q3 = 2) then 7 else 31))] : List (List zE)).flatten
                obtain ⟨q43, h44, hf⟩ := zbind hf
                refine AW.callVc hZ hR hN (c_R_emit N (R_s_at_fault_towns_op_arg_codes_factsHere v0 q42.1 q42.2.1 z39 q42.2.2.1 q42.2.2.2.1 q42.2.2.2.2 (if (q3 = 2) then 7 else 31)) 0 0 q43 h44) zMX12_emit_ok rfl rfl zK_BorrowedLivesModel_262 zV_X12_emit rfl [25] [0] [0, 1, 2, 3, 4, 5, 6, 7, 8, 9, 10, 11, 12, 13, 14, 15, 16, 17, 18, 19, 20, 21, 22, 23, 24] rfl rfl rfl (by decide) (by decide) (by omega) (by decide) (Nat.zero_le _) (Nat.zero_le _) rfl rfl rfl rfl rfl ?_
                rintro v cc ⟨rfl, rfl⟩
                refine ⟨_, rfl, rfl, ?_⟩
                show AW Z 0 0 151 [some (.ref 0), none] [] ([kR 0 (R_s_at_fault_towns_op_arg_codes_factsHere v0 q42.1 q42.2.1 z39 q43.1 q43.2.1 q43.2.2 (if (q3 = 2) then 7 else 31))] : List (List zE)).flatten
                cases hf
                exact AW.vret hZ hE rfl rfl rfl (Nat.le_refl 0) (Nat.le_refl 0) rfl ⟨rfl, rfl⟩
            · rw [if_pos c38] at hf
              refine ⟨(by decide), ?_⟩
              obtain ⟨q47, h49, hf⟩ := zbind hf
              refine AW.callVc hZ hR hN (c_R_takeNumber N (R_s_at_hasSigned v0 ((R_at v0) + 1) 1) 0 999 q47 h49) zMX12_takeNumber_ok rfl rfl zK_BorrowedLivesModel_200 zV_X12_takeNumber rfl [25] [0] [0, 1, 2, 3, 4, 5, 6, 7, 8, 9, 10, 11, 12, 13, 14, 15, 16, 17, 18, 19, 20, 21, 22, 23, 24] rfl rfl rfl (by decide) (by decide) (by omega) (by decide) (Nat.zero_le _) (Nat.zero_le _) rfl rfl rfl rfl rfl ?_
              rintro v cc ⟨rfl, rfl⟩
              refine ⟨_, rfl, rfl, ?_⟩
              show AW Z 0 0 107 [some (.ref 0), some (.int q3)] [.int q47.1, .int 82, .ref 6] ([kR 0 (R_s_at_fault_hasSigned v0 q47.2.1 q47.2.2 1)] : List (List zE)).flatten
              refine AW.run hZ hRm [108] 400 ?_
              show (¬ ((82 : Int32) < 0 ∨ 160 ≤ Int32.toNatClampNeg 82) ∧ AW Z 0 0 108 [some (.ref 0), some (.int q3)] [] ([kR 0 (R_s_at_fault_towns_hasSigned v0 q47.2.1 q47.2.2 (upd (R_towns v0) (Int32.toNatClampNeg 82) q47.1) 1)] : List (List zE)).flatten)
              refine ⟨(by decide), ?_⟩
              replace hf := zlet_gen hf
              generalize ((upd (R_towns v0) (Int32.toNatClampNeg 82) q47.1) : (Nat → Int32)) = z48 at hf ⊢
              as_aux_lemma =>
                refine AW.run hZ hRm [151] 400 ?_
                show AW Z 0 0 151 [some (.ref 0), some (.int q3)] [] ([kR 0 (R_s_at_fault_towns_hasSigned v0 q47.2.1 q47.2.2 z48 1)] : List (List zE)).flatten
                cases hf
                exact AW.vret hZ hE rfl rfl rfl (Nat.le_refl 0) (Nat.le_refl 0) rfl ⟨rfl, rfl⟩
          · rw [if_neg c37] at hf
            cases hf
            exact AW.vret hZ hE rfl rfl rfl (Nat.le_refl 0) (Nat.le_refl 0) rfl ⟨rfl, rfl⟩
        · rw [if_neg c36] at hf
          obtain ⟨q50, h64, hf⟩ := zbind hf
          refine AW.callVc hZ hR hN (c_R_wrong N v0 3 q50 h64) zMX12_wrong_ok rfl rfl zK_BorrowedLivesModel_188 zV_X12_wrong rfl [25] [0] [0, 1, 2, 3, 4, 5, 6, 7, 8, 9, 10, 11, 12, 13, 14, 15, 16, 17, 18, 19, 20, 21, 22, 23, 24] rfl rfl rfl (by decide) (by decide) (by omega) (by decide) (Nat.zero_le _) (Nat.zero_le _) rfl rfl rfl rfl rfl ?_
          rintro v cc ⟨rfl, rfl⟩
          refine ⟨_, rfl, rfl, ?_⟩
          show AW Z 0 0 65 [some (.ref 0), some (.int q3)] [] ([kR 0 (R_fault_s v0 q50)] : List (List zE)).flatten
          refine AW.run hZ hRm [72, 104, 124] 400 ?_
          show (((q50 ≤ 0) → ((¬ (q3 = 4) → (¬ ((83 + q3) < 0 ∨ 160 ≤ Int32.toNatClampNeg (83 + q3)) ∧ AW Z 0 0 124 [some (.ref 0), some (.int q3)] [] ([kR 0 (R_s_at_fault_towns v0 ((R_at v0) + 1) q50 (upd (R_towns v0) (Int32.toNatClampNeg (83 + q3)) (R_codes v0)))] : List (List zE)).flatten)) ∧ ((q3 = 4) → (((1 : Int32) = 0 ∨ (1 : Int32) = 1) ∧ AW Z 0 0 104 [some (.ref 0), some (.int q3)] [.int 999, .int 0, .ref 0, .int 82, .ref 6] ([kR 0 (R_s_at_fault_hasSigned v0 ((R_at v0) + 1) q50 1)] : List (List zE)).flatten)))) ∧ (¬ (q50 ≤ 0) → AW Z 0 0 72 [some (.ref 0), some (.int q3)] [] ([kR 0 (R_fault_s v0 q50)] : List (List zE)).flatten))
          refine ⟨fun c51 => ?_, fun c51 => ?_⟩
          · rw [if_pos c51] at hf
            refine ⟨fun c52 => ?_, fun c52 => ?_⟩
            · rw [if_neg c52] at hf
              obtain ⟨b60, hf⟩ := zneed hf
              refine ⟨b60, ?_⟩
              replace hf := zlet_gen hf
              generalize ((upd (R_towns v0) (Int32.toNatClampNeg (83 + q3)) (R_codes v0)) : (Nat → Int32)) = z53 at hf ⊢
              as_aux_lemma =>
                refine AW.run hZ hRm [127] 400 ?_
                show AW Z 0 0 127 [some (.ref 0), some (.int q3)] [.int 2, .int q3, .ref 0] ([kR 0 (R_s_at_fault_towns v0 ((R_at v0) + 1) q50 z53)] : List (List zE)).flatten
                suffices H54 : AW Z 0 0 137 [some (.ref 0), none] [.int (if (q3 = 2) then 7 else 31), .ref 0] ([kR 0 (R_s_at_fault_towns v0 ((R_at v0) + 1) q50 z53)] : List (List zE)).flatten from by
                  refine AW.run hZ hRm [137] 400 ?_
                  show ((¬ (q3 = 2) → AW Z 0 0 137 [some (.ref 0), some (.int q3)] [.int 31, .ref 0] ([kR 0 (R_s_at_fault_towns v0 ((R_at v0) + 1) q50 z53)] : List (List zE)).flatten) ∧ ((q3 = 2) → AW Z 0 0 137 [some (.ref 0), some (.int q3)] [.int 7, .ref 0] ([kR 0 (R_s_at_fault_towns v0 ((R_at v0) + 1) q50 z53)] : List (List zE)).flatten))
                  refine ⟨fun c55 => ?_, fun c55 => ?_⟩
                  · refine AW.forget [true, false] ?_
                    show AW Z 0 0 137 [some (.ref 0), none] [.int 31, .ref 0] ([kR 0 (R_s_at_fault_towns v0 ((R_at v0) + 1) q50 z53)] : List (List zE)).flatten
                    simpa only [if_neg c55] using H54
                  · refine AW.forget [true, false] ?_
                    show AW Z 0 0 137 [some (.ref 0), none] [.int 7, .ref 0] ([kR 0 (R_s_at_fault_towns v0 ((R_at v0) + 1) q50 z53)] : List (List zE)).flatten
                    simpa only [if_pos c55] using H54
                refine AW.run hZ hRm [142] 400 ?_
                show AW Z 0 0 142 [some (.ref 0), none] [.int 0, .ref 0] ([kR 0 (R_s_at_fault_towns_factsHere v0 ((R_at v0) + 1) q50 z53 (if (q3 = 2) then 7 else 31))] : List (List zE)).flatten
                obtain ⟨q56, h59, hf⟩ := zbind hf
                refine AW.callVc hZ hR hN (c_R_all 64 N (R_s_at_fault_towns_factsHere v0 ((R_at v0) + 1) q50 z53 (if (q3 = 2) then 7 else 31)) 0 q56 h59) zMX12_all_ok rfl rfl zK_BorrowedLivesModel_259 zV_X12_all rfl [25] [0] [0, 1, 2, 3, 4, 5, 6, 7, 8, 9, 10, 11, 12, 13, 14, 15, 16, 17, 18, 19, 20, 21, 22, 23, 24] rfl rfl rfl (by decide) (by decide) (by omega) (by decide) (Nat.zero_le _) (Nat.zero_le _) rfl rfl rfl rfl rfl ?_
                rintro v cc ⟨rfl, rfl⟩
                refine ⟨_, rfl, rfl, ?_⟩
                show AW Z 0 0 145 [some (.ref 0), none] [] ([kR 0 (R_s_at_fault_towns_op_arg_codes_factsHere v0 q56.1 q56.2.1 z53 q56.2.2.1 q56.2.2.2.1 q56.2.2.2.2 (if (q3 = 2) then 7 else 31))] : List (List zE)).flatten
                refine AW.run hZ hRm [148] 400 ?_
                show AW Z 0 0 148 [some (.ref 0), none] [.int 0, .int 0, .ref 0] ([kR 0 (R_s_at_fault_towns_op_arg_codes_factsHere v0 q56.1 q56.2.1 z53 q56.2.2.1 q56.2.2.2.1 q56.2.2.2.2 (if (q3 = 2) then 7 else 31))] : List (List zE)).flatten
                obtain ⟨q57, h58, hf⟩ := zbind hf
                refine AW.callVc hZ hR hN (c_R_emit N (R_s_at_fault_towns_op_arg_codes_factsHere v0 q56.1 q56.2.1 z53 q56.2.2.1 q56.2.2.2.1 q56.2.2.2.2 (if (q3 = 2) then 7 else 31)) 0 0 q57 h58) zMX12_emit_ok rfl rfl zK_BorrowedLivesModel_262 zV_X12_emit rfl [25] [0] [0, 1, 2, 3, 4, 5, 6, 7, 8, 9, 10, 11, 12, 13, 14, 15, 16, 17, 18, 19, 20, 21, 22, 23, 24] rfl rfl rfl (by decide) (by decide) (by omega) (by decide) (Nat.zero_le _) (Nat.zero_le _) rfl rfl rfl rfl rfl ?_
                rintro v cc ⟨rfl, rfl⟩
                refine ⟨_, rfl, rfl, ?_⟩
                show AW Z 0 0 151 [some (.ref 0), none] [] ([kR 0 (R_s_at_fault_towns_op_arg_codes_factsHere v0 q56.1 q56.2.1 z53 q57.1 q57.2.1 q57.2.2 (if (q3 = 2) then 7 else 31))] : List (List zE)).flatten
                cases hf
                exact AW.vret hZ hE rfl rfl rfl (Nat.le_refl 0) (Nat.le_refl 0) rfl ⟨rfl, rfl⟩
            · rw [if_pos c52] at hf
              refine ⟨(by decide), ?_⟩
              obtain ⟨q61, h63, hf⟩ := zbind hf
              refine AW.callVc hZ hR hN (c_R_takeNumber N (R_s_at_fault_hasSigned v0 ((R_at v0) + 1) q50 1) 0 999 q61 h63) zMX12_takeNumber_ok rfl rfl zK_BorrowedLivesModel_200 zV_X12_takeNumber rfl [25] [0] [0, 1, 2, 3, 4, 5, 6, 7, 8, 9, 10, 11, 12, 13, 14, 15, 16, 17, 18, 19, 20, 21, 22, 23, 24] rfl rfl rfl (by decide) (by decide) (by omega) (by decide) (Nat.zero_le _) (Nat.zero_le _) rfl rfl rfl rfl rfl ?_
              rintro v cc ⟨rfl, rfl⟩
              refine ⟨_, rfl, rfl, ?_⟩
              show AW Z 0 0 107 [some (.ref 0), some (.int q3)] [.int q61.1, .int 82, .ref 6] ([kR 0 (R_s_at_fault_hasSigned v0 q61.2.1 q61.2.2 1)] : List (List zE)).flatten
              refine AW.run hZ hRm [108] 400 ?_
              show (¬ ((82 : Int32) < 0 ∨ 160 ≤ Int32.toNatClampNeg 82) ∧ AW Z 0 0 108 [some (.ref 0), some (.int q3)] [] ([kR 0 (R_s_at_fault_towns_hasSigned v0 q61.2.1 q61.2.2 (upd (R_towns v0) (Int32.toNatClampNeg 82) q61.1) 1)] : List (List zE)).flatten)
              refine ⟨(by decide), ?_⟩
              replace hf := zlet_gen hf
              generalize ((upd (R_towns v0) (Int32.toNatClampNeg 82) q61.1) : (Nat → Int32)) = z62 at hf ⊢
              as_aux_lemma =>
                refine AW.run hZ hRm [151] 400 ?_
                show AW Z 0 0 151 [some (.ref 0), some (.int q3)] [] ([kR 0 (R_s_at_fault_towns_hasSigned v0 q61.2.1 q61.2.2 z62 1)] : List (List zE)).flatten
                cases hf
                exact AW.vret hZ hE rfl rfl rfl (Nat.le_refl 0) (Nat.le_refl 0) rfl ⟨rfl, rfl⟩
          · rw [if_neg c51] at hf
            cases hf
            exact AW.vret hZ hE rfl rfl rfl (Nat.le_refl 0) (Nat.le_refl 0) rfl ⟨rfl, rfl⟩
    · rw [if_neg c4] at hf
      obtain ⟨q65, h79, hf⟩ := zbind hf
      refine AW.callVc hZ hR hN (c_R_wrong N v0 1 q65 h79) zMX12_wrong_ok rfl rfl zK_BorrowedLivesModel_188 zV_X12_wrong rfl [25] [0] [0, 1, 2, 3, 4, 5, 6, 7, 8, 9, 10, 11, 12, 13, 14, 15, 16, 17, 18, 19, 20, 21, 22, 23, 24] rfl rfl rfl (by decide) (by decide) (by omega) (by decide) (Nat.zero_le _) (Nat.zero_le _) rfl rfl rfl rfl rfl ?_
      rintro v cc ⟨rfl, rfl⟩
      refine ⟨_, rfl, rfl, ?_⟩
      show AW Z 0 0 30 [some (.ref 0), some (.int q3)] [] ([kR 0 (R_fault_s v0 q65)] : List (List zE)).flatten
      refine AW.run hZ hRm [72, 104, 124] 400 ?_
      show (((q65 ≤ 0) → ((¬ (q3 = 4) → (¬ ((83 + q3) < 0 ∨ 160 ≤ Int32.toNatClampNeg (83 + q3)) ∧ AW Z 0 0 124 [some (.ref 0), some (.int q3)] [] ([kR 0 (R_s_at_fault_towns v0 ((R_at v0) + 1) q65 (upd (R_towns v0) (Int32.toNatClampNeg (83 + q3)) (R_codes v0)))] : List (List zE)).flatten)) ∧ ((q3 = 4) → (((1 : Int32) = 0 ∨ (1 : Int32) = 1) ∧ AW Z 0 0 104 [some (.ref 0), some (.int q3)] [.int 999, .int 0, .ref 0, .int 82, .ref 6] ([kR 0 (R_s_at_fault_hasSigned v0 ((R_at v0) + 1) q65 1)] : List (List zE)).flatten)))) ∧ (¬ (q65 ≤ 0) → AW Z 0 0 72 [some (.ref 0), some (.int q3)] [] ([kR 0 (R_fault_s v0 q65)] : List (List zE)).flatten))
      refine ⟨fun c66 => ?_, fun c66 => ?_⟩
      · rw [if_pos c66] at hf
        refine ⟨fun c67 => ?_, fun c67 => ?_⟩
        · rw [if_neg c67] at hf
          obtain ⟨b75, hf⟩ := zneed hf
          refine ⟨b75, ?_⟩
          replace hf := zlet_gen hf
          generalize ((upd (R_towns v0) (Int32.toNatClampNeg (83 + q3)) (R_codes v0)) : (Nat → Int32)) = z68 at hf ⊢
          as_aux_lemma =>
            refine AW.run hZ hRm [127] 400 ?_
            show AW Z 0 0 127 [some (.ref 0), some (.int q3)] [.int 2, .int q3, .ref 0] ([kR 0 (R_s_at_fault_towns v0 ((R_at v0) + 1) q65 z68)] : List (List zE)).flatten
            suffices H69 : AW Z 0 0 137 [some (.ref 0), none] [.int (if (q3 = 2) then 7 else 31), .ref 0] ([kR 0 (R_s_at_fault_towns v0 ((R_at v0) + 1) q65 z68)] : List (List zE)).flatten from by
              refine AW.run hZ hRm [137] 400 ?_
              show ((¬ (q3 = 2) → AW Z 0 0 137 [some (.ref 0), some (.int q3)] [.int 31, .ref 0] ([kR 0 (R_s_at_fault_towns v0 ((R_at v0) + 1) q65 z68)] : List (List zE)).flatten) ∧ ((q3 = 2) → AW Z 0 0 137 [some (.ref 0), some (.int q3)] [.int 7, .ref 0] ([kR 0 (R_s_at_fault_towns v0 ((R_at v0) + 1) q65 z68)] : List (List zE)).flatten))
              refine ⟨fun c70 => ?_, fun c70 => ?_⟩
              · refine AW.forget [true, false] ?_
                show AW Z 0 0 137 [some (.ref 0), none] [.int 31, .ref 0] ([kR 0 (R_s_at_fault_towns v0 ((R_at v0) + 1) q65 z68)] : List (List zE)).flatten
                simpa only [if_neg c70] using H69
              · refine AW.forget [true, false] ?_
                show AW Z 0 0 137 [some (.ref 0), none] [.int 7, .ref 0] ([kR 0 (R_s_at_fault_towns v0 ((R_at v0) + 1) q65 z68)] : List (List zE)).flatten
                simpa only [if_pos c70] using H69
            refine AW.run hZ hRm [142] 400 ?_
            show AW Z 0 0 142 [some (.ref 0), none] [.int 0, .ref 0] ([kR 0 (R_s_at_fault_towns_factsHere v0 ((R_at v0) + 1) q65 z68 (if (q3 = 2) then 7 else 31))] : List (List zE)).flatten
            obtain ⟨q71, h74, hf⟩ := zbind hf
            refine AW.callVc hZ hR hN (c_R_all 64 N (R_s_at_fault_towns_factsHere v0 ((R_at v0) + 1) q65 z68 (if (q3 = 2) then 7 else 31)) 0 q71 h74) zMX12_all_ok rfl rfl zK_BorrowedLivesModel_259 zV_X12_all rfl [25] [0] [0, 1, 2, 3, 4, 5, 6, 7, 8, 9, 10, 11, 12, 13, 14, 15, 16, 17, 18, 19, 20, 21, 22, 23, 24] rfl rfl rfl (by decide) (by decide) (by omega) (by decide) (Nat.zero_le _) (Nat.zero_le _) rfl rfl rfl rfl rfl ?_
            rintro v cc ⟨rfl, rfl⟩
            refine ⟨_, rfl, rfl, ?_⟩
            show AW Z 0 0 145 [some (.ref 0), none] [] ([kR 0 (R_s_at_fault_towns_op_arg_codes_factsHere v0 q71.1 q71.2.1 z68 q71.2.2.1 q71.2.2.2.1 q71.2.2.2.2 (if (q3 = 2) then 7 else 31))] : List (List zE)).flatten
            refine AW.run hZ hRm [148] 400 ?_
            show AW Z 0 0 148 [some (.ref 0), none] [.int 0, .int 0, .ref 0] ([kR 0 (R_s_at_fault_towns_op_arg_codes_factsHere v0 q71.1 q71.2.1 z68 q71.2.2.1 q71.2.2.2.1 q71.2.2.2.2 (if (q3 = 2) then 7 else 31))] : List (List zE)).flatten
            obtain ⟨q72, h73, hf⟩ := zbind hf
            refine AW.callVc hZ hR hN (c_R_emit N (R_s_at_fault_towns_op_arg_codes_factsHere v0 q71.1 q71.2.1 z68 q71.2.2.1 q71.2.2.2.1 q71.2.2.2.2 (if (q3 = 2) then 7 else 31)) 0 0 q72 h73) zMX12_emit_ok rfl rfl zK_BorrowedLivesModel_262 zV_X12_emit rfl [25] [0] [0, 1, 2, 3, 4, 5, 6, 7, 8, 9, 10, 11, 12, 13, 14, 15, 16, 17, 18, 19, 20, 21, 22, 23, 24] rfl rfl rfl (by decide) (by decide) (by omega) (by decide) (Nat.zero_le _) (Nat.zero_le _) rfl rfl rfl rfl rfl ?_
            rintro v cc ⟨rfl, rfl⟩
            refine ⟨_, rfl, rfl, ?_⟩
            show AW Z 0 0 151 [some (.ref 0), none] [] ([kR 0 (R_s_at_fault_towns_op_arg_codes_factsHere v0 q71.1 q71.2.1 z68 q72.1 q72.2.1 q72.2.2 (if (q3 = 2) then 7 else 31))] : List (List zE)).flatten
            cases hf
            exact AW.vret hZ hE rfl rfl rfl (Nat.le_refl 0) (Nat.le_refl 0) rfl ⟨rfl, rfl⟩
        · rw [if_pos c67] at hf
          refine ⟨(by decide), ?_⟩
          obtain ⟨q76, h78, hf⟩ := zbind hf
          refine AW.callVc hZ hR hN (c_R_takeNumber N (R_s_at_fault_hasSigned v0 ((R_at v0) + 1) q65 1) 0 999 q76 h78) zMX12_takeNumber_ok rfl rfl zK_BorrowedLivesModel_200 zV_X12_takeNumber rfl [25] [0] [0, 1, 2, 3, 4, 5, 6, 7, 8, 9, 10, 11, 12, 13, 14, 15, 16, 17, 18, 19, 20, 21, 22, 23, 24] rfl rfl rfl (by decide) (by decide) (by omega) (by decide) (Nat.zero_le _) (Nat.zero_le _) rfl rfl rfl rfl rfl ?_
          rintro v cc ⟨rfl, rfl⟩
          refine ⟨_, rfl, rfl, ?_⟩
          show AW Z 0 0 107 [some (.ref 0), some (.int q3)] [.int q76.1, .int 82, .ref 6] ([kR 0 (R_s_at_fault_hasSigned v0 q76.2.1 q76.2.2 1)] : List (List zE)).flatten
          refine AW.run hZ hRm [108] 400 ?_
          show (¬ ((82 : Int32) < 0 ∨ 160 ≤ Int32.toNatClampNeg 82) ∧ AW Z 0 0 108 [some (.ref 0), some (.int q3)] [] ([kR 0 (R_s_at_fault_towns_hasSigned v0 q76.2.1 q76.2.2 (upd (R_towns v0) (Int32.toNatClampNeg 82) q76.1) 1)] : List (List zE)).flatten)
          refine ⟨(by decide), ?_⟩
          replace hf := zlet_gen hf
          generalize ((upd (R_towns v0) (Int32.toNatClampNeg 82) q76.1) : (Nat → Int32)) = z77 at hf ⊢
          as_aux_lemma =>
            refine AW.run hZ hRm [151] 400 ?_
            show AW Z 0 0 151 [some (.ref 0), some (.int q3)] [] ([kR 0 (R_s_at_fault_towns_hasSigned v0 q76.2.1 q76.2.2 z77 1)] : List (List zE)).flatten
            cases hf
            exact AW.vret hZ hE rfl rfl rfl (Nat.le_refl 0) (Nat.le_refl 0) rfl ⟨rfl, rfl⟩
      · rw [if_neg c66] at hf
        cases hf
        exact AW.vret hZ hE rfl rfl rfl (Nat.le_refl 0) (Nat.le_refl 0) rfl ⟨rfl, rfl⟩
  · rw [if_neg c2] at hf
    refine ⟨fun _ => ?_, fun h => absurd h (by decide)⟩
    refine ⟨fun h => absurd h (by decide), fun _ => ?_⟩
    refine ⟨fun c81 => ?_, fun c81 => ?_⟩
    · rw [if_pos c81] at hf
      refine ⟨fun c82 => ?_, fun c82 => ?_⟩
      · rw [if_pos c82] at hf
        refine ⟨fun h => absurd h (by decide), fun _ => ?_⟩
        refine ⟨(by decide), ?_⟩
        obtain ⟨q83, h85, hf⟩ := zbind hf
        refine AW.callVc hZ hR hN (c_R_takeNumber N (R_s_at_hasSigned v0 ((R_at v0) + 1) 1) 0 999 q83 h85) zMX12_takeNumber_ok rfl rfl zK_BorrowedLivesModel_200 zV_X12_takeNumber rfl [25] [0] [0, 1, 2, 3, 4, 5, 6, 7, 8, 9, 10, 11, 12, 13, 14, 15, 16, 17, 18, 19, 20, 21, 22, 23, 24] rfl rfl rfl (by decide) (by decide) (by omega) (by decide) (Nat.zero_le _) (Nat.zero_le _) rfl rfl rfl rfl rfl ?_
        rintro v cc ⟨rfl, rfl⟩
        refine ⟨_, rfl, rfl, ?_⟩
        show AW Z 0 0 107 [some (.ref 0), some (.int 4)] [.int q83.1, .int 82, .ref 6] ([kR 0 (R_s_at_fault_hasSigned v0 q83.2.1 q83.2.2 1)] : List (List zE)).flatten
        refine AW.run hZ hRm [108] 400 ?_
        show (¬ ((82 : Int32) < 0 ∨ 160 ≤ Int32.toNatClampNeg 82) ∧ AW Z 0 0 108 [some (.ref 0), some (.int 4)] [] ([kR 0 (R_s_at_fault_towns_hasSigned v0 q83.2.1 q83.2.2 (upd (R_towns v0) (Int32.toNatClampNeg 82) q83.1) 1)] : List (List zE)).flatten)
        refine ⟨(by decide), ?_⟩
        replace hf := zlet_gen hf
        generalize ((upd (R_towns v0) (Int32.toNatClampNeg 82) q83.1) : (Nat → Int32)) = z84 at hf ⊢
        as_aux_lemma =>
          refine AW.run hZ hRm [151] 400 ?_
          show AW Z 0 0 151 [some (.ref 0), some (.int 4)] [] ([kR 0 (R_s_at_fault_towns_hasSigned v0 q83.2.1 q83.2.2 z84 1)] : List (List zE)).flatten
          cases hf
          exact AW.vret hZ hE rfl rfl rfl (Nat.le_refl 0) (Nat.le_refl 0) rfl ⟨rfl, rfl⟩
      · rw [if_neg c82] at hf
        cases hf
        exact AW.vret hZ hE rfl rfl rfl (Nat.le_refl 0) (Nat.le_refl 0) rfl ⟨rfl, rfl⟩
    · rw [if_neg c81] at hf
      obtain ⟨q86, h91, hf⟩ := zbind hf
      refine AW.callVc hZ hR hN (c_R_wrong N v0 3 q86 h91) zMX12_wrong_ok rfl rfl zK_BorrowedLivesModel_188 zV_X12_wrong rfl [25] [0] [0, 1, 2, 3, 4, 5, 6, 7, 8, 9, 10, 11, 12, 13, 14, 15, 16, 17, 18, 19, 20, 21, 22, 23, 24] rfl rfl rfl (by decide) (by decide) (by omega) (by decide) (Nat.zero_le _) (Nat.zero_le _) rfl rfl rfl rfl rfl ?_
      rintro v cc ⟨rfl, rfl⟩
      refine ⟨_, rfl, rfl, ?_⟩
      show AW Z 0 0 65 [some (.ref 0), some (.int 4)] [] ([kR 0 (R_fault_s v0 q86)] : List (List zE)).flatten
      refine AW.run hZ hRm [72, 104, 124] 400 ?_
      show (((q86 ≤ 0) → ((¬ ((4 : Int32) = 4) → (¬ (((83 : Int32) + 4) < 0 ∨ 160 ≤ Int32.toNatClampNeg ((83 : Int32) + 4)) ∧ AW Z 0 0 124 [some (.ref 0), some (.int 4)] [] ([kR 0 (R_s_at_fault_towns v0 ((R_at v0) + 1) q86 (upd (R_towns v0) (Int32.toNatClampNeg ((83 : Int32) + 4)) (R_codes v0)))] : List (List zE)).flatten)) ∧ (((4 : Int32) = 4) → (((1 : Int32) = 0 ∨ (1 : Int32) = 1) ∧ AW Z 0 0 104 [some (.ref 0), some (.int 4)] [.int 999, .int 0, .ref 0, .int 82, .ref 6] ([kR 0 (R_s_at_fault_hasSigned v0 ((R_at v0) + 1) q86 1)] : List (List zE)).flatten)))) ∧ (¬ (q86 ≤ 0) → AW Z 0 0 72 [some (.ref 0), some (.int 4)] [] ([kR 0 (R_fault_s v0 q86)] : List (List zE)).flatten))
      refine ⟨fun c87 => ?_, fun c87 => ?_⟩
      · rw [if_pos c87] at hf
        refine ⟨fun h => absurd h (by decide), fun _ => ?_⟩
        refine ⟨(by decide), ?_⟩
        obtain ⟨q88, h90, hf⟩ := zbind hf
        refine AW.callVc hZ hR hN (c_R_takeNumber N (R_s_at_fault_hasSigned v0 ((R_at v0) + 1) q86 1) 0 999 q88 h90) zMX12_takeNumber_ok rfl rfl zK_BorrowedLivesModel_200 zV_X12_takeNumber rfl [25] [0] [0, 1, 2, 3, 4, 5, 6, 7, 8, 9, 10, 11, 12, 13, 14, 15, 16, 17, 18, 19, 20, 21, 22, 23, 24] rfl rfl rfl (by decide) (by decide) (by omega) (by decide) (Nat.zero_le _) (Nat.zero_le _) rfl rfl rfl rfl rfl ?_
        rintro v cc ⟨rfl, rfl⟩
        refine ⟨_, rfl, rfl, ?_⟩
        show AW Z 0 0 107 [some (.ref 0), some (.int 4)] [.int q88.1, .int 82, .ref 6] ([kR 0 (R_s_at_fault_hasSigned v0 q88.2.1 q88.2.2 1)] : List (List zE)).flatten
        refine AW.run hZ hRm [108] 400 ?_
        show (¬ ((82 : Int32) < 0 ∨ 160 ≤ Int32.toNatClampNeg 82) ∧ AW Z 0 0 108 [some (.ref 0), some (.int 4)] [] ([kR 0 (R_s_at_fault_towns_hasSigned v0 q88.2.1 q88.2.2 (upd (R_towns v0) (Int32.toNatClampNeg 82) q88.1) 1)] : List (List zE)).flatten)
        refine ⟨(by decide), ?_⟩
        replace hf := zlet_gen hf
        generalize ((upd (R_towns v0) (Int32.toNatClampNeg 82) q88.1) : (Nat → Int32)) = z89 at hf ⊢
        as_aux_lemma =>
          refine AW.run hZ hRm [151] 400 ?_
          show AW Z 0 0 151 [some (.ref 0), some (.int 4)] [] ([kR 0 (R_s_at_fault_towns_hasSigned v0 q88.2.1 q88.2.2 z89 1)] : List (List zE)).flatten
          cases hf
          exact AW.vret hZ hE rfl rfl rfl (Nat.le_refl 0) (Nat.le_refl 0) rfl ⟨rfl, rfl⟩
      · rw [if_neg c87] at hf
        cases hf
        exact AW.vret hZ hE rfl rfl rfl (Nat.le_refl 0) (Nat.le_refl 0) rfl ⟨rfl, rfl⟩
