def f_R_readOnce (N : Nat) (v0 : VR) : Option (Int32 × Int32 × (Nat → Int32) × (Nat → Int32) × (Nat → Int32) × Int32 × Int32 × Int32) := ((f_R_isWord N v0 6).bind (fun q1 => (if (q1 = 0) then ((f_R_wordHere N v0 7 4).bind (fun q3 => (if (0 ≤ q3) then (if (q3 = 4) then (if ((R_hasSigned v0) = 0) then (if ((R_fault v0) ≤ 0) then (if (q3 = 4) then ((f_R_takeNumber N (R_s_at_hasSigned v0 ((R_at v0) + 1) 1) 0 999).bind (fun q45 => (some (q45.2.1, q45.2.2, (upd (R_towns v0) (Int32.toNatClampNeg 82) q45.1), (R_op v0), (R_arg v0), (R_codes v0), 1, (R_factsHere v0))))) else (if ((83 + q3) < 0 ∨ 160 ≤ Int32.toNatClampNeg (83 + q3)) then none else (zlet ((upd (R_towns v0) (Int32.toNatClampNeg (83 + q3)) (R_codes v0)) : (Nat → Int32)) (fun z39 => ((f_R_all 64 N (R_s_at_towns_factsHere v0 ((R_at v0) + 1) z39 (if (q3 = 2) then 7 else 31)) 0).bind (fun q40 => ((f_R_emit N (R_s_at_fault_towns_op_arg_codes_factsHere v0 q40.1 q40.2.1 z39 q40.2.2.1 q40.2.2.2.1 q40.2.2.2.2 (if (q3 = 2) then 7 else 31)) 0 0).bind (fun q41 => (some (q40.1, q40.2.1, z39, q41.1, q41.2.1, q41.2.2, (R_hasSigned v0), (if (q3 = 2) then 7 else 31))))))))))) else (some ((R_at v0), (R_fault v0), (R_towns v0), (R_op v0), (R_arg v0), (R_codes v0), (R_hasSigned v0), (R_factsHere v0)))) else ((f_R_wrong N v0 3).bind (fun q47 => (if (q47 ≤ 0) then (if (q3 = 4) then ((f_R_takeNumber N (R_s_at_fault_hasSigned v0 ((R_at v0) + 1) q47 1) 0 999).bind (fun q58 => (some (q58.2.1, q58.2.2, (upd (R_towns v0) (Int32.toNatClampNeg 82) q58.1), (R_op v0), (R_arg v0), (R_codes v0), 1, (R_factsHere v0))))) else (if ((83 + q3) < 0 ∨ 160 ≤ Int32.toNatClampNeg (83 + q3)) then none else (zlet ((upd (R_towns v0) (Int32.toNatClampNeg (83 + q3)) (R_codes v0)) : (Nat → Int32)) (fun z52 => ((f_R_all 64 N (R_s_at_fault_towns_factsHere v0 ((R_at v0) + 1) q47 z52 (if (q3 = 2) then 7 else 31)) 0).bind (fun q53 => ((f_R_emit N (R_s_at_fault_towns_op_arg_codes_factsHere v0 q53.1 q53.2.1 z52 q53.2.2.1 q53.2.2.2.1 q53.2.2.2.2 (if (q3 = 2) then 7 else 31)) 0 0).bind (fun q54 => (some (q53.1, q53.2.1, z52, q54.1, q54.2.1, q54.2.2, (R_hasSigned v0), (if (q3 = 2) then 7 else 31))))))))))) else (some ((R_at v0), q47, (R_towns v0), (R_op v0), (R_arg v0), (R_codes v0), (R_hasSigned v0), (R_factsHere v0))))))) else (if ((83 + q3) < 0 ∨ 160 ≤ Int32.toNatClampNeg (83 + q3)) then none else (if (((R_towns v0) (Int32.toNatClampNeg (83 + q3))) < 0) then (if ((R_fault v0) ≤ 0) then (if (q3 = 4) then ((f_R_takeNumber N (R_s_at_hasSigned v0 ((R_at v0) + 1) 1) 0 999).bind (fun q17 => (some (q17.2.1, q17.2.2, (upd (R_towns v0) (Int32.toNatClampNeg 82) q17.1), (R_op v0), (R_arg v0), (R_codes v0), 1, (R_factsHere v0))))) else (if ((83 + q3) < 0 ∨ 160 ≤ Int32.toNatClampNeg (83 + q3)) then none else (zlet ((upd (R_towns v0) (Int32.toNatClampNeg (83 + q3)) (R_codes v0)) : (Nat → Int32)) (fun z11 => ((f_R_all 64 N (R_s_at_towns_factsHere v0 ((R_at v0) + 1) z11 (if (q3 = 2) then 7 else 31)) 0).bind (fun q12 => ((f_R_emit N (R_s_at_fault_towns_op_arg_codes_factsHere v0 q12.1 q12.2.1 z11 q12.2.2.1 q12.2.2.2.1 q12.2.2.2.2 (if (q3 = 2) then 7 else 31)) 0 0).bind (fun q13 => (some (q12.1, q12.2.1, z11, q13.1, q13.2.1, q13.2.2, (R_hasSigned v0), (if (q3 = 2) then 7 else 31))))))))))) else (some ((R_at v0), (R_fault v0), (R_towns v0), (R_op v0), (R_arg v0), (R_codes v0), (R_hasSigned v0), (R_factsHere v0)))) else ((f_R_wrong N v0 3).bind (fun q19 => (if (q19 ≤ 0) then (if (q3 = 4) then ((f_R_takeNumber N (R_s_at_fault_hasSigned v0 ((R_at v0) + 1) q19 1) 0 999).bind (fun q30 => (some (q30.2.1, q30.2.2, (upd (R_towns v0) (Int32.toNatClampNeg 82) q30.1), (R_op v0), (R_arg v0), (R_codes v0), 1, (R_factsHere v0))))) else (if ((83 + q3) < 0 ∨ 160 ≤ Int32.toNatClampNeg (83 + q3)) then none else (zlet ((upd (R_towns v0) (Int32.toNatClampNeg (83 + q3)) (R_codes v0)) : (Nat → Int32)) (fun z24 => ((f_R_all 64 N (R_s_at_fault_towns_factsHere v0 ((R_at v0) + 1) q19 z24 (if (q3 = 2) then 7 else 31)) 0).bind (fun q25 => ((f_R_emit N (R_s_at_fault_towns_op_arg_codes_factsHere v0 q25.1 q25.2.1 z24 q25.2.2.1 q25.2.2.2.1 q25.2.2.2.2 (if (q3 = 2) then 7 else 31)) 0 0).bind (fun q26 => (some (q25.1, q25.2.1, z24, q26.1, q26.2.1, q26.2.2, (R_hasSigned v0), (if (q3 = 2) then 7 else 31))))))))))) else (some ((R_at v0), q19, (R_towns v0), (R_op v0), (R_arg v0), (R_codes v0), (R_hasSigned v0), (R_factsHere v0))))))))) else ((f_R_wrong N v0 1).bind (fun q61 => (if (q61 ≤ 0) then (if (q3 = 4) then ((f_R_takeNumber N (R_s_at_fault_hasSigned v0 ((R_at v0) + 1) q61 1) 0 999).bind (fun q72 => (some (q72.2.1, q72.2.2, (upd (R_towns v0) (Int32.toNatClampNeg 82) q72.1), (R_op v0), (R_arg v0), (R_codes v0), 1, (R_factsHere v0))))) else (if ((83 + q3) < 0 ∨ 160 ≤ Int32.toNatClampNeg (83 + q3)) then none else (zlet ((upd (R_towns v0) (Int32.toNatClampNeg (83 + q3)) (R_codes v0)) : (Nat → Int32)) (fun z66 => ((f_R_all 64 N (R_s_at_fault_towns_factsHere v0 ((R_at v0) + 1) q61 z66 (if (q3 = 2) then 7 else 31)) 0).bind (fun q67 => ((f_R_emit N (R_s_at_fault_towns_op_arg_codes_factsHere v0 q67.1 q67.2.1 z66 q67.2.2.1 q67.2.2.2.1 q67.2.2.2.2 (if (q3 = 2) then 7 else 31)) 0 0).bind (fun q68 => (some (q67.1, q67.2.1, z66, q68.1, q68.2.1, q68.2.2, (R_hasSigned v0), (if (q3 = 2) then 7 else 31))))))))))) else (some ((R_at v0), q61, (R_towns v0), (R_op v0), (R_arg v0), (R_codes v0), (R_hasSigned v0), (R_factsHere v0))))))))) else (if ((R_hasSigned v0) = 0) then (if ((R_fault v0) ≤ 0) then ((f_R_takeNumber N (R_s_at_hasSigned v0 ((R_at v0) + 1) 1) 0 999).bind (fun q78 => (some (q78.2.1, q78.2.2, (upd (R_towns v0) (Int32.toNatClampNeg 82) q78.1), (R_op v0), (R_arg v0), (R_codes v0), 1, (R_factsHere v0))))) else (some ((R_at v0), (R_fault v0), (R_towns v0), (R_op v0), (R_arg v0), (R_codes v0), (R_hasSigned v0), (R_factsHere v0)))) else ((f_R_wrong N v0 3).bind (fun q80 => (if (q80 ≤ 0) then ((f_R_takeNumber N (R_s_at_fault_hasSigned v0 ((R_at v0) + 1) q80 1) 0 999).bind (fun q82 => (some (q82.2.1, q82.2.2, (upd (R_towns v0) (Int32.toNatClampNeg 82) q82.1), (R_op v0), (R_arg v0), (R_codes v0), 1, (R_factsHere v0))))) else (some ((R_at v0), q80, (R_towns v0), (R_op v0), (R_arg v0), (R_codes v0), (R_hasSigned v0), (R_factsHere v0))))))))))
set_option maxRecDepth 20000 in
set_option maxHeartbeats 4000000 in
theorem c_R_readOnce (N : Nat) (v0 : VR) (R : Int32 × Int32 × (Nat → Int32) × (Nat → Int32) × (Nat → Int32) × Int32 × Int32 × Int32) (hf : f_R_readOnce N v0 = some R) : Ct zMX12_readOnce 67 0 0 0 [.ref 0] ([kR 0 v0] : List (List zE)).flatten (fun v cc => v = none ∧ cc = ([kR 0 (R_s_at_fault_towns_op_arg_codes_hasSigned_factsHere v0 R.1 R.2.1 R.2.2.1 R.2.2.2.1 R.2.2.2.2.1 R.2.2.2.2.2.1 R.2.2.2.2.2.2.1 R.2.2.2.2.2.2.2)] : List (List zE)).flatten) := by
  refine Ct.of zMX12_readOnce_ok (by decide) (Nat.le_of_ble_eq_true rfl) ?_
  intro Z hZ hR hN hE
  have hRm : zRoom Z 0 0 := zRoom0 Z
  unfold f_R_readOnce at hf
  show AW Z 0 0 0 [some (.ref 0), none] [] ([kR 0 v0] : List (List zE)).flatten
  refine AW.run hZ hRm [3] 400 ?_
  show AW Z 0 0 3 [some (.ref 0), none] [.int 6, .ref 0] ([kR 0 v0] : List (List zE)).flatten
  obtain ⟨q1, h85, hf⟩ := zbind hf
  refine AW.callVc hZ hR hN (c_R_isWord N v0 6 q1 h85) zMX12_isWord_ok rfl rfl zK_BorrowedLivesModel_191 zV_X12_isWord rfl [25] [0] [0, 1, 2, 3, 4, 5, 6, 7, 8, 9, 10, 11, 12, 13, 14, 15, 16, 17, 18, 19, 20, 21, 22, 23, 24] rfl rfl rfl (by decide) (by decide) (by omega) (by decide) (Nat.zero_le _) (Nat.zero_le _) rfl rfl rfl rfl rfl ?_
  rintro v cc ⟨rfl, rfl⟩
  refine ⟨_, rfl, rfl, ?_⟩
  show AW Z 0 0 6 [some (.ref 0), none] [.int q1] ([kR 0 v0] : List (List zE)).flatten
  refine AW.run hZ hRm [17, 62, 72, 104] 400 ?_
  show (((q1 = 0) → AW Z 0 0 17 [some (.ref 0), none] [.int 4, .int 7, .ref 0] ([kR 0 v0] : List (List zE)).flatten) ∧ (¬ (q1 = 0) → ((((0 : Int32) ≤ 4) → ((¬ ((4 : Int32) = 4) → (¬ (((83 : Int32) + 4) < 0 ∨ 160 ≤ Int32.toNatClampNeg ((83 : Int32) + 4)) ∧ (((((R_towns v0) (Int32.toNatClampNeg ((83 : Int32) + 4))) < 0) → ((((R_fault v0) ≤ 0) → ((¬ ((4 : Int32) = 4) → (¬ (((83 : Int32) + 4) < 0 ∨ 160 ≤ Int32.toNatClampNeg ((83 : Int32) + 4)) ∧ ((¬ ((4 : Int32) = 2) → AW Z 0 0 142 [some (.ref 0), some (.int 4)] [.int 0, .ref 0] ([kR 0 (R_s_at_towns_factsHere v0 ((R_at v0) + 1) (upd (R_towns v0) (Int32.toNatClampNeg ((83 : Int32) + 4)) (R_codes v0)) 31)] : List (List zE)).flatten) ∧ (((4 : Int32) = 2) → AW Z 0 0 142 [some (.ref 0), some (.int 4)] [.int 0, .ref 0] ([kR 0 (R_s_at_towns_factsHere v0 ((R_at v0) + 1) (upd (R_towns v0) (Int32.toNatClampNeg ((83 : Int32) + 4)) (R_codes v0)) 7)] : List (List zE)).flatten)))) ∧ (((4 : Int32) = 4) → (((1 : Int32) = 0 ∨ (1 : Int32) = 1) ∧ AW Z 0 0 104 [some (.ref 0), some (.int 4)] [.int 999, .int 0, .ref 0, .int 82, .ref 6] ([kR 0 (R_s_at_hasSigned v0 ((R_at v0) + 1) 1)] : List (List zE)).flatten)))) ∧ (¬ ((R_fault v0) ≤ 0) → AW Z 0 0 72 [some (.ref 0), some (.int 4)] [] ([kR 0 v0] : List (List zE)).flatten))) ∧ (¬ (((R_towns v0) (Int32.toNatClampNeg ((83 : Int32) + 4))) < 0) → AW Z 0 0 62 [some (.ref 0), some (.int 4)] [.int 3, .ref 0] ([kR 0 v0] : List (List zE)).flatten)))) ∧ (((4 : Int32) = 4) → ((((R_hasSigned v0) = 0) → ((((R_fault v0) ≤ 0) → ((¬ ((4 : Int32) = 4) → (¬ (((83 : Int32) + 4) < 0 ∨ 160 ≤ Int32.toNatClampNeg ((83 : Int32) + 4)) ∧ ((¬ ((4 : Int32) = 2) → AW Z 0 0 142 [some (.ref 0), some (.int 4)] [.int 0, .ref 0] ([kR 0 (R_s_at_towns_factsHere v0 ((R_at v0) + 1) (upd (R_towns v0) (Int32.toNatClampNeg ((83 : Int32) + 4)) (R_codes v0)) 31)] : List (List zE)).flatten) ∧ (((4 : Int32) = 2) → AW Z 0 0 142 [some (.ref 0), some (.int 4)] [.int 0, .ref 0] ([kR 0 (R_s_at_towns_factsHere v0 ((R_at v0) + 1) (upd (R_towns v0) (Int32.toNatClampNeg ((83 : Int32) + 4)) (R_codes v0)) 7)] : List (List zE)).flatten)))) ∧ (((4 : Int32) = 4) → (((1 : Int32) = 0 ∨ (1 : Int32) = 1) ∧ AW Z 0 0 104 [some (.ref 0), some (.int 4)] [.int 999, .int 0, .ref 0, .int 82, .ref 6] ([kR 0 (R_s_at_hasSigned v0 ((R_at v0) + 1) 1)] : List (List zE)).flatten)))) ∧ (¬ ((R_fault v0) ≤ 0) → AW Z 0 0 72 [some (.ref 0), some (.int 4)] [] ([kR 0 v0] : List (List zE)).flatten))) ∧ (¬ ((R_hasSigned v0) = 0) → AW Z 0 0 62 [some (.ref 0), some (.int 4)] [.int 3, .ref 0] ([kR 0 v0] : List (List zE)).flatten))))) ∧ (¬ ((0 : Int32) ≤ 4) → AW Z 0 0 27 [some (.ref 0), some (.int 4)] [.int 1, .ref 0] ([kR 0 v0] : List (List zE)).flatten))))
  refine ⟨fun c2 => ?_, fun c2 => ?_⟩
  · rw [if_pos c2] at hf
    obtain ⟨q3, h75, hf⟩ := zbind hf
    refine AW.callVc hZ hR hN (c_R_wordHere N v0 7 4 q3 h75) zMX12_wordHere_ok rfl rfl zK_BorrowedLivesModel_204 zV_X12_wordHere rfl [25] [0] [0, 1, 2, 3, 4, 5, 6, 7, 8, 9, 10, 11, 12, 13, 14, 15, 16, 17, 18, 19, 20, 21, 22, 23, 24] rfl rfl rfl (by decide) (by decide) (by omega) (by decide) (Nat.zero_le _) (Nat.zero_le _) rfl rfl rfl rfl rfl ?_
    rintro v cc ⟨rfl, rfl⟩
    refine ⟨_, rfl, rfl, ?_⟩
    show AW Z 0 0 20 [some (.ref 0), none] [.int q3] ([kR 0 v0] : List (List zE)).flatten
    refine AW.run hZ hRm [27, 62, 72, 104, 127] 400 ?_
    show (((0 ≤ q3) → ((¬ (q3 = 4) → (¬ ((83 + q3) < 0 ∨ 160 ≤ Int32.toNatClampNeg (83 + q3)) ∧ (((((R_towns v0) (Int32.toNatClampNeg (83 + q3))) < 0) → ((((R_fault v0) ≤ 0) → ((¬ (q3 = 4) → (¬ ((83 + q3) < 0 ∨ 160 ≤ Int32.toNatClampNeg (83 + q3)) ∧ AW Z 0 0 127 [some (.ref 0), some (.int q3)] [.int 2, .int q3, .ref 0] ([kR 0 (R_s_at_towns v0 ((R_at v0) + 1) (upd (R_towns v0) (Int32.toNatClampNeg (83 + q3)) (R_codes v0)))] : List (List zE)).flatten)) ∧ ((q3 = 4) → (((1 : Int32) = 0 ∨ (1 : Int32) = 1) ∧ AW Z 0 0 104 [some (.ref 0), some (.int q3)] [.int 999, .int 0, .ref 0, .int 82, .ref 6] ([kR 0 (R_s_at_hasSigned v0 ((R_at v0) + 1) 1)] : List (List zE)).flatten)))) ∧ (¬ ((R_fault v0) ≤ 0) → AW Z 0 0 72 [some (.ref 0), some (.int q3)] [] ([kR 0 v0] : List (List zE)).flatten))) ∧ (¬ (((R_towns v0) (Int32.toNatClampNeg (83 + q3))) < 0) → AW Z 0 0 62 [some (.ref 0), some (.int q3)] [.int 3, .ref 0] ([kR 0 v0] : List (List zE)).flatten)))) ∧ ((q3 = 4) → ((((R_hasSigned v0) = 0) → ((((R_fault v0) ≤ 0) → ((¬ (q3 = 4) → (¬ ((83 + q3) < 0 ∨ 160 ≤ Int32.toNatClampNeg (83 + q3)) ∧ AW Z 0 0 127 [some (.ref 0), some (.int q3)] [.int 2, .int q3, .ref 0] ([kR 0 (R_s_at_towns v0 ((R_at v0) + 1) (upd (R_towns v0) (Int32.toNatClampNeg (83 + q3)) (R_codes v0)))] : List (List zE)).flatten)) ∧ ((q3 = 4) → (((1 : Int32) = 0 ∨ (1 : Int32) = 1) ∧ AW Z 0 0 104 [some (.ref 0), some (.int q3)] [.int 999, .int 0, .ref 0, .int 82, .ref 6] ([kR 0 (R_s_at_hasSigned v0 ((R_at v0) + 1) 1)] : List (List zE)).flatten)))) ∧ (¬ ((R_fault v0) ≤ 0) → AW Z 0 0 72 [some (.ref 0), some (.int q3)] [] ([kR 0 v0] : List (List zE)).flatten))) ∧ (¬ ((R_hasSigned v0) = 0) → AW Z 0 0 62 [some (.ref 0), some (.int q3)] [.int 3, .ref 0] ([kR 0 v0] : List (List zE)).flatten))))) ∧ (¬ (0 ≤ q3) → AW Z 0 0 27 [some (.ref 0), some (.int q3)] [.int 1, .ref 0] ([kR 0 v0] : List (List zE)).flatten))
    refine ⟨fun c4 => ?_, fun c4 => ?_⟩
    · rw [if_pos c4] at hf
      refine ⟨fun c5 => ?_, fun c5 => ?_⟩
      · rw [if_neg c5] at hf
        obtain ⟨b33, hf⟩ := zneed hf
        refine ⟨b33, ?_⟩
        refine ⟨fun c6 => ?_, fun c6 => ?_⟩
        · rw [if_pos c6] at hf
          refine ⟨fun c7 => ?_, fun c7 => ?_⟩
          · rw [if_pos c7] at hf
            refine ⟨fun c8 => ?_, fun c8 => ?_⟩
            · rw [if_neg c8] at hf
              obtain ⟨b16, hf⟩ := zneed hf
              refine ⟨b16, ?_⟩
              suffices H9 : AW Z 0 0 137 [some (.ref 0), none] [.int (if (q3 = 2) then 7 else 31), .ref 0] ([kR 0 (R_s_at_towns v0 ((R_at v0) + 1) (upd (R_towns v0) (Int32.toNatClampNeg (83 + q3)) (R_codes v0)))] : List (List zE)).flatten from by
                refine AW.run hZ hRm [137] 400 ?_
                show ((¬ (q3 = 2) → AW Z 0 0 137 [some (.ref 0), some (.int q3)] [.int 31, .ref 0] ([kR 0 (R_s_at_towns v0 ((R_at v0) + 1) (upd (R_towns v0) (Int32.toNatClampNeg (83 + q3)) (R_codes v0)))] : List (List zE)).flatten) ∧ ((q3 = 2) → AW Z 0 0 137 [some (.ref 0), some (.int q3)] [.int 7, .ref 0] ([kR 0 (R_s_at_towns v0 ((R_at v0) + 1) (upd (R_towns v0) (Int32.toNatClampNeg (83 + q3)) (R_codes v0)))] : List (List zE)).flatten))
                refine ⟨fun c10 => ?_, fun c10 => ?_⟩
                · refine AW.forget [true, false] ?_
                  show AW Z 0 0 137 [some (.ref 0), none] [.int 31, .ref 0] ([kR 0 (R_s_at_towns v0 ((R_at v0) + 1) (upd (R_towns v0) (Int32.toNatClampNeg (83 + q3)) (R_codes v0)))] : List (List zE)).flatten
                  simpa only [if_neg c10] using H9
                · refine AW.forget [true, false] ?_
                  show AW Z 0 0 137 [some (.ref 0), none] [.int 7, .ref 0] ([kR 0 (R_s_at_towns v0 ((R_at v0) + 1) (upd (R_towns v0) (Int32.toNatClampNeg (83 + q3)) (R_codes v0)))] : List (List zE)).flatten
                  simpa only [if_pos c10] using H9
              replace hf := zlet_gen hf
              generalize ((upd (R_towns v0) (Int32.toNatClampNeg (83 + q3)) (R_codes v0)) : (Nat → Int32)) = z11 at hf ⊢
              refine AW.run hZ hRm [142] 400 ?_
              show AW Z 0 0 142 [some (.ref 0), none] [.int 0, .ref 0] ([kR 0 (R_s_at_towns_factsHere v0 ((R_at v0) + 1) z11 (if (q3 = 2) then 7 else 31))] : List (List zE)).flatten
              obtain ⟨q12, h15, hf⟩ := zbind hf
              refine AW.callVc hZ hR hN (c_R_all 64 N (R_s_at_towns_factsHere v0 ((R_at v0) + 1) z11 (if (q3 = 2) then 7 else 31)) 0 q12 h15) zMX12_all_ok rfl rfl zK_BorrowedLivesModel_259 zV_X12_all rfl [25] [0] [0, 1, 2, 3, 4, 5, 6, 7, 8, 9, 10, 11, 12, 13, 14, 15, 16, 17, 18, 19, 20, 21, 22, 23, 24] rfl rfl rfl (by decide) (by decide) (by omega) (by decide) (Nat.zero_le _) (Nat.zero_le _) rfl rfl rfl rfl rfl ?_
              rintro v cc ⟨rfl, rfl⟩
              refine ⟨_, rfl, rfl, ?_⟩
              show AW Z 0 0 145 [some (.ref 0), none] [] ([kR 0 (R_s_at_fault_towns_op_arg_codes_factsHere v0 q12.1 q12.2.1 z11 q12.2.2.1 q12.2.2.2.1 q12.2.2.2.2 (if (q3 = 2) then 7 else 31))] : List (List zE)).flatten
              refine AW.run hZ hRm [148] 400 ?_
              show AW Z 0 0 148 [some (.ref 0), none] [.int 0, .int 0, .ref 0] ([kR 0 (R_s_at_fault_towns_op_arg_codes_factsHere v0 q12.1 q12.2.1 z11 q12.2.2.1 q12.2.2.2.1 q12.2.2.2.2 (if (q3 = 2) then 7 else 31))] : List (List zE)).flatten
              obtain ⟨q13, h14, hf⟩ := zbind hf
              refine AW.callVc hZ hR hN (c_R_emit N (R_s_at_fault_towns_op_arg_codes_factsHere v0 q12.1 q12.2.1 z11 q12.2.2.1 q12.2.2.2.1 q12.2.2.2.2 (if (q3 = 2) then 7 else 31)) 0 0 q13 h14) zMX12_emit_ok rfl rfl zK_BorrowedLivesModel_262 zV_X12_emit rfl [25] [0] [0, 1, 2, 3, 4, 5, 6, 7, 8, 9, 10, 11, 12, 13, 14, 15, 16, 17, 18, 19, 20, 21, 22, 23, 24] rfl rfl rfl (by decide) (by decide) (by omega) (by decide) (Nat.zero_le _) (Nat.zero_le _) rfl rfl rfl rfl rfl ?_
              rintro v cc ⟨rfl, rfl⟩
              refine ⟨_, rfl, rfl, ?_⟩
              show AW Z 0 0 151 [some (.ref 0), none] [] ([kR 0 (R_s_at_fault_towns_op_arg_codes_factsHere v0 q12.1 q12.2.1 z11 q13.1 q13.2.1 q13.2.2 (if (q3 = 2) then 7 else 31))] : List (List zE)).flatten
              cases hf
              exact AW.vret hZ hE rfl rfl rfl (Nat.le_refl 0) (Nat.le_refl 0) rfl ⟨rfl, rfl⟩
            · rw [if_pos c8] at hf
              refine ⟨(by decide), ?_⟩
              obtain ⟨q17, h18, hf⟩ := zbind hf
              refine AW.callVc hZ hR hN (c_R_takeNumber N (R_s_at_hasSigned v0 ((R_at v0) + 1) 1) 0 999 q17 h18) zMX12_takeNumber_ok rfl rfl zK_BorrowedLivesModel_200 zV_X12_takeNumber rfl [25] [0] [0, 1, 2, 3, 4, 5, 6, 7, 8, 9, 10, 11, 12, 13, 14, 15, 16, 17, 18, 19, 20, 21, 22, 23, 24] rfl rfl rfl (by decide) (by decide) (by omega) (by decide) (Nat.zero_le _) (Nat.zero_le _) rfl rfl rfl rfl rfl ?_
              rintro v cc ⟨rfl, rfl⟩
              refine ⟨_, rfl, rfl, ?_⟩
              show AW Z 0 0 107 [some (.ref 0), some (.int q3)] [.int q17.1, .int 82, .ref 6] ([kR 0 (R_s_at_fault_hasSigned v0 q17.2.1 q17.2.2 1)] : List (List zE)).flatten
              refine AW.run hZ hRm [151] 400 ?_
              show (¬ ((82 : Int32) < 0 ∨ 160 ≤ Int32.toNatClampNeg 82) ∧ AW Z 0 0 151 [some (.ref 0), some (.int q3)] [] ([kR 0 (R_s_at_fault_towns_hasSigned v0 q17.2.1 q17.2.2 (upd (R_towns v0) (Int32.toNatClampNeg 82) q17.1) 1)] : List (List zE)).flatten)
              refine ⟨(by decide), ?_⟩
              cases hf
              exact AW.vret hZ hE rfl rfl rfl (Nat.le_refl 0) (Nat.le_refl 0) rfl ⟨rfl, rfl⟩
          · rw [if_neg c7] at hf
            cases hf
            exact AW.vret hZ hE rfl rfl rfl (Nat.le_refl 0) (Nat.le_refl 0) rfl ⟨rfl, rfl⟩
        · rw [if_neg c6] at hf
          obtain ⟨q19, h32, hf⟩ := zbind hf
          refine AW.callVc hZ hR hN (c_R_wrong N v0 3 q19 h32) zMX12_wrong_ok rfl rfl zK_BorrowedLivesModel_188 zV_X12_wrong rfl [25] [0] [0, 1, 2, 3, 4, 5, 6, 7, 8, 9, 10, 11, 12, 13, 14, 15, 16, 17, 18, 19, 20, 21, 22, 23, 24] rfl rfl rfl (by decide) (by decide) (by omega) (by decide) (Nat.zero_le _) (Nat.zero_le _) rfl rfl rfl rfl rfl ?_
          rintro v cc ⟨rfl, rfl⟩
          refine ⟨_, rfl, rfl, ?_⟩
          show AW Z 0 0 65 [some (.ref 0), some (.int q3)] [] ([kR 0 (R_fault_s v0 q19)] : List (List zE)).flatten
          refine AW.run hZ hRm [72, 104, 127] 400 ?_
          show (((q19 ≤ 0) → ((¬ (q3 = 4) → (¬ ((83 + q3) < 0 ∨ 160 ≤ Int32.toNatClampNeg (83 + q3)) ∧ AW Z 0 0 127 [some (.ref 0), some (.int q3)] [.int 2, .int q3, .ref 0] ([kR 0 (R_s_at_fault_towns v0 ((R_at v0) + 1) q19 (upd (R_towns v0) (Int32.toNatClampNeg (83 + q3)) (R_codes v0)))] : List (List zE)).flatten)) ∧ ((q3 = 4) → (((1 : Int32) = 0 ∨ (1 : Int32) = 1) ∧ AW Z 0 0 104 [some (.ref 0), some (.int q3)] [.int 999, .int 0, .ref 0, .int 82, .ref 6] ([kR 0 (R_s_at_fault_hasSigned v0 ((R_at v0) + 1) q19 1)] : List (List zE)).flatten)))) ∧ (¬ (q19 ≤ 0) → AW Z 0 0 72 [some (.ref 0), some (.int q3)] [] ([kR 0 (R_fault_s v0 q19)] : List (List zE)).flatten))
          refine ⟨fun c20 => ?_, fun c20 => ?_⟩
          · rw [if_pos c20] at hf
            refine ⟨fun c21 => ?_, fun c21 => ?_⟩
            · rw [if_neg c21] at hf
              obtain ⟨b29, hf⟩ := zneed hf
              refine ⟨b29, ?_⟩
              suffices H22 : AW Z 0 0 137 [some (.ref 0), none] [.int (if (q3 = 2) then 7 else 31), .ref 0] ([kR 0 (R_s_at_fault_towns v0 ((R_at v0) + 1) q19 (upd (R_towns v0) (Int32.toNatClampNeg (83 + q3)) (R_codes v0)))] : List (List zE)).flatten from by
                refine AW.run hZ hRm [137] 400 ?_
                show ((¬ (q3 = 2) → AW Z 0 0 137 [some (.ref 0), some (.int q3)] [.int 31, .ref 0] ([kR 0 (R_s_at_fault_towns v0 ((R_at v0) + 1) q19 (upd (R_towns v0) (Int32.toNatClampNeg (83 + q3)) (R_codes v0)))] : List (List zE)).flatten) ∧ ((q3 = 2) → AW Z 0 0 137 [some (.ref 0), some (.int q3)] [.int 7, .ref 0] ([kR 0 (R_s_at_fault_towns v0 ((R_at v0) + 1) q19 (upd (R_towns v0) (Int32.toNatClampNeg (83 + q3)) (R_codes v0)))] : List (List zE)).flatten))
                refine ⟨fun c23 => ?_, fun c23 => ?_⟩
                · refine AW.forget [true, false] ?_
                  show AW Z 0 0 137 [some (.ref 0), none] [.int 31, .ref 0] ([kR 0 (R_s_at_fault_towns v0 ((R_at v0) + 1) q19 (upd (R_towns v0) (Int32.toNatClampNeg (83 + q3)) (R_codes v0)))] : List (List zE)).flatten
                  simpa only [if_neg c23] using H22
                · refine AW.forget [true, false] ?_
                  show AW Z 0 0 137 [some (.ref 0), none] [.int 7, .ref 0] ([kR 0 (R_s_at_fault_towns v0 ((R_at v0) + 1) q19 (upd (R_towns v0) (Int32.toNatClampNeg (83 + q3)) (R_codes v0)))] : List (List zE)).flatten
                  simpa only [if_pos c23] using H22
              replace hf := zlet_gen hf
              generalize ((upd (R_towns v0) (Int32.toNatClampNeg (83 + q3)) (R_codes v0)) : (Nat → Int32)) = z24 at hf ⊢
              refine AW.run hZ hRm [142] 400 ?_
              show AW Z 0 0 142 [some (.ref 0), none] [.int 0, .ref 0] ([kR 0 (R_s_at_fault_towns_factsHere v0 ((R_at v0) + 1) q19 z24 (if (q3 = 2) then 7 else 31))] : List (List zE)).flatten
              obtain ⟨q25, h28, hf⟩ := zbind hf
              refine AW.callVc hZ hR hN (c_R_all 64 N (R_s_at_fault_towns_factsHere v0 ((R_at v0) + 1) q19 z24 (if (q3 = 2) then 7 else 31)) 0 q25 h28) zMX12_all_ok rfl rfl zK_BorrowedLivesModel_259 zV_X12_all rfl [25] [0] [0, 1, 2, 3, 4, 5, 6, 7, 8, 9, 10, 11, 12, 13, 14, 15, 16, 17, 18, 19, 20, 21, 22, 23, 24] rfl rfl rfl (by decide) (by decide) (by omega) (by decide) (Nat.zero_le _) (Nat.zero_le _) rfl rfl rfl rfl rfl ?_
              rintro v cc ⟨rfl, rfl⟩
              refine ⟨_, rfl, rfl, ?_⟩
              show AW Z 0 0 145 [some (.ref 0), none] [] ([kR 0 (R_s_at_fault_towns_op_arg_codes_factsHere v0 q25.1 q25.2.1 z24 q25.2.2.1 q25.2.2.2.1 q25.2.2.2.2 (if (q3 = 2) then 7 else 31))] : List (List zE)).flatten
              refine AW.run hZ hRm [148] 400 ?_
              show AW Z 0 0 148 [some (.ref 0), none] [.int 0, .int 0, .ref 0] ([kR 0 (R_s_at_fault_towns_op_arg_codes_factsHere v0 q25.1 q25.2.1 z24 q25.2.2.1 q25.2.2.2.1 q25.2.2.2.2 (if (q3 = 2) then 7 else 31))] : List (List zE)).flatten
              obtain ⟨q26, h27, hf⟩ := zbind hf
              refine AW.callVc hZ hR hN (c_R_emit N (R_s_at_fault_towns_op_arg_codes_factsHere v0 q25.1 q25.2.1 z24 q25.2.2.1 q25.2.2.2.1 q25.2.2.2.2 (if (q3 = 2) then 7 else 31)) 0 0 q26 h27) zMX12_emit_ok rfl rfl zK_BorrowedLivesModel_262 zV_X12_emit rfl [25] [0] [0, 1, 2, 3, 4, 5, 6, 7, 8, 9, 10, 11, 12, 13, 14, 15, 16, 17, 18, 19, 20, 21, 22, 23, 24] rfl rfl rfl (by decide) (by decide) (by omega) (by decide) (Nat.zero_le _) (Nat.zero_le _) rfl rfl rfl rfl rfl ?_
              rintro v cc ⟨rfl, rfl⟩
              refine ⟨_, rfl, rfl, ?_⟩
              show AW Z 0 0 151 [some (.ref 0), none] [] ([kR 0 (R_s_at_fault_towns_op_arg_codes_factsHere v0 q25.1 q25.2.1 z24 q26.1 q26.2.1 q26.2.2 (if (q3 = 2) then 7 else 31))] : List (List zE)).flatten
              cases hf
              exact AW.vret hZ hE rfl rfl rfl (Nat.le_refl 0) (Nat.le_refl 0) rfl ⟨rfl, rfl⟩
            · rw [if_pos c21] at hf
              refine ⟨(by decide), ?_⟩
              obtain ⟨q30, h31, hf⟩ := zbind hf
              refine AW.callVc hZ hR hN (c_R_takeNumber N (R_s_at_fault_hasSigned v0 ((R_at v0) + 1) q19 1) 0 999 q30 h31) zMX12_takeNumber_ok rfl rfl zK_BorrowedLivesModel_200 zV_X12_takeNumber rfl [25] [0] [0, 1, 2, 3, 4, 5, 6, 7, 8, 9, 10, 11, 12, 13, 14, 15, 16, 17, 18, 19, 20, 21, 22, 23, 24] rfl rfl rfl (by decide) (by decide) (by omega) (by decide) (Nat.zero_le _) (Nat.zero_le _) rfl rfl rfl rfl rfl ?_
              rintro v cc ⟨rfl, rfl⟩
              refine ⟨_, rfl, rfl, ?_⟩
              show AW Z 0 0 107 [some (.ref 0), some (.int q3)] [.int q30.1, .int 82, .ref 6] ([kR 0 (R_s_at_fault_hasSigned v0 q30.2.1 q30.2.2 1)] : List (List zE)).flatten
              refine AW.run hZ hRm [151] 400 ?_
              show (¬ ((82 : Int32) < 0 ∨ 160 ≤ Int32.toNatClampNeg 82) ∧ AW Z 0 0 151 [some (.ref 0), some (.int q3)] [] ([kR 0 (R_s_at_fault_towns_hasSigned v0 q30.2.1 q30.2.2 (upd (R_towns v0) (Int32.toNatClampNeg 82) q30.1) 1)] : List (List zE)).flatten)
              refine ⟨(by decide), ?_⟩
              cases hf
              exact AW.vret hZ hE rfl rfl rfl (Nat.le_refl 0) (Nat.le_refl 0) rfl ⟨rfl, rfl⟩
          · rw [if_neg c20] at hf
            cases hf
            exact AW.vret hZ hE rfl rfl rfl (Nat.le_refl 0) (Nat.le_refl 0) rfl ⟨rfl, rfl⟩
      · rw [if_pos c5] at hf
        refine ⟨fun c34 => ?_, fun c34 => ?_⟩
        · rw [if_pos c34] at hf
          refine ⟨fun c35 => ?_, fun c35 => ?_⟩
          · rw [if_pos c35] at hf
            refine ⟨fun c36 => ?_, fun c36 => ?_⟩
            · rw [if_neg c36] at hf
              obtain ⟨b44, hf⟩ := zneed hf
              refine ⟨b44, ?_⟩
              suffices H37 : AW Z 0 0 137 [some (.ref 0), none] [.int (if (q3 = 2) then 7 else 31), .ref 0] ([kR 0 (R_s_at_towns v0 ((R_at v0) + 1) (upd (R_towns v0) (Int32.toNatClampNeg (83 + q3)) (R_codes v0)))] : List (List zE)).flatten from by
                refine AW.run hZ hRm [137] 400 ?_
                show ((¬ (q3 = 2) → AW Z 0 0 137 [some (.ref 0), some (.int q3)] [.int 31, .ref 0] ([kR 0 (R_s_at_towns v0 ((R_at v0) + 1) (upd (R_towns v0) (Int32.toNatClampNeg (83 + q3)) (R_codes v0)))] : List (List zE)).flatten) ∧ ((q3 = 2) → AW Z 0 0 137 [some (.ref 0), some (.int q3)] [.int 7, .ref 0] ([kR 0 (R_s_at_towns v0 ((R_at v0) + 1) (upd (R_towns v0) (Int32.toNatClampNeg (83 + q3)) (R_codes v0)))] : List (List zE)).flatten))
                refine ⟨fun c38 => ?_, fun c38 => ?_⟩
                · refine AW.forget [true, false] ?_
                  show AW Z 0 0 137 [some (.ref 0), none] [.int 31, .ref 0] ([kR 0 (R_s_at_towns v0 ((R_at v0) + 1) (upd (R_towns v0) (Int32.toNatClampNeg (83 + q3)) (R_codes v0)))] : List (List zE)).flatten
                  simpa only [if_neg c38] using H37
                · refine AW.forget [true, false] ?_
                  show AW Z 0 0 137 [some (.ref 0), none] [.int 7, .ref 0] ([kR 0 (R_s_at_towns v0 ((R_at v0) + 1) (upd (R_towns v0) (Int32.toNatClampNeg (83 + q3)) (R_codes v0)))] : List (List zE)).flatten
                  simpa only [if_pos c38] using H37
              replace hf := zlet_gen hf
              generalize ((upd (R_towns v0) (Int32.toNatClampNeg (83 + q3)) (R_codes v0)) : (Nat → Int32)) = z39 at hf ⊢
              refine AW.run hZ hRm [142] 400 ?_
              show AW Z 0 0 142 [some (.ref 0), none] [.int 0, .ref 0] ([kR 0 (R_s_at_towns_factsHere v0 ((R_at v0) + 1) z39 (if (q3 = 2) then 7 else 31))] : List (List zE)).flatten
              obtain ⟨q40, h43, hf⟩ := zbind hf
              refine AW.callVc hZ hR hN (c_R_all 64 N (R_s_at_towns_factsHere v0 ((R_at v0) + 1) z39 (if (q3 = 2) then 7 else 31)) 0 q40 h43) zMX12_all_ok rfl rfl zK_BorrowedLivesModel_259 zV_X12_all rfl [25] [0] [0, 1, 2, 3, 4, 5, 6, 7, 8, 9, 10, 11, 12, 13, 14, 15, 16, 17, 18, 19, 20, 21, 22, 23, 24] rfl rfl rfl (by decide) (by decide) (by omega) (by decide) (Nat.zero_le _) (Nat.zero_le _) rfl rfl rfl rfl rfl ?_
              rintro v cc ⟨rfl, rfl⟩
              refine ⟨_, rfl, rfl, ?_⟩
              show AW Z 0 0 145 [some (.ref 0), none] [] ([kR 0 (R_s_at_fault_towns_op_arg_codes_factsHere v0 q40.1 q40.2.1 z39 q40.2.2.1 q40.2.2.2.1 q40.2.2.2.2 (if (q3 = 2) then 7 else 31))] : List (List zE)).flatten
              refine AW.run hZ hRm [148] 400 ?_
              show AW Z 0 0 148 [some (.ref 0), none] [.int 0, .int 0, .ref 0] ([kR 0 (R_s_at_fault_towns_op_arg_codes_factsHere v0 q40.1 q40.2.1 z39 q40.2.2.1 q40.2.2.2.1 q40.2.2.2.2 (if (q3 = 2) then 7 else 31))] : List (List zE)).flatten
              obtain ⟨q41, h42, hf⟩ := zbind hf
              refine AW.callVc hZ hR hN (c_R_emit N (R_s_at_fault_towns_op_arg_codes_factsHere v0 q40.1 q40.2.1 z39 q40.2.2.1 q40.2.2.2.1 q40.2.2.2.2 (if (q3 = 2) then 7 else 31)) 0 0 q41 h42) zMX12_emit_ok rfl rfl zK_BorrowedLivesModel_262 zV_X12_emit rfl [25] [0] [0, 1, 2, 3, 4, 5, 6, 7, 8, 9, 10, 11, 12, 13, 14, 15, 16, 17, 18, 19, 20, 21, 22, 23, 24] rfl rfl rfl (by decide) (by decide) (by omega) (by decide) (Nat.zero_le _) (Nat.zero_le _) rfl rfl rfl rfl rfl ?_
              rintro v cc ⟨rfl, rfl⟩
              refine ⟨_, rfl, rfl, ?_⟩
              show AW Z 0 0 151 [some (.ref 0), none] [] ([kR 0 (R_s_at_fault_towns_op_arg_codes_factsHere v0 q40.1 q40.2.1 z39 q41.1 q41.2.1 q41.2.2 (if (q3 = 2) then 7 else 31))] : List (List zE)).flatten
              cases hf
              exact AW.vret hZ hE rfl rfl rfl (Nat.le_refl 0) (Nat.le_refl 0) rfl ⟨rfl, rfl⟩
            · rw [if_pos c36] at hf
              refine ⟨(by decide), ?_⟩
              obtain ⟨q45, h46, hf⟩ := zbind hf
              refine AW.callVc hZ hR hN (c_R_takeNumber N (R_s_at_hasSigned v0 ((R_at v0) + 1) 1) 0 999 q45 h46) zMX12_takeNumber_ok rfl rfl zK_BorrowedLivesModel_200 zV_X12_takeNumber rfl [25] [0] [0, 1, 2, 3, 4, 5, 6, 7, 8, 9, 10, 11, 12, 13, 14, 15, 16, 17, 18, 19, 20, 21, 22, 23, 24] rfl rfl rfl (by decide) (by decide) (by omega) (by decide) (Nat.zero_le _) (Nat.zero_le _) rfl rfl rfl rfl rfl ?_
              rintro v cc ⟨rfl, rfl⟩
              refine ⟨_, rfl, rfl, ?_⟩
              show AW Z 0 0 107 [some (.ref 0), some (.int q3)] [.int q45.1, .int 82, .ref 6] ([kR 0 (R_s_at_fault_hasSigned v0 q45.2.1 q45.2.2 1)] : List (List zE)).flatten
              refine AW.run hZ hRm [151] 400 ?_
              show (¬ ((82 : Int32) < 0 ∨ 160 ≤ Int32.toNatClampNeg 82) ∧ AW Z 0 0 151 [some (.ref 0), some (.int q3)] [] ([kR 0 (R_s_at_fault_towns_hasSigned v0 q45.2.1 q45.2.2 (upd (R_towns v0) (Int32.toNatClampNeg 82) q45.1) 1)] : List (List zE)).flatten)
              refine ⟨(by decide), ?_⟩
              cases hf
              exact AW.vret hZ hE rfl rfl rfl (Nat.le_refl 0) (Nat.le_refl 0) rfl ⟨rfl, rfl⟩
          · rw [if_neg c35] at hf
            cases hf
            exact AW.vret hZ hE rfl rfl rfl (Nat.le_refl 0) (Nat.le_refl 0) rfl ⟨rfl, rfl⟩
        · rw [if_neg c34] at hf
          obtain ⟨q47, h60, hf⟩ := zbind hf
          refine AW.callVc hZ hR hN (c_R_wrong N v0 3 q47 h60) zMX12_wrong_ok rfl rfl zK_BorrowedLivesModel_188 zV_X12_wrong rfl [25] [0] [0, 1, 2, 3, 4, 5, 6, 7, 8, 9, 10, 11, 12, 13, 14, 15, 16, 17, 18, 19, 20, 21, 22, 23, 24] rfl rfl rfl (by decide) (by decide) (by omega) (by decide) (Nat.zero_le _) (Nat.zero_le _) rfl rfl rfl rfl rfl ?_
          rintro v cc ⟨rfl, rfl⟩
          refine ⟨_, rfl, rfl, ?_⟩
          show AW Z 0 0 65 [some (.ref 0), some (.int q3)] [] ([kR 0 (R_fault_s v0 q47)] : List (List zE)).flatten
          refine AW.run hZ hRm [72, 104, 127] 400 ?_
          show (((q47 ≤ 0) → ((¬ (q3 = 4) → (¬ ((83 + q3) < 0 ∨ 160 ≤ Int32.toNatClampNeg (83 + q3)) ∧ AW Z 0 0 127 [some (.ref 0), some (.int q3)] [.int 2, .int q3, .ref 0] ([kR 0 (R_s_at_fault_towns v0 ((R_at v0) + 1) q47 (upd (R_towns v0) (Int32.toNatClampNeg (83 + q3)) (R_codes v0)))] : List (List zE)).flatten)) ∧ ((q3 = 4) → (((1 : Int32) = 0 ∨ (1 : Int32) = 1) ∧ AW Z 0 0 104 [some (.ref 0), some (.int q3)] [.int 999, .int 0, .ref 0, .int 82, .ref 6] ([kR 0 (R_s_at_fault_hasSigned v0 ((R_at v0) + 1) q47 1)] : List (List zE)).flatten)))) ∧ (¬ (q47 ≤ 0) → AW Z 0 0 72 [some (.ref 0), some (.int q3)] [] ([kR 0 (R_fault_s v0 q47)] : List (List zE)).flatten))
          refine ⟨fun c48 => ?_, fun c48 => ?_⟩
          · rw [if_pos c48] at hf
            refine ⟨fun c49 => ?_, fun c49 => ?_⟩
            · rw [if_neg c49] at hf
              obtain ⟨b57, hf⟩ := zneed hf
              refine ⟨b57, ?_⟩
              suffices H50 : AW Z 0 0 137 [some (.ref 0), none] [.int (if (q3 = 2) then 7 else 31), .ref 0] ([kR 0 (R_s_at_fault_towns v0 ((R_at v0) + 1) q47 (upd (R_towns v0) (Int32.toNatClampNeg (83 + q3)) (R_codes v0)))] : List (List zE)).flatten from by
                refine AW.run hZ hRm [137] 400 ?_
                show ((¬ (q3 = 2) → AW Z 0 0 137 [some (.ref 0), some (.int q3)] [.int 31, .ref 0] ([kR 0 (R_s_at_fault_towns v0 ((R_at v0) + 1) q47 (upd (R_towns v0) (Int32.toNatClampNeg (83 + q3)) (R_codes v0)))] : List (List zE)).flatten) ∧ ((q3 = 2) → AW Z 0 0 137 [some (.ref 0), some (.int q3)] [.int 7, .ref 0] ([kR 0 (R_s_at_fault_towns v0 ((R_at v0) + 1) q47 (upd (R_towns v0) (Int32.toNatClampNeg (83 + q3)) (R_codes v0)))] : List (List zE)).flatten))
                refine ⟨fun c51 => ?_, fun c51 => ?_⟩
                · refine AW.forget [true, false] ?_
                  show AW Z 0 0 137 [some (.ref 0), none] [.int 31, .ref 0] ([kR 0 (R_s_at_fault_towns v0 ((R_at v0) + 1) q47 (upd (R_towns v0) (Int32.toNatClampNeg (83 + q3)) (R_codes v0)))] : List (List zE)).flatten
                  simpa only [if_neg c51] using H50
                · refine AW.forget [true, false] ?_
                  show AW Z 0 0 137 [some (.ref 0), none] [.int 7, .ref 0] ([kR 0 (R_s_at_fault_towns v0 ((R_at v0) + 1) q47 (upd (R_towns v0) (Int32.toNatClampNeg (83 + q3)) (R_codes v0)))] : List (List zE)).flatten
                  simpa only [if_pos c51] using H50
              replace hf := zlet_gen hf
              generalize ((upd (R_towns v0) (Int32.toNatClampNeg (83 + q3)) (R_codes v0)) : (Nat → Int32)) = z52 at hf ⊢
              refine AW.run hZ hRm [142] 400 ?_
              show AW Z 0 0 142 [some (.ref 0), none] [.int 0, .ref 0] ([kR 0 (R_s_at_fault_towns_factsHere v0 ((R_at v0) + 1) q47 z52 (if (q3 = 2) then 7 else 31))] : List (List zE)).flatten
              obtain ⟨q53, h56, hf⟩ := zbind hf
              refine AW.callVc hZ hR hN (c_R_all 64 N (R_s_at_fault_towns_factsHere v0 ((R_at v0) + 1) q47 z52 (if (q3 = 2) then 7 else 31)) 0 q53 h56) zMX12_all_ok rfl rfl zK_BorrowedLivesModel_259 zV_X12_all rfl [25] [0] [0, 1, 2, 3, 4, 5, 6, 7, 8, 9, 10, 11, 12, 13, 14, 15, 16, 17, 18, 19, 20, 21, 22, 23, 24] rfl rfl rfl (by decide) (by decide) (by omega) (by decide) (Nat.zero_le _) (Nat.zero_le _) rfl rfl rfl rfl rfl ?_
              rintro v cc ⟨rfl, rfl⟩
              refine ⟨_, rfl, rfl, ?_⟩
              show AW Z 0 0 145 [some (.ref 0), none] [] ([kR 0 (R_s_at_fault_towns_op_arg_codes_factsHere v0 q53.1 q53.2.1 z52 q53.2.2.1 q53.2.2.2.1 q53.2.2.2.2 (if (q3 = 2) then 7 else 31))] : List (List zE)).flatten
              refine AW.run hZ hRm [148] 400 ?_
              show AW Z 0 0 148 [some (.ref 0), none] [.int 0, .int 0, .ref 0] ([kR 0 (R_s_at_fault_towns_op_arg_codes_factsHere v0 q53.1 q53.2.1 z52 q53.2.2.1 q53.2.2.2.1 q53.2.2.2.2 (if (q3 = 2) then 7 else 31))] : List (List zE)).flatten
              obtain ⟨q54, h55, hf⟩ := zbind hf
              refine AW.callVc hZ hR hN (c_R_emit N (R_s_at_fault_towns_op_arg_codes_factsHere v0 q53.1 q53.2.1 z52 q53.2.2.1 q53.2.2.2.1 q53.2.2.2.2 (if (q3 = 2) then 7 else 31)) 0 0 q54 h55) zMX12_emit_ok rfl rfl zK_BorrowedLivesModel_262 zV_X12_emit rfl [25] [0] [0, 1, 2, 3, 4, 5, 6, 7, 8, 9, 10, 11, 12, 13, 14, 15, 16, 17, 18, 19, 20, 21, 22, 23, 24] rfl rfl rfl (by decide) (by decide) (by omega) (by decide) (Nat.zero_le _) (Nat.zero_le _) rfl rfl rfl rfl rfl ?_
              rintro v cc ⟨rfl, rfl⟩
              refine ⟨_, rfl, rfl, ?_⟩
              show AW Z 0 0 151 [some (.ref 0), none] [] ([kR 0 (R_s_at_fault_towns_op_arg_codes_factsHere v0 q53.1 q53.2.1 z52 q54.1 q54.2.1 q54.2.2 (if (q3 = 2) then 7 else 31))] : List (List zE)).flatten
              cases hf
              exact AW.vret hZ hE rfl rfl rfl (Nat.le_refl 0) (Nat.le_refl 0) rfl ⟨rfl, rfl⟩
            · rw [if_pos c49] at hf
              refine ⟨(by decide), ?_⟩
              obtain ⟨q58, h59, hf⟩ := zbind hf
              refine AW.callVc hZ hR hN (c_R_takeNumber N (R_s_at_fault_hasSigned v0 ((R_at v0) + 1) q47 1) 0 999 q58 h59) zMX12_takeNumber_ok rfl rfl zK_BorrowedLivesModel_200 zV_X12_takeNumber rfl [25] [0] [0, 1, 2, 3, 4, 5, 6, 7, 8, 9, 10, 11, 12, 13, 14, 15, 16, 17, 18, 19, 20, 21, 22, 23, 24] rfl rfl rfl (by decide) (by decide) (by omega) (by decide) (Nat.zero_le _) (Nat.zero_le _) rfl rfl rfl rfl rfl ?_
              rintro v cc ⟨rfl, rfl⟩
              refine ⟨_, rfl, rfl, ?_⟩
              show AW Z 0 0 107 [some (.ref 0), some (.int q3)] [.int q58.1, .int 82, .ref 6] ([kR 0 (R_s_at_fault_hasSigned v0 q58.2.1 q58.2.2 1)] : List (List zE)).flatten
              refine AW.run hZ hRm [151] 400 ?_
              show (¬ ((82 : Int32) < 0 ∨ 160 ≤ Int32.toNatClampNeg 82) ∧ AW Z 0 0 151 [some (.ref 0), some (.int q3)] [] ([kR 0 (R_s_at_fault_towns_hasSigned v0 q58.2.1 q58.2.2 (upd (R_towns v0) (Int32.toNatClampNeg 82) q58.1) 1)] : List (List zE)).flatten)
              refine ⟨(by decide), ?_⟩
              cases hf
              exact AW.vret hZ hE rfl rfl rfl (Nat.le_refl 0) (Nat.le_refl 0) rfl ⟨rfl, rfl⟩
          · rw [if_neg c48] at hf
            cases hf
            exact AW.vret hZ hE rfl rfl rfl (Nat.le_refl 0) (Nat.le_refl 0) rfl ⟨rfl, rfl⟩
    · rw [if_neg c4] at hf
      obtain ⟨q61, h74, hf⟩ := zbind hf
      refine AW.callVc hZ hR hN (c_R_wrong N v0 1 q61 h74) zMX12_wrong_ok rfl rfl zK_BorrowedLivesModel_188 zV_X12_wrong rfl [25] [0] [0, 1, 2, 3, 4, 5, 6, 7, 8, 9, 10, 11, 12, 13, 14, 15, 16, 17, 18, 19, 20, 21, 22, 23, 24] rfl rfl rfl (by decide) (by decide) (by omega) (by decide) (Nat.zero_le _) (Nat.zero_le _) rfl rfl rfl rfl rfl ?_
      rintro v cc ⟨rfl, rfl⟩
      refine ⟨_, rfl, rfl, ?_⟩
      show AW Z 0 0 30 [some (.ref 0), some (.int q3)] [] ([kR 0 (R_fault_s v0 q61)] : List (List zE)).flatten
      refine AW.run hZ hRm [72, 104, 127] 400 ?_
      show (((q61 ≤ 0) → ((¬ (q3 = 4) → (¬ ((83 + q3) < 0 ∨ 160 ≤ Int32.toNatClampNeg (83 + q3)) ∧ AW Z 0 0 127 [some (.ref 0), some (.int q3)] [.int 2, .int q3, .ref 0] ([kR 0 (R_s_at_fault_towns v0 ((R_at v0) + 1) q61 (upd (R_towns v0) (Int32.toNatClampNeg (83 + q3)) (R_codes v0)))] : List (List zE)).flatten)) ∧ ((q3 = 4) → (((1 : Int32) = 0 ∨ (1 : Int32) = 1) ∧ AW Z 0 0 104 [some (.ref 0), some (.int q3)] [.int 999, .int 0, .ref 0, .int 82, .ref 6] ([kR 0 (R_s_at_fault_hasSigned v0 ((R_at v0) + 1) q61 1)] : List (List zE)).flatten)))) ∧ (¬ (q61 ≤ 0) → AW Z 0 0 72 [some (.ref 0), some (.int q3)] [] ([kR 0 (R_fault_s v0 q61)] : List (List zE)).flatten))
      refine ⟨fun c62 => ?_, fun c62 => ?_⟩
      · rw [if_pos c62] at hf
        refine ⟨fun c63 => ?_, fun c63 => ?_⟩
        · rw [if_neg c63] at hf
          obtain ⟨b71, hf⟩ := zneed hf
          refine ⟨b71, ?_⟩
          suffices H64 : AW Z 0 0 137 [some (.ref 0), none] [.int (if (q3 = 2) then 7 else 31), .ref 0] ([kR 0 (R_s_at_fault_towns v0 ((R_at v0) + 1) q61 (upd (R_towns v0) (Int32.toNatClampNeg (83 + q3)) (R_codes v0)))] : List (List zE)).flatten from by
            refine AW.run hZ hRm [137] 400 ?_
            show ((¬ (q3 = 2) → AW Z 0 0 137 [some (.ref 0), some (.int q3)] [.int 31, .ref 0] ([kR 0 (R_s_at_fault_towns v0 ((R_at v0) + 1) q61 (upd (R_towns v0) (Int32.toNatClampNeg (83 + q3)) (R_codes v0)))] : List (List zE)).flatten) ∧ ((q3 = 2) → AW Z 0 0 137 [some (.ref 0), some (.int q3)] [.int 7, .ref 0] ([kR 0 (R_s_at_fault_towns v0 ((R_at v0) + 1) q61 (upd (R_towns v0) (Int32.toNatClampNeg (83 + q3)) (R_codes v0)))] : List (List zE)).flatten))
            refine ⟨fun c65 => ?_, fun c65 => ?_⟩
            · refine AW.forget [true, false] ?_
              show AW Z 0 0 137 [some (.ref 0), none] [.int 31, .ref 0] ([kR 0 (R_s_at_fault_towns v0 ((R_at v0) + 1) q61 (upd (R_towns v0) (Int32.toNatClampNeg (83 + q3)) (R_codes v0)))] : List (List zE)).flatten
              simpa only [if_neg c65] using H64
            · refine AW.forget [true, false] ?_
              show AW Z 0 0 137 [some (.ref 0), none] [.int 7, .ref 0] ([kR 0 (R_s_at_fault_towns v0 ((R_at v0) + 1) q61 (upd (R_towns v0) (Int32.toNatClampNeg (83 + q3)) (R_codes v0)))] : List (List zE)).flatten
              simpa only [if_pos c65] using H64
          replace hf := zlet_gen hf
          generalize ((upd (R_towns v0) (Int32.toNatClampNeg (83 + q3)) (R_codes v0)) : (Nat → Int32)) = z66 at hf ⊢
          refine AW.run hZ hRm [142] 400 ?_
          show AW Z 0 0 142 [some (.ref 0), none] [.int 0, .ref 0] ([kR 0 (R_s_at_fault_towns_factsHere v0 ((R_at v0) + 1) q61 z66 (if (q3 = 2) then 7 else 31))] : List (List zE)).flatten
          obtain ⟨q67, h70, hf⟩ := zbind hf
          refine AW.callVc hZ hR hN (c_R_all 64 N (R_s_at_fault_towns_factsHere v0 ((R_at v0) + 1) q61 z66 (if (q3 = 2) then 7 else 31)) 0 q67 h70) zMX12_all_ok rfl rfl zK_BorrowedLivesModel_259 zV_X12_all rfl [25] [0] [0, 1, 2, 3, 4, 5, 6, 7, 8, 9, 10, 11, 12, 13, 14, 15, 16, 17, 18, 19, 20, 21, 22, 23, 24] rfl rfl rfl (by decide) (by decide) (by omega) (by decide) (Nat.zero_le _) (Nat.zero_le _) rfl rfl rfl rfl rfl ?_
          rintro v cc ⟨rfl, rfl⟩
          refine ⟨_, rfl, rfl, ?_⟩
          show AW Z 0 0 145 [some (.ref 0), none] [] ([kR 0 (R_s_at_fault_towns_op_arg_codes_factsHere v0 q67.1 q67.2.1 z66 q67.2.2.1 q67.2.2.2.1 q67.2.2.2.2 (if (q3 = 2) then 7 else 31))] : List (List zE)).flatten
          refine AW.run hZ hRm [148] 400 ?_
          show AW Z 0 0 148 [some (.ref 0), none] [.int 0, .int 0, .ref 0] ([kR 0 (R_s_at_fault_towns_op_arg_codes_factsHere v0 q67.1 q67.2.1 z66 q67.2.2.1 q67.2.2.2.1 q67.2.2.2.2 (if (q3 = 2) then 7 else 31))] : List (List zE)).flatten
          obtain ⟨q68, h69, hf⟩ := zbind hf
          refine AW.callVc hZ hR hN (c_R_emit N (R_s_at_fault_towns_op_arg_codes_factsHere v0 q67.1 q67.2.1 z66 q67.2.2.1 q67.2.2.2.1 q67.2.2.2.2 (if (q3 = 2) then 7 else 31)) 0 0 q68 h69) zMX12_emit_ok rfl rfl zK_BorrowedLivesModel_262 zV_X12_emit rfl [25] [0] [0, 1, 2, 3, 4, 5, 6, 7, 8, 9, 10, 11, 12, 13, 14, 15, 16, 17, 18, 19, 20, 21, 22, 23, 24] rfl rfl rfl (by decide) (by decide) (by omega) (by decide) (Nat.zero_le _) (Nat.zero_le _) rfl rfl rfl rfl rfl ?_
          rintro v cc ⟨rfl, rfl⟩
          refine ⟨_, rfl, rfl, ?_⟩
          show AW Z 0 0 151 [some (.ref 0), none] [] ([kR 0 (R_s_at_fault_towns_op_arg_codes_factsHere v0 q67.1 q67.2.1 z66 q68.1 q68.2.1 q68.2.2 (if (q3 = 2) then 7 else 31))] : List (List zE)).flatten
          cases hf
          exact AW.vret hZ hE rfl rfl rfl (Nat.le_refl 0) (Nat.le_refl 0) rfl ⟨rfl, rfl⟩
        · rw [if_pos c63] at hf
          refine ⟨(by decide), ?_⟩
          obtain ⟨q72, h73, hf⟩ := zbind hf
          refine AW.callVc hZ hR hN (c_R_takeNumber N (R_s_at_fault_hasSigned v0 ((R_at v0) + 1) q61 1) 0 999 q72 h73) zMX12_takeNumber_ok rfl rfl zK_BorrowedLivesModel_200 zV_X12_takeNumber rfl [25] [0] [0, 1, 2, 3, 4, 5, 6, 7, 8, 9, 10, 11, 12, 13, 14, 15, 16, 17, 18, 19, 20, 21, 22, 23, 24] rfl rfl rfl (by decide) (by decide) (by omega) (by decide) (Nat.zero_le _) (Nat.zero_le _) rfl rfl rfl rfl rfl ?_
          rintro v cc ⟨rfl, rfl⟩
          refine ⟨_, rfl, rfl, ?_⟩
          show AW Z 0 0 107 [some (.ref 0), some (.int q3)] [.int q72.1, .int 82, .ref 6] ([kR 0 (R_s_at_fault_hasSigned v0 q72.2.1 q72.2.2 1)] : List (List zE)).flatten
          refine AW.run hZ hRm [151] 400 ?_
          show (¬ ((82 : Int32) < 0 ∨ 160 ≤ Int32.toNatClampNeg 82) ∧ AW Z 0 0 151 [some (.ref 0), some (.int q3)] [] ([kR 0 (R_s_at_fault_towns_hasSigned v0 q72.2.1 q72.2.2 (upd (R_towns v0) (Int32.toNatClampNeg 82) q72.1) 1)] : List (List zE)).flatten)
          refine ⟨(by decide), ?_⟩
          cases hf
          exact AW.vret hZ hE rfl rfl rfl (Nat.le_refl 0) (Nat.le_refl 0) rfl ⟨rfl, rfl⟩
      · rw [if_neg c62] at hf
        cases hf
        exact AW.vret hZ hE rfl rfl rfl (Nat.le_refl 0) (Nat.le_refl 0) rfl ⟨rfl, rfl⟩
  · rw [if_neg c2] at hf
    refine ⟨fun _ => ?_, fun h => absurd h (by decide)⟩
    refine ⟨fun h => absurd h (by decide), fun _ => ?_⟩
    refine ⟨fun c76 => ?_, fun c76 => ?_⟩
    · rw [if_pos c76] at hf
      refine ⟨fun c77 => ?_, fun c77 => ?_⟩
      · rw [if_pos c77] at hf
        refine ⟨fun h => absurd h (by decide), fun _ => ?_⟩
        refine ⟨(by decide), ?_⟩
        obtain ⟨q78, h79, hf⟩ := zbind hf
        refine AW.callVc hZ hR hN (c_R_takeNumber N (R_s_at_hasSigned v0 ((R_at v0) + 1) 1) 0 999 q78 h79) zMX12_takeNumber_ok rfl rfl zK_BorrowedLivesModel_200 zV_X12_takeNumber rfl [25] [0] [0, 1, 2, 3, 4, 5, 6, 7, 8, 9, 10, 11, 12, 13, 14, 15, 16, 17, 18, 19, 20, 21, 22, 23, 24] rfl rfl rfl (by decide) (by decide) (by omega) (by decide) (Nat.zero_le _) (Nat.zero_le _) rfl rfl rfl rfl rfl ?_
        rintro v cc ⟨rfl, rfl⟩
        refine ⟨_, rfl, rfl, ?_⟩
        show AW Z 0 0 107 [some (.ref 0), some (.int 4)] [.int q78.1, .int 82, .ref 6] ([kR 0 (R_s_at_fault_hasSigned v0 q78.2.1 q78.2.2 1)] : List (List zE)).flatten
        refine AW.run hZ hRm [151] 400 ?_
        show (¬ ((82 : Int32) < 0 ∨ 160 ≤ Int32.toNatClampNeg 82) ∧ AW Z 0 0 151 [some (.ref 0), some (.int 4)] [] ([kR 0 (R_s_at_fault_towns_hasSigned v0 q78.2.1 q78.2.2 (upd (R_towns v0) (Int32.toNatClampNeg 82) q78.1) 1)] : List (List zE)).flatten)
        refine ⟨(by decide), ?_⟩
        cases hf
        exact AW.vret hZ hE rfl rfl rfl (Nat.le_refl 0) (Nat.le_refl 0) rfl ⟨rfl, rfl⟩
      · rw [if_neg c77] at hf
        cases hf
        exact AW.vret hZ hE rfl rfl rfl (Nat.le_refl 0) (Nat.le_refl 0) rfl ⟨rfl, rfl⟩
    · rw [if_neg c76] at hf
      obtain ⟨q80, h84, hf⟩ := zbind hf
      refine AW.callVc hZ hR hN (c_R_wrong N v0 3 q80 h84) zMX12_wrong_ok rfl rfl zK_BorrowedLivesModel_188 zV_X12_wrong rfl [25] [0] [0, 1, 2, 3, 4, 5, 6, 7, 8, 9, 10, 11, 12, 13, 14, 15, 16, 17, 18, 19, 20, 21, 22, 23, 24] rfl rfl rfl (by decide) (by decide) (by omega) (by decide) (Nat.zero_le _) (Nat.zero_le _) rfl rfl rfl rfl rfl ?_
      rintro v cc ⟨rfl, rfl⟩
      refine ⟨_, rfl, rfl, ?_⟩
      show AW Z 0 0 65 [some (.ref 0), some (.int 4)] [] ([kR 0 (R_fault_s v0 q80)] : List (List zE)).flatten
      refine AW.run hZ hRm [72, 104] 400 ?_
      show (((q80 ≤ 0) → ((¬ ((4 : Int32) = 4) → (¬ (((83 : Int32) + 4) < 0 ∨ 160 ≤ Int32.toNatClampNeg ((83 : Int32) + 4)) ∧ ((¬ ((4 : Int32) = 2) → AW Z 0 0 142 [some (.ref 0), some (.int 4)] [.int 0, .ref 0] ([kR 0 (R_s_at_fault_towns_factsHere v0 ((R_at v0) + 1) q80 (upd (R_towns v0) (Int32.toNatClampNeg ((83 : Int32) + 4)) (R_codes v0)) 31)] : List (List zE)).flatten) ∧ (((4 : Int32) = 2) → AW Z 0 0 142 [some (.ref 0), some (.int 4)] [.int 0, .ref 0] ([kR 0 (R_s_at_fault_towns_factsHere v0 ((R_at v0) + 1) q80 (upd (R_towns v0) (Int32.toNatClampNeg ((83 : Int32) + 4)) (R_codes v0)) 7)] : List (List zE)).flatten)))) ∧ (((4 : Int32) = 4) → (((1 : Int32) = 0 ∨ (1 : Int32) = 1) ∧ AW Z 0 0 104 [some (.ref 0), some (.int 4)] [.int 999, .int 0, .ref 0, .int 82, .ref 6] ([kR 0 (R_s_at_fault_hasSigned v0 ((R_at v0) + 1) q80 1)] : List (List zE)).flatten)))) ∧ (¬ (q80 ≤ 0) → AW Z 0 0 72 [some (.ref 0), some (.int 4)] [] ([kR 0 (R_fault_s v0 q80)] : List (List zE)).flatten))
      refine ⟨fun c81 => ?_, fun c81 => ?_⟩
      · rw [if_pos c81] at hf
        refine ⟨fun h => absurd h (by decide), fun _ => ?_⟩
        refine ⟨(by decide), ?_⟩
        obtain ⟨q82, h83, hf⟩ := zbind hf
        refine AW.callVc hZ hR hN (c_R_takeNumber N (R_s_at_fault_hasSigned v0 ((R_at v0) + 1) q80 1) 0 999 q82 h83) zMX12_takeNumber_ok rfl rfl zK_BorrowedLivesModel_200 zV_X12_takeNumber rfl [25] [0] [0, 1, 2, 3, 4, 5, 6, 7, 8, 9, 10, 11, 12, 13, 14, 15, 16, 17, 18, 19, 20, 21, 22, 23, 24] rfl rfl rfl (by decide) (by decide) (by omega) (by decide) (Nat.zero_le _) (Nat.zero_le _) rfl rfl rfl rfl rfl ?_
        rintro v cc ⟨rfl, rfl⟩
        refine ⟨_, rfl, rfl, ?_⟩
        show AW Z 0 0 107 [some (.ref 0), some (.int 4)] [.int q82.1, .int 82, .ref 6] ([kR 0 (R_s_at_fault_hasSigned v0 q82.2.1 q82.2.2 1)] : List (List zE)).flatten
        refine AW.run hZ hRm [151] 400 ?_
        show (¬ ((82 : Int32) < 0 ∨ 160 ≤ Int32.toNatClampNeg 82) ∧ AW Z 0 0 151 [some (.ref 0), some (.int 4)] [] ([kR 0 (R_s_at_fault_towns_hasSigned v0 q82.2.1 q82.2.2 (upd (R_towns v0) (Int32.toNatClampNeg 82) q82.1) 1)] : List (List zE)).flatten)
        refine ⟨(by decide), ?_⟩
        cases hf
        exact AW.vret hZ hE rfl rfl rfl (Nat.le_refl 0) (Nat.le_refl 0) rfl ⟨rfl, rfl⟩
      · rw [if_neg c81] at hf
        cases hf
        exact AW.vret hZ hE rfl rfl rfl (Nat.le_refl 0) (Nat.le_refl 0) rfl ⟨rfl, rfl⟩
