def f_R_readPerson (N : Nat) (v0 : VR) : Option (Int32 × Int32 × (Nat → Int32) × (Nat → Int64) × Int32) := (if (((R_towns v0) (Int32.toNatClampNeg 80)) = 6) then ((f_R_wrong N v0 5).bind (fun q87 => (some ((R_at v0), q87, (R_towns v0), (R_readNames v0), (R_readMany v0))))) else ((f_R_isName N (R_at_s v0 ((R_at v0) + 1))).bind (fun q2 => (if (q2 = 0) then ((f_R_wrong N (R_at_s v0 ((R_at v0) + 1)) 1).bind (fun q59 => (if (q59 ≤ 0) then (if (((R_at v0) + 1) < 0 ∨ 1002 ≤ Int32.toNatClampNeg ((R_at v0) + 1)) then none else (if ((R_readMany v0) < 0 ∨ 6 ≤ Int32.toNatClampNeg (R_readMany v0)) then none else (zlet ((vp_updL (R_readNames v0) (Int32.toNatClampNeg (R_readMany v0)) ((R_value v0) (Int32.toNatClampNeg ((R_at v0) + 1)))) : (Nat → Int64)) (fun z61 => ((f_R_takeOne N (R_s_at_fault_readNames_readMany v0 (((R_at v0) + 1) + 1) q59 z61 ((R_readMany v0) + 1)) 15 4).bind (fun q62 => (if ((88 + (5 * ((R_towns v0) (Int32.toNatClampNeg 80)))) < 0 ∨ 160 ≤ Int32.toNatClampNeg (88 + (5 * ((R_towns v0) (Int32.toNatClampNeg 80))))) then none else (zlet ((upd (R_towns v0) (Int32.toNatClampNeg (88 + (5 * ((R_towns v0) (Int32.toNatClampNeg 80))))) q62.1) : (Nat → Int32)) (fun z63 => ((f_R_takeAfter N (R_s_at_fault_towns_readNames_readMany v0 q62.2.1 q62.2.2 z63 z61 ((R_readMany v0) + 1)) 1 0 9).bind (fun q64 => (if (((88 + (5 * ((R_towns v0) (Int32.toNatClampNeg 80)))) + 1) < 0 ∨ 160 ≤ Int32.toNatClampNeg ((88 + (5 * ((R_towns v0) (Int32.toNatClampNeg 80)))) + 1)) then none else (zlet ((upd z63 (Int32.toNatClampNeg ((88 + (5 * ((R_towns v0) (Int32.toNatClampNeg 80)))) + 1)) q64.1) : (Nat → Int32)) (fun z65 => ((f_R_takeAfter N (R_s_at_fault_towns_readNames_readMany v0 q64.2.1 q64.2.2 z65 z61 ((R_readMany v0) + 1)) 2 0 999).bind (fun q66 => (if (((88 + (5 * ((R_towns v0) (Int32.toNatClampNeg 80)))) + 2) < 0 ∨ 160 ≤ Int32.toNatClampNeg ((88 + (5 * ((R_towns v0) (Int32.toNatClampNeg 80)))) + 2)) then none else (zlet ((upd z65 (Int32.toNatClampNeg ((88 + (5 * ((R_towns v0) (Int32.toNatClampNeg 80)))) + 2)) q66.1) : (Nat → Int32)) (fun z67 => ((f_R_takeAfter N (R_s_at_fault_towns_readNames_readMany v0 q66.2.1 q66.2.2 z67 z61 ((R_readMany v0) + 1)) 3 0 999).bind (fun q68 => (if (((88 + (5 * ((R_towns v0) (Int32.toNatClampNeg 80)))) + 3) < 0 ∨ 160 ≤ Int32.toNatClampNeg ((88 + (5 * ((R_towns v0) (Int32.toNatClampNeg 80)))) + 3)) then none else (zlet ((upd z67 (Int32.toNatClampNeg ((88 + (5 * ((R_towns v0) (Int32.toNatClampNeg 80)))) + 3)) q68.1) : (Nat → Int32)) (fun z69 => ((f_R_takeAfter N (R_s_at_fault_towns_readNames_readMany v0 q68.2.1 q68.2.2 z69 z61 ((R_readMany v0) + 1)) 4 0 9).bind (fun q70 => (if (((88 + (5 * ((R_towns v0) (Int32.toNatClampNeg 80)))) + 4) < 0 ∨ 160 ≤ Int32.toNatClampNeg ((88 + (5 * ((R_towns v0) (Int32.toNatClampNeg 80)))) + 4)) then none else (zlet ((upd z69 (Int32.toNatClampNeg ((88 + (5 * ((R_towns v0) (Int32.toNatClampNeg 80)))) + 4)) q70.1) : (Nat → Int32)) (fun z71 => (zlet ((upd z71 (Int32.toNatClampNeg 80) ((z71 (Int32.toNatClampNeg 80)) + 1)) : (Nat → Int32)) (fun z72 => (some (q70.2.1, q70.2.2, z72, z61, ((R_readMany v0) + 1)))))))))))))))))))))))))))))))))) else (some (((R_at v0) + 1), q59, (R_towns v0), (R_readNames v0), (R_readMany v0)))))) else ((f_R_find N (R_at_s v0 ((R_at v0) + 1)) 1).bind (fun q4 => (if (q4 < 0) then (if ((R_fault v0) ≤ 0) then (if (((R_at v0) + 1) < 0 ∨ 1002 ≤ Int32.toNatClampNeg ((R_at v0) + 1)) then none else (if ((R_readMany v0) < 0 ∨ 6 ≤ Int32.toNatClampNeg (R_readMany v0)) then none else (zlet ((vp_updL (R_readNames v0) (Int32.toNatClampNeg (R_readMany v0)) ((R_value v0) (Int32.toNatClampNeg ((R_at v0) + 1)))) : (Nat → Int64)) (fun z7 => ((f_R_takeOne N (R_s_at_readNames_readMany v0 (((R_at v0) + 1) + 1) z7 ((R_readMany v0) + 1)) 15 4).bind (fun q8 => (if ((88 + (5 * ((R_towns v0) (Int32.toNatClampNeg 80)))) < 0 ∨ 160 ≤ Int32.toNatClampNeg (88 + (5 * ((R_towns v0) (Int32.toNatClampNeg 80))))) then none else (zlet ((upd (R_towns v0) (Int32.toNatClampNeg (88 + (5 * ((R_towns v0) (Int32.toNatClampNeg 80))))) q8.1) : (Nat → Int32)) (fun z9 => ((f_R_takeAfter N (R_s_at_fault_towns_readNames_readMany v0 q8.2.1 q8.2.2 z9 z7 ((R_readMany v0) + 1)) 1 0 9).bind (fun q10 => (if (((88 + (5 * ((R_towns v0) (Int32.toNatClampNeg 80)))) + 1) < 0 ∨ 160 ≤ Int32.toNatClampNeg ((88 + (5 * ((R_towns v0) (Int32.toNatClampNeg 80)))) + 1)) then none else (zlet ((upd z9 (Int32.toNatClampNeg ((88 + (5 * ((R_towns v0) (Int32.toNatClampNeg 80)))) + 1)) q10.1) : (Nat → Int32)) (fun z11 => ((f_R_takeAfter N (R_s_at_fault_towns_readNames_readMany v0 q10.2.1 q10.2.2 z11 z7 ((R_readMany v0) + 1)) 2 0 999).bind (fun q12 => (if (((88 + (5 * ((R_towns v0) (Int32.toNatClampNeg 80)))) + 2) < 0 ∨ 160 ≤ Int32.toNatClampNeg ((88 + (5 * ((R_towns v0) (Int32.toNatClampNeg 80)))) + 2)) then none else (zlet ((upd z11 (Int32.toNatClampNeg ((88 + (5 * ((R_towns v0) (Int32.toNatClampNeg 80)))) + 2)) q12.1) : (Nat → Int32)) (fun z13 => ((f_R_takeAfter N (R_s_at_fault_towns_readNames_readMany v0 q12.2.1 q12.2.2 z13 z7 ((R_readMany v0) + 1)) 3 0 999).bind (fun q14 => (if (((88 + (5 * ((R_towns v0) (Int32.toNatClampNeg 80)))) + 3) < 0 ∨ 160 ≤ Int32.toNatClampNeg ((88 + (5 * ((R_towns v0) (Int32.toNatClampNeg 80)))) + 3)) then none else (zlet ((upd z13 (Int32.toNatClampNeg ((88 + (5 * ((R_towns v0) (Int32.toNatClampNeg 80)))) + 3)) q14.1) : (Nat → Int32)) (fun z15 => ((f_R_takeAfter N (R_s_at_fault_towns_readNames_readMany v0 q14.2.1 q14.2.2 z15 z7 ((R_readMany v0) + 1)) 4 0 9).bind (fun q16 => (if (((88 + (5 * ((R_towns v0) (Int32.toNatClampNeg 80)))) + 4) < 0 ∨ 160 ≤ Int32.toNatClampNeg ((88 + (5 * ((R_towns v0) (Int32.toNatClampNeg 80)))) + 4)) then none else (zlet ((upd z15 (Int32.toNatClampNeg ((88 + (5 * ((R_towns v0) (Int32.toNatClampNeg 80)))) + 4)) q16.1) : (Nat → Int32)) (fun z17 => (zlet ((upd z17 (Int32.toNatClampNeg 80) ((z17 (Int32.toNatClampNeg 80)) + 1)) : (Nat → Int32)) (fun z18 => (some (q16.2.1, q16.2.2, z18, z7, ((R_readMany v0) + 1)))))))))))))))))))))))))))))))))) else (some (((R_at v0) + 1), (R_fault v0), (R_towns v0), (R_readNames v0), (R_readMany v0)))) else ((f_R_wrong N (R_at_s v0 ((R_at v0) + 1)) 3).bind (fun q31 => (if (q31 ≤ 0) then (if (((R_at v0) + 1) < 0 ∨ 1002 ≤ Int32.toNatClampNeg ((R_at v0) + 1)) then none else (if ((R_readMany v0) < 0 ∨ 6 ≤ Int32.toNatClampNeg (R_readMany v0)) then none else (zlet ((vp_updL (R_readNames v0) (Int32.toNatClampNeg (R_readMany v0)) ((R_value v0) (Int32.toNatClampNeg ((R_at v0) + 1)))) : (Nat → Int64)) (fun z33 => ((f_R_takeOne N (R_s_at_fault_readNames_readMany v0 (((R_at v0) + 1) + 1) q31 z33 ((R_readMany v0) + 1)) 15 4).bind (fun q34 => (if ((88 + (5 * ((R_towns v0) (Int32.toNatClampNeg 80)))) < 0 ∨ 160 ≤ Int32.toNatClampNeg (88 + (5 * ((R_towns v0) (Int32.toNatClampNeg 80))))) then none else (zlet ((upd (R_towns v0) (Int32.toNatClampNeg (88 + (5 * ((R_towns v0) (Int32.toNatClampNeg 80))))) q34.1) : (Nat → Int32)) (fun z35 => ((f_R_takeAfter N (R_s_at_fault_towns_readNames_readMany v0 q34.2.1 q34.2.2 z35 z33 ((R_readMany v0) + 1)) 1 0 9).bind (fun q36 => (if (((88 + (5 * ((R_towns v0) (Int32.toNatClampNeg 80)))) + 1) < 0 ∨ 160 ≤ Int32.toNatClampNeg ((88 + (5 * ((R_towns v0) (Int32.toNatClampNeg 80)))) + 1)) then none else (zlet ((upd z35 (Int32.toNatClampNeg ((88 + (5 * ((R_towns v0) (Int32.toNatClampNeg 80)))) + 1)) q36.1) : (Nat → Int32)) (fun z37 => ((f_R_takeAfter N (R_s_at_fault_towns_readNames_readMany v0 q36.2.1 q36.2.2 z37 z33 ((R_readMany v0) + 1)) 2 0 999).bind (fun q38 => (if (((88 + (5 * ((R_towns v0) (Int32.toNatClampNeg 80)))) + 2) < 0 ∨ 160 ≤ Int32.toNatClampNeg ((88 + (5 * ((R_towns v0) (Int32.toNatClampNeg 80)))) + 2)) then none else (zlet ((upd z37 (Int32.toNatClampNeg ((88 + (5 * ((R_towns v0) (Int32.toNatClampNeg 80)))) + 2)) q38.1) : (Nat → Int32)) (fun z39 => ((f_R_takeAfter N (R_s_at_fault_towns_readNames_readMany v0 q38.2.1 q38.2.2 z39 z33 ((R_readMany v0) + 1)) 3 0 999).bind (fun q40 => (if (((88 + (5 * ((R_towns v0) (Int32.toNatClampNeg 80)))) + 3) < 0 ∨ 160 ≤ Int32.toNatClampNeg ((88 + (5 * ((R_towns v0) (Int32.toNatClampNeg 80)))) + 3)) then none else (zlet ((upd z39 (Int32.toNatClampNeg ((88 + (5 * ((R_towns v0) (Int32.toNatClampNeg 80)))) + 3)) q40.1) : (Nat → Int32)) (fun z41 => ((f_R_takeAfter N (R_s_at_fault_towns_readNames_readMany v0 q40.2.1 q40.2.2 z41 z33 ((R_readMany v0) + 1)) 4 0 9).bind (fun q42 => (if (((88 + (5 * ((R_towns v0) (Int32.toNatClampNeg 80)))) + 4) < 0 ∨ 160 ≤ Int32.toNatClampNeg ((88 + (5 * ((R_towns v0) (Int32.toNatClampNeg 80)))) + 4)) then none else (zlet ((upd z41 (Int32.toNatClampNeg ((88 + (5 * ((R_towns v0) (Int32.toNatClampNeg 80)))) + 4)) q42.1) : (Nat → Int32)) (fun z43 => (zlet ((upd z43 (Int32.toNatClampNeg 80) ((z43 (Int32.toNatClampNeg 80)) + 1)) : (Nat → Int32)) (fun z44 => (some (q42.2.1, q42.2.2, z44, z33, ((R_readMany v0) + 1)))))))))))))))))))))))))))))))))) else (some (((R_at v0) + 1), q31, (R_towns v0), (R_readNames v0), (R_readMany v0)))))))))))))
set_option maxRecDepth 20000 in
set_option maxHeartbeats 4000000 in
theorem c_R_readPerson (N : Nat) (v0 : VR) (R : Int32 × Int32 × (Nat → Int32) × (Nat → Int64) × Int32) (hf : f_R_readPerson N v0 = some R) : Ct zMX12_readPerson 5 0 0 0 [.ref 0] ([kR 0 v0] : List (List zE)).flatten (fun v cc => v = none ∧ cc = ([kR 0 (R_s_at_fault_towns_readNames_readMany v0 R.1 R.2.1 R.2.2.1 R.2.2.2.1 R.2.2.2.2)] : List (List zE)).flatten) := by
  refine Ct.of zMX12_readPerson_ok (by decide) (Nat.le_of_ble_eq_true rfl) ?_
  intro Z hZ hR hN hE
  have hRm : zRoom Z 0 0 := zRoom0 Z
  unfold f_R_readPerson at hf
  show AW Z 0 0 0 [some (.ref 0), none, none] [] ([kR 0 v0] : List (List zE)).flatten
  refine AW.run hZ hRm [16, 31] 400 ?_
  show (¬ ((80 : Int32) < 0 ∨ 160 ≤ Int32.toNatClampNeg 80) ∧ ((¬ (((R_towns v0) (Int32.toNatClampNeg 80)) = 6) → AW Z 0 0 31 [some (.ref 0), some (.int ((R_towns v0) (Int32.toNatClampNeg 80))), none] [.ref 0] ([kR 0 (R_at_s v0 ((R_at v0) + 1))] : List (List zE)).flatten) ∧ ((((R_towns v0) (Int32.toNatClampNeg 80)) = 6) → AW Z 0 0 16 [some (.ref 0), some (.int ((R_towns v0) (Int32.toNatClampNeg 80))), none] [.int 5, .ref 0] ([kR 0 v0] : List (List zE)).flatten)))
  refine ⟨(by decide), ?_⟩
  refine ⟨fun c1 => ?_, fun c1 => ?_⟩
  · rw [if_neg c1] at hf
    obtain ⟨q2, h86, hf⟩ := zbind hf
    refine AW.callVc hZ hR hN (c_R_isName N (R_at_s v0 ((R_at v0) + 1)) q2 h86) zMX12_isName_ok rfl rfl zK_BorrowedLivesModel_213 zV_X12_isName rfl [25] [0] [0, 1, 2, 3, 4, 5, 6, 7, 8, 9, 10, 11, 12, 13, 14, 15, 16, 17, 18, 19, 20, 21, 22, 23, 24] rfl rfl rfl (by decide) (by decide) (by omega) (by decide) (Nat.zero_le _) (Nat.zero_le _) rfl rfl rfl rfl rfl ?_
    rintro v cc ⟨rfl, rfl⟩
    refine ⟨_, rfl, rfl, ?_⟩
    show AW Z 0 0 34 [some (.ref 0), some (.int ((R_towns v0) (Int32.toNatClampNeg 80))), none] [.int q2] ([kR 0 (R_at_s v0 ((R_at v0) + 1))] : List (List zE)).flatten
    refine AW.run hZ hRm [39, 47] 400 ?_
    show ((¬ (q2 = 0) → AW Z 0 0 47 [some (.ref 0), some (.int ((R_towns v0) (Int32.toNatClampNeg 80))), none] [.int 1, .ref 0] ([kR 0 (R_at_s v0 ((R_at v0) + 1))] : List (List zE)).flatten) ∧ ((q2 = 0) → AW Z 0 0 39 [some (.ref 0), some (.int ((R_towns v0) (Int32.toNatClampNeg 80))), none] [.int 1, .ref 0] ([kR 0 (R_at_s v0 ((R_at v0) + 1))] : List (List zE)).flatten))
    refine ⟨fun c3 => ?_, fun c3 => ?_⟩
    · rw [if_neg c3] at hf
      obtain ⟨q4, h58, hf⟩ := zbind hf
      refine AW.callVc hZ hR hN (c_R_find N (R_at_s v0 ((R_at v0) + 1)) 1 q4 h58) zMX12_find_ok rfl rfl zK_BorrowedLivesModel_217 zV_X12_find rfl [25] [0] [0, 1, 2, 3, 4, 5, 6, 7, 8, 9, 10, 11, 12, 13, 14, 15, 16, 17, 18, 19, 20, 21, 22, 23, 24] rfl rfl rfl (by decide) (by decide) (by omega) (by decide) (Nat.zero_le _) (Nat.zero_le _) rfl rfl rfl rfl rfl ?_
      rintro v cc ⟨rfl, rfl⟩
      refine ⟨_, rfl, rfl, ?_⟩
      show AW Z 0 0 50 [some (.ref 0), some (.int ((R_towns v0) (Int32.toNatClampNeg 80))), none] [.int q4] ([kR 0 (R_at_s v0 ((R_at v0) + 1))] : List (List zE)).flatten
      refine AW.run hZ hRm [55, 65, 84] 400 ?_
      show (((q4 < 0) → ((((R_fault v0) ≤ 0) → (¬ (((R_at v0) + 1) < 0 ∨ 1002 ≤ Int32.toNatClampNeg ((R_at v0) + 1)) ∧ (¬ ((R_readMany v0) < 0 ∨ 6 ≤ Int32.toNatClampNeg (R_readMany v0)) ∧ AW Z 0 0 84 [some (.ref 0), some (.int ((R_towns v0) (Int32.toNatClampNeg 80))), none] [] ([kR 0 (R_s_at_readNames v0 ((R_at v0) + 1) (vp_updL (R_readNames v0) (Int32.toNatClampNeg (R_readMany v0)) ((R_value v0) (Int32.toNatClampNeg ((R_at v0) + 1)))))] : List (List zE)).flatten))) ∧ (¬ ((R_fault v0) ≤ 0) → AW Z 0 0 65 [some (.ref 0), some (.int ((R_towns v0) (Int32.toNatClampNeg 80))), none] [] ([kR 0 (R_at_s v0 ((R_at v0) + 1))] : List (List zE)).flatten))) ∧ (¬ (q4 < 0) → AW Z 0 0 55 [some (.ref 0), some (.int ((R_towns v0) (Int32.toNatClampNeg 80))), none] [.int 3, .ref 0] ([kR 0 (R_at_s v0 ((R_at v0) + 1))] : List (List zE)).flatten))
      refine ⟨fun c5 => ?_, fun c5 => ?_⟩
      · rw [if_pos c5] at hf
        refine ⟨fun c6 => ?_, fun c6 => ?_⟩
        · rw [if_pos c6] at hf
          obtain ⟨b30, hf⟩ := zneed hf
          refine ⟨b30, ?_⟩
          obtain ⟨b29, hf⟩ := zneed hf
          refine ⟨b29, ?_⟩
          replace hf := zlet_gen hf
          generalize ((vp_updL (R_readNames v0) (Int32.toNatClampNeg (R_readMany v0)) ((R_value v0) (Int32.toNatClampNeg ((R_at v0) + 1)))) : (Nat → Int64)) = z7 at hf ⊢
          as_aux_lemma =>
            refine AW.run hZ hRm [120] 400 ?_
            show AW Z 0 0 120 [some (.ref 0), some (.int ((R_towns v0) (Int32.toNatClampNeg 80))), some (.int (88 + (5 * ((R_towns v0) (Int32.toNatClampNeg 80)))))] [.int 4, .int 15, .ref 0, .int (88 + (5 * ((R_towns v0) (Int32.toNatClampNeg 80)))), .ref 6] ([kR 0 (R_s_at_readNames_readMany v0 (((R_at v0) + 1) + 1) z7 ((R_readMany v0) + 1))] : List (List zE)).flatten
            obtain ⟨q8, h28, hf⟩ := zbind hf
            refine AW.callVc hZ hR hN (c_R_takeOne N (R_s_at_readNames_readMany v0 (((R_at v0) + 1) + 1) z7 ((R_readMany v0) + 1)) 15 4 q8 h28) zMX12_takeOne_ok rfl rfl zK_BorrowedLivesModel_246 zV_X12_takeOne rfl [25] [0] [0, 1, 2, 3, 4, 5, 6, 7, 8, 9, 10, 11, 12, 13, 14, 15, 16, 17, 18, 19, 20, 21, 22, 23, 24] rfl rfl rfl (by decide) (by decide) (by omega) (by decide) (Nat.zero_le _) (Nat.zero_le _) rfl rfl rfl rfl rfl ?_
            rintro v cc ⟨rfl, rfl⟩
            refine ⟨_, rfl, rfl, ?_⟩
            show AW Z 0 0 123 [some (.ref 0), some (.int ((R_towns v0) (Int32.toNatClampNeg 80))), some (.int (88 + (5 * ((R_towns v0) (Int32.toNatClampNeg 80)))))] [.int q8.1, .int (88 + (5 * ((R_towns v0) (Int32.toNatClampNeg 80)))), .ref 6] ([kR 0 (R_s_at_fault_readNames_readMany v0 q8.2.1 q8.2.2 z7 ((R_readMany v0) + 1))] : List (List zE)).flatten
            refine AW.run hZ hRm [124] 400 ?_
            show (¬ ((88 + (5 * ((R_towns v0) (Int32.toNatClampNeg 80)))) < 0 ∨ 160 ≤ Int32.toNatClampNeg (88 + (5 * ((R_towns v0) (Int32.toNatClampNeg 80))))) ∧ AW Z 0 0 124 [some (.ref 0), some (.int ((R_towns v0) (Int32.toNatClampNeg 80))), some (.int (88 + (5 * ((R_towns v0) (Int32.toNatClampNeg 80)))))] [] ([kR 0 (R_s_at_fault_towns_readNames_readMany v0 q8.2.1 q8.2.2 (upd (R_towns v0) (Int32.toNatClampNeg (88 + (5 * ((R_towns v0) (Int32.toNatClampNeg 80))))) q8.1) z7 ((R_readMany v0) + 1))] : List (List zE)).flatten)
            obtain ⟨b27, hf⟩ := zneed hf
            refine ⟨b27, ?_⟩
            replace hf := zlet_gen hf
            generalize ((upd (R_towns v0) (Int32.toNatClampNeg (88 + (5 * ((R_towns v0) (Int32.toNatClampNeg 80))))) q8.1) : (Nat → Int32)) = z9 at hf ⊢
            as_aux_lemma =>
              refine AW.run hZ hRm [136] 400 ?_
              show AW Z 0 0 136 [some (.ref 0), some (.int ((R_towns v0) (Int32.toNatClampNeg 80))), some (.int (88 + (5 * ((R_towns v0) (Int32.toNatClampNeg 80)))))] [.int 9, .int 0, .int 1, .ref 0, .int ((88 + (5 * ((R_towns v0) (Int32.toNatClampNeg 80)))) + 1), .ref 6] ([kR 0 (R_s_at_fault_towns_readNames_readMany v0 q8.2.1 q8.2.2 z9 z7 ((R_readMany v0) + 1))] : List (List zE)).flatten
              obtain ⟨q10, h26, hf⟩ := zbind hf
              refine AW.callVc hZ hR hN (c_R_takeAfter N (R_s_at_fault_towns_readNames_readMany v0 q8.2.1 q8.2.2 z9 z7 ((R_readMany v0) + 1)) 1 0 9 q10 h26) zMX12_takeAfter_ok rfl rfl zK_BorrowedLivesModel_249 zV_X12_takeAfter rfl [25] [0] [0, 1, 2, 3, 4, 5, 6, 7, 8, 9, 10, 11, 12, 13, 14, 15, 16, 17, 18, 19, 20, 21, 22, 23, 24] rfl rfl rfl (by decide) (by decide) (by omega) (by decide) (Nat.zero_le _) (Nat.zero_le _) rfl rfl rfl rfl rfl ?_
              rintro v cc ⟨rfl, rfl⟩
              refine ⟨_, rfl, rfl, ?_⟩
              show AW Z 0 0 139 [some (.ref 0), some (.int ((R_towns v0) (Int32.toNatClampNeg 80))), some (.int (88 + (5 * ((R_towns v0) (Int32.toNatClampNeg 80)))))] [.int q10.1, .int ((88 + (5 * ((R_towns v0) (Int32.toNatClampNeg 80)))) + 1), .ref 6] ([kR 0 (R_s_at_fault_towns_readNames_readMany v0 q10.2.1 q10.2.2 z9 z7 ((R_readMany v0) + 1))] : List (List zE)).flatten
              refine AW.run hZ hRm [140] 400 ?_
              show (¬ (((88 + (5 * ((R_towns v0) (Int32.toNatClampNeg 80)))) + 1) < 0 ∨ 160 ≤ Int32.toNatClampNeg ((88 + (5 * ((R_towns v0) (Int32.toNatClampNeg 80)))) + 1)) ∧ AW Z 0 0 140 [some (.ref 0), some (.int ((R_towns v0) (Int32.toNatClampNeg 80))), some (.int (88 + (5 * ((R_towns v0) (Int32.toNatClampNeg 80)))))] [] ([kR 0 (R_s_at_fault_towns_readNames_readMany v0 q10.2.1 q10.2.2 (upd z9 (Int32.toNatClampNeg ((88 + (5 * ((R_towns v0) (Int32.toNatClampNeg 80)))) + 1)) q10.1) z7 ((R_readMany v0) + 1))] : List (List zE)).flatten)
              obtain ⟨b25, hf⟩ := zneed hf
              refine ⟨b25, ?_⟩
              replace hf := zlet_gen hf
              generalize ((upd z9 (Int32.toNatClampNeg ((88 + (5 * ((R_towns v0) (Int32.toNatClampNeg 80)))) + 1)) q10.1) : (Nat → Int32)) = z11 at hf ⊢
              as_aux_lemma =>
                refine AW.run hZ hRm [153] 400 ?_
                show AW Z 0 0 153 [some (.ref 0), some (.int ((R_towns v0) (Int32.toNatClampNeg 80))), some (.int (88 + (5 * ((R_towns v0) (Int32.toNatClampNeg 80)))))] [.int 999, .int 0, .int 2, .ref 0, .int ((88 + (5 * ((R_towns v0) (Int32.toNatClampNeg 80)))) + 2), .ref 6] ([kR 0 (R_s_at_fault_towns_readNames_readMany v0 q10.2.1 q10.2.2 z11 z7 ((R_readMany v0) + 1))] : List (List zE)).flatten
                obtain ⟨q12, h24, hf⟩ := zbind hf
                refine AW.callVc hZ hR hN (c_R_takeAfter N (R_s_at_fault_towns_readNames_readMany v0 q10.2.1 q10.2.2 z11 z7 ((R_readMany v0) + 1)) 2 0 999 q12 h24) zMX12_takeAfter_ok rfl rfl zK_BorrowedLivesModel_249 zV_X12_takeAfter rfl [25] [0] [0, 1, 2, 3, 4, 5, 6, 7, 8, 9, 10, 11, 12, 13, 14, 15, 16, 17, 18, 19, 20, 21, 22, 23, 24] rfl rfl rfl (by decide) (by decide) (by omega) (by decide) (Nat.zero_le _) (Nat.zero_le _) rfl rfl rfl rfl rfl ?_
                rintro v cc ⟨rfl, rfl⟩
                refine ⟨_, rfl, rfl, ?_⟩
                show AW Z 0 0 156 [some (.ref 0), some (.int ((R_towns v0) (Int32.toNatClampNeg 80))), some (.int (88 + (5 * ((R_towns v0) (Int32.toNatClampNeg 80)))))] [.int q12.1, .int ((88 + (5 * ((R_towns v0) (Int32.toNatClampNeg 80)))) + 2), .ref 6] ([kR 0 (R_s_at_fault_towns_readNames_readMany v0 q12.2.1 q12.2.2 z11 z7 ((R_readMany v0) + 1))] : List (List zE)).flatten
                refine AW.run hZ hRm [157] 400 ?_
                show (¬ (((88 + (5 * ((R_towns v0) (Int32.toNatClampNeg 80)))) + 2) < 0 ∨ 160 ≤ Int32.toNatClampNeg ((88 + (5 * ((R_towns v0) (Int32.toNatClampNeg 80)))) + 2)) ∧ AW Z 0 0 157 [some (.ref 0), some (.int ((R_towns v0) (Int32.toNatClampNeg 80))), some (.int (88 + (5 * ((R_towns v0) (Int32.toNatClampNeg 80)))))] [] ([kR 0 (R_s_at_fault_towns_readNames_readMany v0 q12.2.1 q12.2.2 (upd z11 (Int32.toNatClampNeg ((88 + (5 * ((R_towns v0) (Int32.toNatClampNeg 80)))) + 2)) q12.1) z7 ((R_readMany v0) + 1))] : List (List zE)).flatten)
                obtain ⟨b23, hf⟩ := zneed hf
                refine ⟨b23, ?_⟩
                replace hf := zlet_gen hf
                generalize ((upd z11 (Int32.toNatClampNeg ((88 + (5 * ((R_towns v0) (Int32.toNatClampNeg 80)))) + 2)) q12.1) : (Nat → Int32)) = z13 at hf ⊢
                as_aux_lemma =>
                  refine AW.run hZ hRm [170] 400 ?_
                  show AW Z 0 0 170 [some (.ref 0), some (.int ((R_towns v0) (Int32.toNatClampNeg 80))), some (.int (88 + (5 * ((R_towns v0) (Int32.toNatClampNeg 80)))))] [.int 999, .int 0, .int 3, .ref 0, .int ((88 + (5 * ((R_towns v0) (Int32.toNatClampNeg 80)))) + 3), .ref 6] ([kR 0 (R_s_at_fault_towns_readNames_readMany v0 q12.2.1 q12.2.2 z13 z7 ((R_readMany v0) + 1))] : List (List zE)).flatten
                  obtain ⟨q14, h22, hf⟩ := zbind hf
                  refine AW.callVc hZ hR hN (c_R_takeAfter N (R_s_at_fault_towns_readNames_readMany v0 q12.2.1 q12.2.2 z13 z7 ((R_readMany v0) + 1)) 3 0 999 q14 h22) zMX12_takeAfter_ok rfl rfl zK_BorrowedLivesModel_249 zV_X12_takeAfter rfl [25] [0] [0, 1, 2, 3, 4, 5, 6, 7, 8, 9, 10, 11, 12, 13, 14, 15, 16, 17, 18, 19, 20, 21, 22, 23, 24] rfl rfl rfl (by decide) (by decide) (by omega) (by decide) (Nat.zero_le _) (Nat.zero_le _) rfl rfl rfl rfl rfl ?_
                  rintro v cc ⟨rfl, rfl⟩
                  refine ⟨_, rfl, rfl, ?_⟩
                  show AW Z 0 0 173 [some (.ref 0), some (.int ((R_towns v0) (Int32.toNatClampNeg 80))), some (.int (88 + (5 * ((R_towns v0) (Int32.toNatClampNeg 80)))))] [.int q14.1, .int ((88 + (5 * ((R_towns v0) (Int32.toNatClampNeg 80)))) + 3), .ref 6] ([kR 0 (R_s_at_fault_towns_readNames_readMany v0 q14.2.1 q14.2.2 z13 z7 ((R_readMany v0) + 1))] : List (List zE)).flatten
                  refine AW.run hZ hRm [174] 400 ?_
                  show (¬ (((88 + (5 * ((R_towns v0) (Int32.toNatClampNeg 80)))) + 3) < 0 ∨ 160 ≤ Int32.toNatClampNeg ((88 + (5 * ((R_towns v0) (Int32.toNatClampNeg 80)))) + 3)) ∧ AW Z 0 0 174 [some (.ref 0), some (.int ((R_towns v0) (Int32.toNatClampNeg 80))), some (.int (88 + (5 * ((R_towns v0) (Int32.toNatClampNeg 80)))))] [] ([kR 0 (R_s_at_fault_towns_readNames_readMany v0 q14.2.1 q14.2.2 (upd z13 (Int32.toNatClampNeg ((88 + (5 * ((R_towns v0) (Int32.toNatClampNeg 80)))) + 3)) q14.1) z7 ((R_readMany v0) + 1))] : List (List zE)).flatten)
                  obtain ⟨b21, hf⟩ := zneed hf
                  refine ⟨b21, ?_⟩
                  replace hf := zlet_gen hf
                  generalize ((upd z13 (Int32.toNatClampNeg ((88 + (5 * ((R_towns v0) (Int32.toNatClampNeg 80)))) + 3)) q14.1) : (Nat → Int32)) = z15 at hf ⊢
                  as_aux_lemma =>
                    refine AW.run hZ hRm [186] 400 ?_
                    show AW Z 0 0 186 [some (.ref 0), some (.int ((R_towns v0) (Int32.toNatClampNeg 80))), some (.int (88 + (5 * ((R_towns v0) (Int32.toNatClampNeg 80)))))] [.int 9, .int 0, .int 4, .ref 0, .int ((88 + (5 * ((R_towns v0) (Int32.toNatClampNeg 80)))) + 4), .ref 6] ([kR 0 (R_s_at_fault_towns_readNames_readMany v0 q14.2.1 q14.2.2 z15 z7 ((R_readMany v0) + 1))] : List (List zE)).flatten
                    obtain ⟨q16, h20, hf⟩ := zbind hf
                    refine AW.callVc hZ hR hN (c_R_takeAfter N (R_s_at_fault_towns_readNames_readMany v0 q14.2.1 q14.2.2 z15 z7 ((R_readMany v0) + 1)) 4 0 9 q16 h20) zMX12_takeAfter_ok rfl rfl zK_BorrowedLivesModel_249 zV_X12_takeAfter rfl [25] [0] [0, 1, 2, 3, 4, 5, 6, 7, 8, 9, 10, 11, 12, 13, 14, 15, 16, 17, 18, 19, 20, 21, 22, 23, 24] rfl rfl rfl (by decide) (by decide) (by omega) (by decide) (Nat.zero_le _) (Nat.zero_le _) rfl rfl rfl rfl rfl ?_
                    rintro v cc ⟨rfl, rfl⟩
                    refine ⟨_, rfl, rfl, ?_⟩
                    show AW Z 0 0 189 [some (.ref 0), some (.int ((R_towns v0) (Int32.toNatClampNeg 80))), some (.int (88 + (5 * ((R_towns v0) (Int32.toNatClampNeg 80)))))] [.int q16.1, .int ((88 + (5 * ((R_towns v0) (Int32.toNatClampNeg 80)))) + 4), .ref 6] ([kR 0 (R_s_at_fault_towns_readNames_readMany v0 q16.2.1 q16.2.2 z15 z7 ((R_readMany v0) + 1))] : List (List zE)).flatten
                    refine AW.run hZ hRm [190] 400 ?_
                    show (¬ (((88 + (5 * ((R_towns v0) (Int32.toNatClampNeg 80)))) + 4) < 0 ∨ 160 ≤ Int32.toNatClampNeg ((88 + (5 * ((R_towns v0) (Int32.toNatClampNeg 80)))) + 4)) ∧ AW Z 0 0 190 [some (.ref 0), some (.int ((R_towns v0) (Int32.toNatClampNeg 80))), some (.int (88 + (5 * ((R_towns v0) (Int32.toNatClampNeg 80)))))] [] ([kR 0 (R_s_at_fault_towns_readNames_readMany v0 q16.2.1 q16.2.2 (upd z15 (Int32.toNatClampNeg ((88 + (5 * ((R_towns v0) (Int32.toNatClampNeg 80)))) + 4)) q16.1) z7 ((R_readMany v0) + 1))] : List (List zE)).flatten)
                    obtain ⟨b19, hf⟩ := zneed hf
                    refine ⟨b19, ?_⟩
                    replace hf := zlet_gen hf
                    generalize ((upd z15 (Int32.toNatClampNeg ((88 + (5 * ((R_towns v0) (Int32.toNatClampNeg 80)))) + 4)) q16.1) : (Nat → Int32)) = z17 at hf ⊢
                    as_aux_lemma =>
                      refine AW.run hZ hRm [201] 400 ?_
                      show (¬ ((80 : Int32) < 0 ∨ 160 ≤ Int32.toNatClampNeg 80) ∧ (¬ ((80 : Int32) < 0 ∨ 160 ≤ Int32.toNatClampNeg 80) ∧ AW Z 0 0 201 [some (.ref 0), some (.int ((R_towns v0) (Int32.toNatClampNeg 80))), some (.int (88 + (5 * ((R_towns v0) (Int32.toNatClampNeg 80)))))] [] ([kR 0 (R_s_at_fault_towns_readNames_readMany v0 q16.2.1 q16.2.2 (upd z17 (Int32.toNatClampNeg 80) ((z17 (Int32.toNatClampNeg 80)) + 1)) z7 ((R_readMany v0) + 1))] : List (List zE)).flatten))
                      refine ⟨(by decide), ?_⟩
                      refine ⟨(by decide), ?_⟩
                      replace hf := zlet_gen hf
                      generalize ((upd z17 (Int32.toNatClampNeg 80) ((z17 (Int32.toNatClampNeg 80)) + 1)) : (Nat → Int32)) = z18 at hf ⊢
                      as_aux_lemma =>
                        cases hf
                        exact AW.vret hZ hE rfl rfl rfl (Nat.le_refl 0) (Nat.le_refl 0) rfl ⟨rfl, rfl⟩
        · rw [if_neg c6] at hf
          cases hf
          exact AW.vret hZ hE rfl rfl rfl (Nat.le_refl 0) (Nat.le_refl 0) rfl ⟨rfl, rfl⟩
      · rw [if_neg c5] at hf
        obtain ⟨q31, h57, hf⟩ := zbind hf
        refine AW.callVc hZ hR hN (c_R_wrong N (R_at_s v0 ((R_at v0) + 1)) 3 q31 h57) zMX12_wrong_ok rfl rfl zK_BorrowedLivesModel_188 zV_X12_wrong rfl [25] [0] [0, 1, 2, 3, 4, 5, 6, 7, 8, 9, 10, 11, 12, 13, 14, 15, 16, 17, 18, 19, 20, 21, 22, 23, 24] rfl rfl rfl (by decide) (by decide) (by omega) (by decide) (Nat.zero_le _) (Nat.zero_le _) rfl rfl rfl rfl rfl ?_
        rintro v cc ⟨rfl, rfl⟩
        refine ⟨_, rfl, rfl, ?_⟩
        show AW Z 0 0 58 [some (.ref 0), some (.int ((R_towns v0) (Int32.toNatClampNeg 80))), none] [] ([kR 0 (R_s_at_fault v0 ((R_at v0) + 1) q31)] : List (List zE)).flatten
        refine AW.run hZ hRm [65, 84] 400 ?_
        show (((q31 ≤ 0) → (¬ (((R_at v0) + 1) < 0 ∨ 1002 ≤ Int32.toNatClampNeg ((R_at v0) + 1)) ∧ (¬ ((R_readMany v0) < 0 ∨ 6 ≤ Int32.toNatClampNeg (R_readMany v0)) ∧ AW Z 0 0 84 [some (.ref 0), some (.int ((R_towns v0) (Int32.toNatClampNeg 80))), none] [] ([kR 0 (R_s_at_fault_readNames v0 ((R_at v0) + 1) q31 (vp_updL (R_readNames v0) (Int32.toNatClampNeg (R_readMany v0)) ((R_value v0) (Int32.toNatClampNeg ((R_at v0) + 1)))))] : List (List zE)).flatten))) ∧ (¬ (q31 ≤ 0) → AW Z 0 0 65 [some (.ref 0), some (.int ((R_towns v0) (Int32.toNatClampNeg 80))), none] [] ([kR 0 (R_s_at_fault v0 ((R_at v0) + 1) q31)] : List (List zE)).flatten))
        refine ⟨fun c32 => ?_, fun c32 => ?_⟩
        · rw [if_pos c32] at hf
          obtain ⟨b56, hf⟩ := zneed hf
          refine ⟨b56, ?_⟩
          obtain ⟨b55, hf⟩ := zneed hf
          refine ⟨b55, ?_⟩
          replace hf := zlet_gen hf
          generalize ((vp_updL (R_readNames v0) (Int32.toNatClampNeg (R_readMany v0)) ((R_value v0) (Int32.toNatClampNeg ((R_at v0) + 1)))) : (Nat → Int64)) = z33 at hf ⊢
          as_aux_lemma =>
            refine AW.run hZ hRm [120] 400 ?_
            show AW Z 0 0 120 [some (.ref 0), some (.int ((R_towns v0) (Int32.toNatClampNeg 80))), some (.int (88 + (5 * ((R_towns v0) (Int32.toNatClampNeg 80)))))] [.int 4, .int 15, .ref 0, .int (88 + (5 * ((R_towns v0) (Int32.toNatClampNeg 80)))), .ref 6] ([kR 0 (R_s_at_fault_readNames_readMany v0 (((R_at v0) + 1) + 1) q31 z33 ((R_readMany v0) + 1))] : List (List zE)).flatten
            obtain ⟨q34, h54, hf⟩ := zbind hf
            refine AW.callVc hZ hR hN (c_R_takeOne N (R_s_at_fault_readNames_readMany v0 (((R_at v0) + 1) + 1) q31 z33 ((R_readMany v0) + 1)) 15 4 q34 h54) zMX12_takeOne_ok rfl rfl zK_BorrowedLivesModel_246 zV_X12_takeOne rfl [25] [0] [0, 1, 2, 3, 4, 5, 6, 7, 8, 9, 10, 11, 12, 13, 14, 15, 16, 17, 18, 19, 20, 21, 22, 23, 24] rfl rfl rfl (by decide) (by decide) (by omega) (by decide) (Nat.zero_le _) (Nat.zero_le _) rfl rfl rfl rfl rfl ?_
            rintro v cc ⟨rfl, rfl⟩
            refine ⟨_, rfl, rfl, ?_⟩
            show AW Z 0 0 123 [some (.ref 0), some (.int ((R_towns v0) (Int32.toNatClampNeg 80))), some (.int (88 + (5 * ((R_towns v0) (Int32.toNatClampNeg 80)))))] [.int q34.1, .int (88 + (5 * ((R_towns v0) (Int32.toNatClampNeg 80)))), .ref 6] ([kR 0 (R_s_at_fault_readNames_readMany v0 q34.2.1 q34.2.2 z33 ((R_readMany v0) + 1))] : List (List zE)).flatten
            refine AW.run hZ hRm [124] 400 ?_
            show (¬ ((88 + (5 * ((R_towns v0) (Int32.toNatClampNeg 80)))) < 0 ∨ 160 ≤ Int32.toNatClampNeg (88 + (5 * ((R_towns v0) (Int32.toNatClampNeg 80))))) ∧ AW Z 0 0 124 [some (.ref 0), some (.int ((R_towns v0) (Int32.toNatClampNeg 80))), some (.int (88 + (5 * ((R_towns v0) (Int32.toNatClampNeg 80)))))] [] ([kR 0 (R_s_at_fault_towns_readNames_readMany v0 q34.2.1 q34.2.2 (upd (R_towns v0) (Int32.toNatClampNeg (88 + (5 * ((R_towns v0) (Int32.toNatClampNeg 80))))) q34.1) z33 ((R_readMany v0) + 1))] : List (List zE)).flatten)
            obtain ⟨b53, hf⟩ := zneed hf
            refine ⟨b53, ?_⟩
            replace hf := zlet_gen hf
            generalize ((upd (R_towns v0) (Int32.toNatClampNeg (88 + (5 * ((R_towns v0) (Int32.toNatClampNeg 80))))) q34.1) : (Nat → Int32)) = z35 at hf ⊢
            as_aux_lemma =>
              refine AW.run hZ hRm [136] 400 ?_
              show AW Z 0 0 136 [some (.ref 0), some (.int ((R_towns v0) (Int32.toNatClampNeg 80))), some (.int (88 + (5 * ((R_towns v0) (Int32.toNatClampNeg 80)))))] [.int 9, .int 0, .int 1, .ref 0, .int ((88 + (5 * ((R_towns v0) (Int32.toNatClampNeg 80)))) + 1), .ref 6] ([kR 0 (R_s_at_fault_towns_readNames_readMany v0 q34.2.1 q34.2.2 z35 z33 ((R_readMany v0) + 1))] : List (List zE)).flatten
              obtain ⟨q36, h52, hf⟩ := zbind hf
              refine AW.callVc hZ hR hN (c_R_takeAfter N (R_s_at_fault_towns_readNames_readMany v0 q34.2.1 q34.2.2 z35 z33 ((R_readMany v0) + 1)) 1 0 9 q36 h52) zMX12_takeAfter_ok rfl rfl zK_BorrowedLivesModel_249 zV_X12_takeAfter rfl [25] [0] [0, 1, 2, 3, 4, 5, 6, 7, 8, 9, 10, 11, 12, 13, 14, 15, 16, 17, 18, 19, 20, 21, 22, 23, 24] rfl rfl rfl (by decide) (by decide) (by omega) (by decide) (Nat.zero_le _) (Nat.zero_le _) rfl rfl rfl rfl rfl ?_
              rintro v cc ⟨rfl, rfl⟩
              refine ⟨_, rfl, rfl, ?_⟩
              show AW Z 0 0 139 [some (.ref 0), some (.int ((R_towns v0) (Int32.toNatClampNeg 80))), some (.int (88 + (5 * ((R_towns v0) (Int32.toNatClampNeg 80)))))] [.int q36.1, .int ((88 + (5 * ((R_towns v0) (Int32.toNatClampNeg 80)))) + 1), .ref 6] ([kR 0 (R_s_at_fault_towns_readNames_readMany v0 q36.2.1 q36.2.2 z35 z33 ((R_readMany v0) + 1))] : List (List zE)).flatten
              refine AW.run hZ hRm [140] 400 ?_
              show (¬ (((88 + (5 * ((R_towns v0) (Int32.toNatClampNeg 80)))) + 1) < 0 ∨ 160 ≤ Int32.toNatClampNeg ((88 + (5 * ((R_towns v0) (Int32.toNatClampNeg 80)))) + 1)) ∧ AW Z 0 0 140 [some (.ref 0), some (.int ((R_towns v0) (Int32.toNatClampNeg 80))), some (.int (88 + (5 * ((R_towns v0) (Int32.toNatClampNeg 80)))))] [] ([kR 0 (R_s_at_fault_towns_readNames_readMany v0 q36.2.1 q36.2.2 (upd z35 (Int32.toNatClampNeg ((88 + (5 * ((R_towns v0) (Int32.toNatClampNeg 80)))) + 1)) q36.1) z33 ((R_readMany v0) + 1))] : List (List zE)).flatten)
              obtain ⟨b51, hf⟩ := zneed hf
              refine ⟨b51, ?_⟩
              replace hf := zlet_gen hf
              generalize ((upd z35 (Int32.toNatClampNeg ((88 + (5 * ((R_towns v0) (Int32.toNatClampNeg 80)))) + 1)) q36.1) : (Nat → Int32)) = z37 at hf ⊢
              as_aux_lemma =>
                refine AW.run hZ hRm [153] 400 ?_
                show AW Z 0 0 153 [some (.ref 0), some (.int ((R_towns v0) (Int32.toNatClampNeg 80))), some (.int (88 + (5 * ((R_towns v0) (Int32.toNatClampNeg 80)))))] [.int 999, .int 0, .int 2, .ref 0, .int ((88 + (5 * ((R_towns v0) (Int32.toNatClampNeg 80)))) + 2), .ref 6] ([kR 0 (R_s_at_fault_towns_readNames_readMany v0 q36.2.1 q36.2.2 z37 z33 ((R_readMany v0) + 1))] : List (List zE)).flatten
                obtain ⟨q38, h50, hf⟩ := zbind hf
                refine AW.callVc hZ hR hN (c_R_takeAfter N (R_s_at_fault_towns_readNames_readMany v0 q36.2.1 q36.2.2 z37 z33 ((R_readMany v0) + 1)) 2 0 999 q38 h50) zMX12_takeAfter_ok rfl rfl zK_BorrowedLivesModel_249 zV_X12_takeAfter rfl [25] [0] [0, 1, 2, 3, 4, 5, 6, 7, 8, 9, 10, 11, 12, 13, 14, 15, 16, 17, 18, 19, 20, 21, 22, 23, 24] rfl rfl rfl (by decide) (by decide) (by omega) (by decide) (Nat.zero_le _) (Nat.zero_le _) rfl rfl rfl rfl rfl ?_
                rintro v cc ⟨rfl, rfl⟩
                refine ⟨_, rfl, rfl, ?_⟩
                show AW Z 0 0 156 [some (.ref 0), some (.int ((R_towns v0) (Int32.toNatClampNeg 80))), some (.int (88 + (5 * ((R_towns v0) (Int32.toNatClampNeg 80)))))] [.int q38.1, .int ((88 + (5 * ((R_towns v0) (Int32.toNatClampNeg 80)))) + 2), .ref 6] ([kR 0 (R_s_at_fault_towns_readNames_readMany v0 q38.2.1 q38.2.2 z37 z33 ((R_readMany v0) + 1))] : List (List zE)).flatten
                refine AW.run hZ hRm [157] 400 ?_
                show (¬ (((88 + (5 * ((R_towns v0) (Int32.toNatClampNeg 80)))) + 2) < 0 ∨ 160 ≤ Int32.toNatClampNeg ((88 + (5 * ((R_towns v0) (Int32.toNatClampNeg 80)))) + 2)) ∧ AW Z 0 0 157 [some (.ref 0), some (.int ((R_towns v0) (Int32.toNatClampNeg 80))), some (.int (88 + (5 * ((R_towns v0) (Int32.toNatClampNeg 80)))))] [] ([kR 0 (R_s_at_fault_towns_readNames_readMany v0 q38.2.1 q38.2.2 (upd z37 (Int32.toNatClampNeg ((88 + (5 * ((R_towns v0) (Int32.toNatClampNeg 80)))) + 2)) q38.1) z33 ((R_readMany v0) + 1))] : List (List zE)).flatten)
                obtain ⟨b49, hf⟩ := zneed hf
                refine ⟨b49, ?_⟩
                replace hf := zlet_gen hf
                generalize ((upd z37 (Int32.toNatClampNeg ((88 + (5 * ((R_towns v0) (Int32.toNatClampNeg 80)))) + 2)) q38.1) : (Nat → Int32)) = z39 at hf ⊢
                as_aux_lemma =>
                  refine AW.run hZ hRm [170] 400 ?_
                  show AW Z 0 0 170 [some (.ref 0), some (.int ((R_towns v0) (Int32.toNatClampNeg 80))), some (.int (88 + (5 * ((R_towns v0) (Int32.toNatClampNeg 80)))))] [.int 999, .int 0, .int 3, .ref 0, .int ((88 + (5 * ((R_towns v0) (Int32.toNatClampNeg 80)))) + 3), .ref 6] ([kR 0 (R_s_at_fault_towns_readNames_readMany v0 q38.2.1 q38.2.2 z39 z33 ((R_readMany v0) + 1))] : List (List zE)).flatten
                  obtain ⟨q40, h48, hf⟩ := zbind hf
                  refine AW.callVc hZ hR hN (c_R_takeAfter N (R_s_at_fault_towns_readNames_readMany v0 q38.2.1 q38.2.2 z39 z33 ((R_readMany v0) + 1)) 3 0 999 q40 h48) zMX12_takeAfter_ok rfl rfl zK_BorrowedLivesModel_249 zV_X12_takeAfter rfl [25] [0] [0, 1, 2, 3, 4, 5, 6, 7, 8, 9, 10, 11, 12, 13, 14, 15, 16, 17, 18, 19, 20, 21, 22, 23, 24] rfl rfl rfl (by decide) (by decide) (by omega) (by decide) (Nat.zero_le _) (Nat.zero_le _) rfl rfl rfl rfl rfl ?_
                  rintro v cc ⟨rfl, rfl⟩
                  refine ⟨_, rfl, rfl, ?_⟩
                  show AW Z 0 0 173 [some (.ref 0), some (.int ((R_towns v0) (Int32.toNatClampNeg 80))), some (.int (88 + (5 * ((R_towns v0) (Int32.toNatClampNeg 80)))))] [.int q40.1, .int ((88 + (5 * ((R_towns v0) (Int32.toNatClampNeg 80)))) + 3), .ref 6] ([kR 0 (R_s_at_fault_towns_readNames_readMany v0 q40.2.1 q40.2.2 z39 z33 ((R_readMany v0) + 1))] : List (List zE)).flatten
                  refine AW.run hZ hRm [174] 400 ?_
                  show (¬ (((88 + (5 * ((R_towns v0) (Int32.toNatClampNeg 80)))) + 3) < 0 ∨ 160 ≤ Int32.toNatClampNeg ((88 + (5 * ((R_towns v0) (Int32.toNatClampNeg 80)))) + 3)) ∧ AW Z 0 0 174 [some (.ref 0), some (.int ((R_towns v0) (Int32.toNatClampNeg 80))), some (.int (88 + (5 * ((R_towns v0) (Int32.toNatClampNeg 80)))))] [] ([kR 0 (R_s_at_fault_towns_readNames_readMany v0 q40.2.1 q40.2.2 (upd z39 (Int32.toNatClampNeg ((88 + (5 * ((R_towns v0) (Int32.toNatClampNeg 80)))) + 3)) q40.1) z33 ((R_readMany v0) + 1))] : List (List zE)).flatten)
                  obtain ⟨b47, hf⟩ := zneed hf
                  refine ⟨b47, ?_⟩
                  replace hf := zlet_gen hf
                  generalize ((upd z39 (Int32.toNatClampNeg ((88 + (5 * ((R_towns v0) (Int32.toNatClampNeg 80)))) + 3)) q40.1) : (Nat → Int32)) = z41 at hf ⊢
                  as_aux_lemma =>
                    refine AW.run hZ hRm [186] 400 ?_
                    show AW Z 0 0 186 [some (.ref 0), some (.int ((R_towns v0) (Int32.toNatClampNeg 80))), some (.int (88 + (5 * ((R_towns v0) (Int32.toNatClampNeg 80)))))] [.int 9, .int 0, .int 4, .ref 0, .int ((88 + (5 * ((R_towns v0) (Int32.toNatClampNeg 80)))) + 4), .ref 6] ([kR 0 (R_s_at_fault_towns_readNames_readMany v0 q40.2.1 q40.2.2 z41 z33 ((R_readMany v0) + 1))] : List (List zE)).flatten
                    obtain ⟨q42, h46, hf⟩ := zbind hf
                    refine AW.callVc hZ hR hN (c_R_takeAfter N (R_s_at_fault_towns_readNames_readMany v0 q40.2.1 q40.2.2 z41 z33 ((R_readMany v0) + 1)) 4 0 9 q42 h46) zMX12_takeAfter_ok rfl rfl zK_BorrowedLivesModel_249 zV_X12_takeAfter rfl [25] [0] [0, 1, 2, 3, 4, 5, 6, 7, 8, 9, 10, 11, 12, 13, 14, 15, 16, 17, 18, 19, 20, 21, 22, 23, 24] rfl rfl rfl (by decide) (by decide) (by omega) (by decide) (Nat.zero_le _) (Nat.zero_le _) rfl rfl rfl rfl rfl ?_
                    rintro v cc ⟨rfl, rfl⟩
                    refine ⟨_, rfl, rfl, ?_⟩
                    show AW Z 0 0 189 [some (.ref 0), some (.int ((R_towns v0) (Int32.toNatClampNeg 80))), some (.int (88 + (5 * ((R_towns v0) (Int32.toNatClampNeg 80)))))] [.int q42.1, .int ((88 + (5 * ((R_towns v0) (Int32.toNatClampNeg 80)))) + 4), .ref 6] ([kR 0 (R_s_at_fault_towns_readNames_readMany v0 q42.2.1 q42.2.2 z41 z33 ((R_readMany v0) + 1))] : List (List zE)).flatten
                    refine AW.run hZ hRm [190] 400 ?_
                    show (¬ (((88 + (5 * ((R_towns v0) (Int32.toNatClampNeg 80)))) + 4) < 0 ∨ 160 ≤ Int32.toNatClampNeg ((88 + (5 * ((R_towns v0) (Int32.toNatClampNeg 80)))) + 4)) ∧ AW Z 0 0 190 [some (.ref 0), some (.int ((R_towns v0) (Int32.toNatClampNeg 80))), some (.int (88 + (5 * ((R_towns v0) (Int32.toNatClampNeg 80)))))] [] ([kR 0 (R_s_at_fault_towns_readNames_readMany v0 q42.2.1 q42.2.2 (upd z41 (Int32.toNatClampNeg ((88 + (5 * ((R_towns v0) (Int32.toNatClampNeg 80)))) + 4)) q42.1) z33 ((R_readMany v0) + 1))] : List (List zE)).flatten)
                    obtain ⟨b45, hf⟩ := zneed hf
                    refine ⟨b45, ?_⟩
                    replace hf := zlet_gen hf
                    generalize ((upd z41 (Int32.toNatClampNeg ((88 + (5 * ((R_towns v0) (Int32.toNatClampNeg 80)))) + 4)) q42.1) : (Nat → Int32)) = z43 at hf ⊢
                    as_aux_lemma =>
                      refine AW.run hZ hRm [201] 400 ?_
                      show (¬ ((80 : Int32) < 0 ∨ 160 ≤ Int32.toNatClampNeg 80) ∧ (¬ ((80 : Int32) < 0 ∨ 160 ≤ Int32.toNatClampNeg 80) ∧ AW Z 0 0 201 [some (.ref 0), some (.int ((R_towns v0) (Int32.toNatClampNeg 80))), some (.int (88 + (5 * ((R_towns v0) (Int32.toNatClampNeg 80)))))] [] ([kR 0 (R_s_at_fault_towns_readNames_readMany v0 q42.2.1 q42.2.2 (upd z43 (Int32.toNatClampNeg 80) ((z43 (Int32.toNatClampNeg 80)) + 1)) z33 ((R_readMany v0) + 1))] : List (List zE)).flatten))
                      refine ⟨(by decide), ?_⟩
                      refine ⟨(by decide), ?_⟩
                      replace hf := zlet_gen hf
                      generalize ((upd z43 (Int32.toNatClampNeg 80) ((z43 (Int32.toNatClampNeg 80)) + 1)) : (Nat → Int32)) = z44 at hf ⊢
                      as_aux_lemma =>
                        cases hf
                        exact AW.vret hZ hE rfl rfl rfl (Nat.le_refl 0) (Nat.le_refl 0) rfl ⟨rfl, rfl⟩
        · rw [if_neg c32] at hf
          cases hf
          exact AW.vret hZ hE rfl rfl rfl (Nat.le_refl 0) (Nat.le_refl 0) rfl ⟨rfl, rfl⟩
    · rw [if_pos c3] at hf
      obtain ⟨q59, h85, hf⟩ := zbind hf
      refine AW.callVc hZ hR hN (c_R_wrong N (R_at_s v0 ((R_at v0) + 1)) 1 q59 h85) zMX12_wrong_ok rfl rfl zK_BorrowedLivesModel_188 zV_X12_wrong rfl [25] [0] [0, 1, 2, 3, 4, 5, 6, 7, 8, 9, 10, 11, 12, 13, 14, 15, 16, 17, 18, 19, 20, 21, 22, 23, 24] rfl rfl rfl (by decide) (by decide) (by omega) (by decide) (Nat.zero_le _) (Nat.zero_le _) rfl rfl rfl rfl rfl ?_
      rintro v cc ⟨rfl, rfl⟩
      refine ⟨_, rfl, rfl, ?_⟩
      show AW Z 0 0 42 [some (.ref 0), some (.int ((R_towns v0) (Int32.toNatClampNeg 80))), none] [] ([kR 0 (R_s_at_fault v0 ((R_at v0) + 1) q59)] : List (List zE)).flatten
      refine AW.run hZ hRm [65, 84] 400 ?_
      show (((q59 ≤ 0) → (¬ (((R_at v0) + 1) < 0 ∨ 1002 ≤ Int32.toNatClampNeg ((R_at v0) + 1)) ∧ (¬ ((R_readMany v0) < 0 ∨ 6 ≤ Int32.toNatClampNeg (R_readMany v0)) ∧ AW Z 0 0 84 [some (.ref 0), some (.int ((R_towns v0) (Int32.toNatClampNeg 80))), none] [] ([kR 0 (R_s_at_fault_readNames v0 ((R_at v0) + 1) q59 (vp_updL (R_readNames v0) (Int32.toNatClampNeg (R_readMany v0)) ((R_value v0) (Int32.toNatClampNeg ((R_at v0) + 1)))))] : List (List zE)).flatten))) ∧ (¬ (q59 ≤ 0) → AW Z 0 0 65 [some (.ref 0), some (.int ((R_towns v0) (Int32.toNatClampNeg 80))), none] [] ([kR 0 (R_s_at_fault v0 ((R_at v0) + 1) q59)] : List (List zE)).flatten))
      refine ⟨fun c60 => ?_, fun c60 => ?_⟩
      · rw [if_pos c60] at hf
        obtain ⟨b84, hf⟩ := zneed hf
        refine ⟨b84, ?_⟩
        obtain ⟨b83, hf⟩ := zneed hf
        refine ⟨b83, ?_⟩
        replace hf := zlet_gen hf
        generalize ((vp_updL (R_readNames v0) (Int32.toNatClampNeg (R_readMany v0)) ((R_value v0) (Int32.toNatClampNeg ((R_at v0) + 1)))) : (Nat → Int64)) = z61 at hf ⊢
        as_aux_lemma =>
          refine AW.run hZ hRm [120] 400 ?_
          show AW Z 0 0 120 [some (.ref 0), some (.int ((R_towns v0) (Int32.toNatClampNeg 80))), some (.int (88 + (5 * ((R_towns v0) (Int32.toNatClampNeg 80)))))] [.int 4, .int 15, .ref 0, .int (88 + (5 * ((R_towns v0) (Int32.toNatClampNeg 80)))), .ref 6] ([kR 0 (R_s_at_fault_readNames_readMany v0 (((R_at v0) + 1) + 1) q59 z61 ((R_readMany v0) + 1))] : List (List zE)).flatten
          obtain ⟨q62, h82, hf⟩ := zbind hf
          refine AW.callVc hZ hR hN (c_R_takeOne N (R_s_at_fault_readNames_readMany v0 (((R_at v0) + 1) + 1) q59 z61 ((R_readMany v0) + 1)) 15 4 q62 h82) zMX12_takeOne_ok rfl rfl zK_BorrowedLivesModel_246 zV_X12_takeOne rfl [25] [0] [0, 1, 2, 3, 4, 5, 6, 7, 8, 9, 10, 11, 12, 13, 14, 15, 16, 17, 18, 19, 20, 21, 22, 23, 24] rfl rfl rfl (by decide) (by decide) (by omega) (by decide) (Nat.zero_le _) (Nat.zero_le _) rfl rfl rfl rfl rfl ?_
          rintro v cc ⟨rfl, rfl⟩
          refine ⟨_, rfl, rfl, ?_⟩
          show AW Z 0 0 123 [some (.ref 0), some (.int ((R_towns v0) (Int32.toNatClampNeg 80))), some (.int (88 + (5 * ((R_towns v0) (Int32.toNatClampNeg 80)))))] [.int q62.1, .int (88 + (5 * ((R_towns v0) (Int32.toNatClampNeg 80)))), .ref 6] ([kR 0 (R_s_at_fault_readNames_readMany v0 q62.2.1 q62.2.2 z61 ((R_readMany v0) + 1))] : List (List zE)).flatten
          refine AW.run hZ hRm [124] 400 ?_
          show (¬ ((88 + (5 * ((R_towns v0) (Int32.toNatClampNeg 80)))) < 0 ∨ 160 ≤ Int32.toNatClampNeg (88 + (5 * ((R_towns v0) (Int32.toNatClampNeg 80))))) ∧ AW Z 0 0 124 [some (.ref 0), some (.int ((R_towns v0) (Int32.toNatClampNeg 80))), some (.int (88 + (5 * ((R_towns v0) (Int32.toNatClampNeg 80)))))] [] ([kR 0 (R_s_at_fault_towns_readNames_readMany v0 q62.2.1 q62.2.2 (upd (R_towns v0) (Int32.toNatClampNeg (88 + (5 * ((R_towns v0) (Int32.toNatClampNeg 80))))) q62.1) z61 ((R_readMany v0) + 1))] : List (List zE)).flatten)
          obtain ⟨b81, hf⟩ := zneed hf
          refine ⟨b81, ?_⟩
          replace hf := zlet_gen hf
          generalize ((upd (R_towns v0) (Int32.toNatClampNeg (88 + (5 * ((R_towns v0) (Int32.toNatClampNeg 80))))) q62.1) : (Nat → Int32)) = z63 at hf ⊢
          as_aux_lemma =>
            refine AW.run hZ hRm [136] 400 ?_
            show AW Z 0 0 136 [some (.ref 0), some (.int ((R_towns v0) (Int32.toNatClampNeg 80))), some (.int (88 + (5 * ((R_towns v0) (Int32.toNatClampNeg 80)))))] [.int 9, .int 0, .int 1, .ref 0, .int ((88 + (5 * ((R_towns v0) (Int32.toNatClampNeg 80)))) + 1), .ref 6] ([kR 0 (R_s_at_fault_towns_readNames_readMany v0 q62.2.1 q62.2.2 z63 z61 ((R_readMany v0) + 1))] : List (List zE)).flatten
            obtain ⟨q64, h80, hf⟩ := zbind hf
            refine AW.callVc hZ hR hN (c_R_takeAfter N (R_s_at_fault_towns_readNames_readMany v0 q62.2.1 q62.2.2 z63 z61 ((R_readMany v0) + 1)) 1 0 9 q64 h80) zMX12_takeAfter_ok rfl rfl zK_BorrowedLivesModel_249 zV_X12_takeAfter rfl [25] [0] [0, 1, 2, 3, 4, 5, 6, 7, 8, 9, 10, 11, 12, 13, 14, 15, 16, 17, 18, 19, 20, 21, 22, 23, 24] rfl rfl rfl (by decide) (by decide) (by omega) (by decide) (Nat.zero_le _) (Nat.zero_le _) rfl rfl rfl rfl rfl ?_
            rintro v cc ⟨rfl, rfl⟩
            refine ⟨_, rfl, rfl, ?_⟩
            show AW Z 0 0 139 [some (.ref 0), some (.int ((R_towns v0) (Int32.toNatClampNeg 80))), some (.int (88 + (5 * ((R_towns v0) (Int32.toNatClampNeg 80)))))] [.int q64.1, .int ((88 + (5 * ((R_towns v0) (Int32.toNatClampNeg 80)))) + 1), .ref 6] ([kR 0 (R_s_at_fault_towns_readNames_readMany v0 q64.2.1 q64.2.2 z63 z61 ((R_readMany v0) + 1))] : List (List zE)).flatten
            refine AW.run hZ hRm [140] 400 ?_
            show (¬ (((88 + (5 * ((R_towns v0) (Int32.toNatClampNeg 80)))) + 1) < 0 ∨ 160 ≤ Int32.toNatClampNeg ((88 + (5 * ((R_towns v0) (Int32.toNatClampNeg 80)))) + 1)) ∧ AW Z 0 0 140 [some (.ref 0), some (.int ((R_towns v0) (Int32.toNatClampNeg 80))), some (.int (88 + (5 * ((R_towns v0) (Int32.toNatClampNeg 80)))))] [] ([kR 0 (R_s_at_fault_towns_readNames_readMany v0 q64.2.1 q64.2.2 (upd z63 (Int32.toNatClampNeg ((88 + (5 * ((R_towns v0) (Int32.toNatClampNeg 80)))) + 1)) q64.1) z61 ((R_readMany v0) + 1))] : List (List zE)).flatten)
            obtain ⟨b79, hf⟩ := zneed hf
            refine ⟨b79, ?_⟩
            replace hf := zlet_gen hf
            generalize ((upd z63 (Int32.toNatClampNeg ((88 + (5 * ((R_towns v0) (Int32.toNatClampNeg 80)))) + 1)) q64.1) : (Nat → Int32)) = z65 at hf ⊢
            as_aux_lemma =>
              refine AW.run hZ hRm [153] 400 ?_
              show AW Z 0 0 153 [some (.ref 0), some (.int ((R_towns v0) (Int32.toNatClampNeg 80))), some (.int (88 + (5 * ((R_towns v0) (Int32.toNatClampNeg 80)))))] [.int 999, .int 0, .int 2, .ref 0, .int ((88 + (5 * ((R_towns v0) (Int32.toNatClampNeg 80)))) + 2), .ref 6] ([kR 0 (R_s_at_fault_towns_readNames_readMany v0 q64.2.1 q64.2.2 z65 z61 ((R_readMany v0) + 1))] : List (List zE)).flatten
              obtain ⟨q66, h78, hf⟩ := zbind hf
              refine AW.callVc hZ hR hN (c_R_takeAfter N (R_s_at_fault_towns_readNames_readMany v0 q64.2.1 q64.2.2 z65 z61 ((R_readMany v0) + 1)) 2 0 999 q66 h78) zMX12_takeAfter_ok rfl rfl zK_BorrowedLivesModel_249 zV_X12_takeAfter rfl [25] [0] [0, 1, 2, 3, 4, 5, 6, 7, 8, 9, 10, 11, 12, 13, 14, 15, 16, 17, 18, 19, 20, 21, 22, 23, 24] rfl rfl rfl (by decide) (by decide) (by omega) (by decide) (Nat.zero_le _) (Nat.zero_le _) rfl rfl rfl rfl rfl ?_
              rintro v cc ⟨rfl, rfl⟩
              refine ⟨_, rfl, rfl, ?_⟩
              show AW Z 0 0 156 [some (.ref 0), some (.int ((R_towns v0) (Int32.toNatClampNeg 80))), some (.int (88 + (5 * ((R_towns v0) (Int32.toNatClampNeg 80)))))] [.int q66.1, .int ((88 + (5 * ((R_towns v0) (Int32.toNatClampNeg 80)))) + 2), .ref 6] ([kR 0 (R_s_at_fault_towns_readNames_readMany v0 q66.2.1 q66.2.2 z65 z61 ((R_readMany v0) + 1))] : List (List zE)).flatten
              refine AW.run hZ hRm [157] 400 ?_
              show (¬ (((88 + (5 * ((R_towns v0) (Int32.toNatClampNeg 80)))) + 2) < 0 ∨ 160 ≤ Int32.toNatClampNeg ((88 + (5 * ((R_towns v0) (Int32.toNatClampNeg 80)))) + 2)) ∧ AW Z 0 0 157 [some (.ref 0), some (.int ((R_towns v0) (Int32.toNatClampNeg 80))), some (.int (88 + (5 * ((R_towns v0) (Int32.toNatClampNeg 80)))))] [] ([kR 0 (R_s_at_fault_towns_readNames_readMany v0 q66.2.1 q66.2.2 (upd z65 (Int32.toNatClampNeg ((88 + (5 * ((R_towns v0) (Int32.toNatClampNeg 80)))) + 2)) q66.1) z61 ((R_readMany v0) + 1))] : List (List zE)).flatten)
              obtain ⟨b77, hf⟩ := zneed hf
              refine ⟨b77, ?_⟩
              replace hf := zlet_gen hf
              generalize ((upd z65 (Int32.toNatClampNeg ((88 + (5 * ((R_towns v0) (Int32.toNatClampNeg 80)))) + 2)) q66.1) : (Nat → Int32)) = z67 at hf ⊢
              as_aux_lemma =>
                refine AW.run hZ hRm [170] 400 ?_
                show AW Z 0 0 170 [some (.ref 0), some (.int ((R_towns v0) (Int32.toNatClampNeg 80))), some (.int (88 + (5 * ((R_towns v0) (Int32.toNatClampNeg 80)))))] [.int 999, .int 0, .int 3, .ref 0, .int ((88 + (5 * ((R_towns v0) (Int32.toNatClampNeg 80)))) + 3), .ref 6] ([kR 0 (R_s_at_fault_towns_readNames_readMany v0 q66.2.1 q66.2.2 z67 z61 ((R_readMany v0) + 1))] : List (List zE)).flatten
                obtain ⟨q68, h76, hf⟩ := zbind hf
                refine AW.callVc hZ hR hN (c_R_takeAfter N (R_s_at_fault_towns_readNames_readMany v0 q66.2.1 q66.2.2 z67 z61 ((R_readMany v0) + 1)) 3 0 999 q68 h76) zMX12_takeAfter_ok rfl rfl zK_BorrowedLivesModel_249 zV_X12_takeAfter rfl [25] [0] [0, 1, 2, 3, 4, 5, 6, 7, 8, 9, 10, 11, 12, 13, 14, 15, 16, 17, 18, 19, 20, 21, 22, 23, 24] rfl rfl rfl (by decide) (by decide) (by omega) (by decide) (Nat.zero_le _) (Nat.zero_le _) rfl rfl rfl rfl rfl ?_
                rintro v cc ⟨rfl, rfl⟩
                refine ⟨_, rfl, rfl, ?_⟩
                show AW Z 0 0 173 [some (.ref 0), some (.int ((R_towns v0) (Int32.toNatClampNeg 80))), some (.int (88 + (5 * ((R_towns v0) (Int32.toNatClampNeg 80)))))] [.int q68.1, .int ((88 + (5 * ((R_towns v0) (Int32.toNatClampNeg 80)))) + 3), .ref 6] ([kR 0 (R_s_at_fault_towns_readNames_readMany v0 q68.2.1 q68.2.2 z67 z61 ((R_readMany v0) + 1))] : List (List zE)).flatten
                refine AW.run hZ hRm [174] 400 ?_
                show (¬ (((88 + (5 * ((R_towns v0) (Int32.toNatClampNeg 80)))) + 3) < 0 ∨ 160 ≤ Int32.toNatClampNeg ((88 + (5 * ((R_towns v0) (Int32.toNatClampNeg 80)))) + 3)) ∧ AW Z 0 0 174 [some (.ref 0), some (.int ((R_towns v0) (Int32.toNatClampNeg 80))), some (.int (88 + (5 * ((R_towns v0) (Int32.toNatClampNeg 80)))))] [] ([kR 0 (R_s_at_fault_towns_readNames_readMany v0 q68.2.1 q68.2.2 (upd z67 (Int32.toNatClampNeg ((88 + (5 * ((R_towns v0) (Int32.toNatClampNeg 80)))) + 3)) q68.1) z61 ((R_readMany v0) + 1))] : List (List zE)).flatten)
                obtain ⟨b75, hf⟩ := zneed hf
                refine ⟨b75, ?_⟩
                replace hf := zlet_gen hf
                generalize ((upd z67 (Int32.toNatClampNeg ((88 + (5 * ((R_towns v0) (Int32.toNatClampNeg 80)))) + 3)) q68.1) : (Nat → Int32)) = z69 at hf ⊢
                as_aux_lemma =>
                  refine AW.run hZ hRm [186] 400 ?_
                  show AW Z 0 0 186 [some (.ref 0), some (.int ((R_towns v0) (Int32.toNatClampNeg 80))), some (.int (88 + (5 * ((R_towns v0) (Int32.toNatClampNeg 80)))))] [.int 9, .int 0, .int 4, .ref 0, .int ((88 + (5 * ((R_towns v0) (Int32.toNatClampNeg 80)))) + 4), .ref 6] ([kR 0 (R_s_at_fault_towns_readNames_readMany v0 q68.2.1 q68.2.2 z69 z61 ((R_readMany v0) + 1))] : List (List zE)).flatten
                  obtain ⟨q70, h74, hf⟩ := zbind hf
                  refine AW.callVc hZ hR hN (c_R_takeAfter N (R_s_at_fault_towns_readNames_readMany v0 q68.2.1 q68.2.2 z69 z61 ((R_readMany v0) + 1)) 4 0 9 q70 h74) zMX12_takeAfter_ok rfl rfl zK_BorrowedLivesModel_249 zV_X12_takeAfter rfl [25] [0] [0, 1, 2, 3, 4, 5, 6, 7, 8, 9, 10, 11, 12, 13, 14, 15, 16, 17, 18, 19, 20, 21, 22, 23, 24] rfl rfl rfl (by decide) (by decide) (by omega) (by decide) (Nat.zero_le _) (Nat.zero_le _) rfl rfl rfl rfl rfl ?_
                  rintro v cc ⟨rfl, rfl⟩
                  refine ⟨_, rfl, rfl, ?_⟩
                  show AW Z 0 0 189 [some (.ref 0), some (.int ((R_towns v0) (Int32.toNatClampNeg 80))), some (.int (88 + (5 * ((R_towns v0) (Int32.toNatClampNeg 80)))))] [.int q70.1, .int ((88 + (5 * ((R_towns v0) (Int32.toNatClampNeg 80)))) + 4), .ref 6] ([kR 0 (R_s_at_fault_towns_readNames_readMany v0 q70.2.1 q70.2.2 z69 z61 ((R_readMany v0) + 1))] : List (List zE)).flatten
                  refine AW.run hZ hRm [190] 400 ?_
                  show (¬ (((88 + (5 * ((R_towns v0) (Int32.toNatClampNeg 80)))) + 4) < 0 ∨ 160 ≤ Int32.toNatClampNeg ((88 + (5 * ((R_towns v0) (Int32.toNatClampNeg 80)))) + 4)) ∧ AW Z 0 0 190 [some (.ref 0), some (.int ((R_towns v0) (Int32.toNatClampNeg 80))), some (.int (88 + (5 * ((R_towns v0) (Int32.toNatClampNeg 80)))))] [] ([kR 0 (R_s_at_fault_towns_readNames_readMany v0 q70.2.1 q70.2.2 (upd z69 (Int32.toNatClampNeg ((88 + (5 * ((R_towns v0) (Int32.toNatClampNeg 80)))) + 4)) q70.1) z61 ((R_readMany v0) + 1))] : List (List zE)).flatten)
                  obtain ⟨b73, hf⟩ := zneed hf
                  refine ⟨b73, ?_⟩
                  replace hf := zlet_gen hf
                  generalize ((upd z69 (Int32.toNatClampNeg ((88 + (5 * ((R_towns v0) (Int32.toNatClampNeg 80)))) + 4)) q70.1) : (Nat → Int32)) = z71 at hf ⊢
                  as_aux_lemma =>
                    refine AW.run hZ hRm [201] 400 ?_
                    show (¬ ((80 : Int32) < 0 ∨ 160 ≤ Int32.toNatClampNeg 80) ∧ (¬ ((80 : Int32) < 0 ∨ 160 ≤ Int32.toNatClampNeg 80) ∧ AW Z 0 0 201 [some (.ref 0), some (.int ((R_towns v0) (Int32.toNatClampNeg 80))), some (.int (88 + (5 * ((R_towns v0) (Int32.toNatClampNeg 80)))))] [] ([kR 0 (R_s_at_fault_towns_readNames_readMany v0 q70.2.1 q70.2.2 (upd z71 (Int32.toNatClampNeg 80) ((z71 (Int32.toNatClampNeg 80)) + 1)) z61 ((R_readMany v0) + 1))] : List (List zE)).flatten))
                    refine ⟨(by decide), ?_⟩
                    refine ⟨(by decide), ?_⟩
                    replace hf := zlet_gen hf
                    generalize ((upd z71 (Int32.toNatClampNeg 80) ((z71 (Int32.toNatClampNeg 80)) + 1)) : (Nat → Int32)) = z72 at hf ⊢
                    as_aux_lemma =>
                      cases hf
                      exact AW.vret hZ hE rfl rfl rfl (Nat.le_refl 0) (Nat.le_refl 0) rfl ⟨rfl, rfl⟩
      · rw [if_neg c60] at hf
        cases hf
        exact AW.vret hZ hE rfl rfl rfl (Nat.le_refl 0) (Nat.le_refl 0) rfl ⟨rfl, rfl⟩
  · rw [if_pos c1] at hf
    obtain ⟨q87, h88, hf⟩ := zbind hf
    refine AW.callVc hZ hR hN (c_R_wrong N v0 5 q87 h88) zMX12_wrong_ok rfl rfl zK_BorrowedLivesModel_188 zV_X12_wrong rfl [25] [0] [0, 1, 2, 3, 4, 5, 6, 7, 8, 9, 10, 11, 12, 13, 14, 15, 16, 17, 18, 19, 20, 21, 22, 23, 24] rfl rfl rfl (by decide) (by decide) (by omega) (by decide) (Nat.zero_le _) (Nat.zero_le _) rfl rfl rfl rfl rfl ?_
    rintro v cc ⟨rfl, rfl⟩
    refine ⟨_, rfl, rfl, ?_⟩
    show AW Z 0 0 19 [some (.ref 0), some (.int ((R_towns v0) (Int32.toNatClampNeg 80))), none] [] ([kR 0 (R_fault_s v0 q87)] : List (List zE)).flatten
    cases hf
    exact AW.vret hZ hE rfl rfl rfl (Nat.le_refl 0) (Nat.le_refl 0) rfl ⟨rfl, rfl⟩
