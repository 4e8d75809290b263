def f_R_readPerson (N : Nat) (v0 : VR) : Option (Int32 × Int32 × (Nat → Int32) × (Nat → Int64) × Int32) := (if (((R_towns v0) (Int32.toNatClampNeg 80)) = 6) then ((f_R_wrong N v0 5).bind (fun q81 => (some ((R_at v0), q81, (R_towns v0), (R_readNames v0), (R_readMany v0))))) else ((f_R_isName N (R_at_s v0 ((R_at v0) + 1))).bind (fun q2 => (if (q2 = 0) then ((f_R_wrong N (R_at_s v0 ((R_at v0) + 1)) 1).bind (fun q55 => (if (q55 ≤ 0) then (if (((R_at v0) + 1) < 0 ∨ 1002 ≤ Int32.toNatClampNeg ((R_at v0) + 1)) then none else (if ((R_readMany v0) < 0 ∨ 6 ≤ Int32.toNatClampNeg (R_readMany v0)) then none else ((f_R_takeOne N (R_s_at_fault_readNames_readMany v0 (((R_at v0) + 1) + 1) q55 (vp_updL (R_readNames v0) (Int32.toNatClampNeg (R_readMany v0)) ((R_value v0) (Int32.toNatClampNeg ((R_at v0) + 1)))) ((R_readMany v0) + 1)) 15 4).bind (fun q57 => (zlet ((vp_updL (R_readNames v0) (Int32.toNatClampNeg (R_readMany v0)) ((R_value v0) (Int32.toNatClampNeg ((R_at v0) + 1)))) : (Nat → Int64)) (fun z58 => (if ((88 + (5 * ((R_towns v0) (Int32.toNatClampNeg 80)))) < 0 ∨ 160 ≤ Int32.toNatClampNeg (88 + (5 * ((R_towns v0) (Int32.toNatClampNeg 80))))) then none else ((f_R_takeAfter N (R_s_at_fault_towns_readNames_readMany v0 q57.2.1 q57.2.2 (upd (R_towns v0) (Int32.toNatClampNeg (88 + (5 * ((R_towns v0) (Int32.toNatClampNeg 80))))) q57.1) z58 ((R_readMany v0) + 1)) 1 0 9).bind (fun q59 => (zlet ((upd (R_towns v0) (Int32.toNatClampNeg (88 + (5 * ((R_towns v0) (Int32.toNatClampNeg 80))))) q57.1) : (Nat → Int32)) (fun z60 => (if (((88 + (5 * ((R_towns v0) (Int32.toNatClampNeg 80)))) + 1) < 0 ∨ 160 ≤ Int32.toNatClampNeg ((88 + (5 * ((R_towns v0) (Int32.toNatClampNeg 80)))) + 1)) then none else ((f_R_takeAfter N (R_s_at_fault_towns_readNames_readMany v0 q59.2.1 q59.2.2 (upd z60 (Int32.toNatClampNeg ((88 + (5 * ((R_towns v0) (Int32.toNatClampNeg 80)))) + 1)) q59.1) z58 ((R_readMany v0) + 1)) 2 0 999).bind (fun q61 => (zlet ((upd z60 (Int32.toNatClampNeg ((88 + (5 * ((R_towns v0) (Int32.toNatClampNeg 80)))) + 1)) q59.1) : (Nat → Int32)) (fun z62 => (if (((88 + (5 * ((R_towns v0) (Int32.toNatClampNeg 80)))) + 2) < 0 ∨ 160 ≤ Int32.toNatClampNeg ((88 + (5 * ((R_towns v0) (Int32.toNatClampNeg 80)))) + 2)) then none else ((f_R_takeAfter N (R_s_at_fault_towns_readNames_readMany v0 q61.2.1 q61.2.2 (upd z62 (Int32.toNatClampNeg ((88 + (5 * ((R_towns v0) (Int32.toNatClampNeg 80)))) + 2)) q61.1) z58 ((R_readMany v0) + 1)) 3 0 999).bind (fun q63 => (zlet ((upd z62 (Int32.toNatClampNeg ((88 + (5 * ((R_towns v0) (Int32.toNatClampNeg 80)))) + 2)) q61.1) : (Nat → Int32)) (fun z64 => (if (((88 + (5 * ((R_towns v0) (Int32.toNatClampNeg 80)))) + 3) < 0 ∨ 160 ≤ Int32.toNatClampNeg ((88 + (5 * ((R_towns v0) (Int32.toNatClampNeg 80)))) + 3)) then none else ((f_R_takeAfter N (R_s_at_fault_towns_readNames_readMany v0 q63.2.1 q63.2.2 (upd z64 (Int32.toNatClampNeg ((88 + (5 * ((R_towns v0) (Int32.toNatClampNeg 80)))) + 3)) q63.1) z58 ((R_readMany v0) + 1)) 4 0 9).bind (fun q65 => (zlet ((upd z64 (Int32.toNatClampNeg ((88 + (5 * ((R_towns v0) (Int32.toNatClampNeg 80)))) + 3)) q63.1) : (Nat → Int32)) (fun z66 => (if (((88 + (5 * ((R_towns v0) (Int32.toNatClampNeg 80)))) + 4) < 0 ∨ 160 ≤ Int32.toNatClampNeg ((88 + (5 * ((R_towns v0) (Int32.toNatClampNeg 80)))) + 4)) then none else (some (q65.2.1, q65.2.2, (upd (upd z66 (Int32.toNatClampNeg ((88 + (5 * ((R_towns v0) (Int32.toNatClampNeg 80)))) + 4)) q65.1) (Int32.toNatClampNeg 80) (((upd z66 (Int32.toNatClampNeg ((88 + (5 * ((R_towns v0) (Int32.toNatClampNeg 80)))) + 4)) q65.1) (Int32.toNatClampNeg 80)) + 1)), z58, ((R_readMany v0) + 1)))))))))))))))))))))))))))))) else (some (((R_at v0) + 1), q55, (R_towns v0), (R_readNames v0), (R_readMany v0)))))) else ((f_R_find N (R_at_s v0 ((R_at v0) + 1)) 1).bind (fun q4 => (if (q4 < 0) then (if ((R_fault v0) ≤ 0) then (if (((R_at v0) + 1) < 0 ∨ 1002 ≤ Int32.toNatClampNeg ((R_at v0) + 1)) then none else (if ((R_readMany v0) < 0 ∨ 6 ≤ Int32.toNatClampNeg (R_readMany v0)) then none else ((f_R_takeOne N (R_s_at_readNames_readMany v0 (((R_at v0) + 1) + 1) (vp_updL (R_readNames v0) (Int32.toNatClampNeg (R_readMany v0)) ((R_value v0) (Int32.toNatClampNeg ((R_at v0) + 1)))) ((R_readMany v0) + 1)) 15 4).bind (fun q7 => (zlet ((vp_updL (R_readNames v0) (Int32.toNatClampNeg (R_readMany v0)) ((R_value v0) (Int32.toNatClampNeg ((R_at v0) + 1)))) : (Nat → Int64)) (fun z8 => (if ((88 + (5 * ((R_towns v0) (Int32.toNatClampNeg 80)))) < 0 ∨ 160 ≤ Int32.toNatClampNeg (88 + (5 * ((R_towns v0) (Int32.toNatClampNeg 80))))) then none else ((f_R_takeAfter N (R_s_at_fault_towns_readNames_readMany v0 q7.2.1 q7.2.2 (upd (R_towns v0) (Int32.toNatClampNeg (88 + (5 * ((R_towns v0) (Int32.toNatClampNeg 80))))) q7.1) z8 ((R_readMany v0) + 1)) 1 0 9).bind (fun q9 => (zlet ((upd (R_towns v0) (Int32.toNatClampNeg (88 + (5 * ((R_towns v0) (Int32.toNatClampNeg 80))))) q7.1) : (Nat → Int32)) (fun z10 => (if (((88 + (5 * ((R_towns v0) (Int32.toNatClampNeg 80)))) + 1) < 0 ∨ 160 ≤ Int32.toNatClampNeg ((88 + (5 * ((R_towns v0) (Int32.toNatClampNeg 80)))) + 1)) then none else ((f_R_takeAfter N (R_s_at_fault_towns_readNames_readMany v0 q9.2.1 q9.2.2 (upd z10 (Int32.toNatClampNeg ((88 + (5 * ((R_towns v0) (Int32.toNatClampNeg 80)))) + 1)) q9.1) z8 ((R_readMany v0) + 1)) 2 0 999).bind (fun q11 => (zlet ((upd z10 (Int32.toNatClampNeg ((88 + (5 * ((R_towns v0) (Int32.toNatClampNeg 80)))) + 1)) q9.1) : (Nat → Int32)) (fun z12 => (if (((88 + (5 * ((R_towns v0) (Int32.toNatClampNeg 80)))) + 2) < 0 ∨ 160 ≤ Int32.toNatClampNeg ((88 + (5 * ((R_towns v0) (Int32.toNatClampNeg 80)))) + 2)) then none else ((f_R_takeAfter N (R_s_at_fault_towns_readNames_readMany v0 q11.2.1 q11.2.2 (upd z12 (Int32.toNatClampNeg ((88 + (5 * ((R_towns v0) (Int32.toNatClampNeg 80)))) + 2)) q11.1) z8 ((R_readMany v0) + 1)) 3 0 999).bind (fun q13 => (zlet ((upd z12 (Int32.toNatClampNeg ((88 + (5 * ((R_towns v0) (Int32.toNatClampNeg 80)))) + 2)) q11.1) : (Nat → Int32)) (fun z14 => (if (((88 + (5 * ((R_towns v0) (Int32.toNatClampNeg 80)))) + 3) < 0 ∨ 160 ≤ Int32.toNatClampNeg ((88 + (5 * ((R_towns v0) (Int32.toNatClampNeg 80)))) + 3)) then none else ((f_R_takeAfter N (R_s_at_fault_towns_readNames_readMany v0 q13.2.1 q13.2.2 (upd z14 (Int32.toNatClampNeg ((88 + (5 * ((R_towns v0) (Int32.toNatClampNeg 80)))) + 3)) q13.1) z8 ((R_readMany v0) + 1)) 4 0 9).bind (fun q15 => (zlet ((upd z14 (Int32.toNatClampNeg ((88 + (5 * ((R_towns v0) (Int32.toNatClampNeg 80)))) + 3)) q13.1) : (Nat → Int32)) (fun z16 => (if (((88 + (5 * ((R_towns v0) (Int32.toNatClampNeg 80)))) + 4) < 0 ∨ 160 ≤ Int32.toNatClampNeg ((88 + (5 * ((R_towns v0) (Int32.toNatClampNeg 80)))) + 4)) then none else (some (q15.2.1, q15.2.2, (upd (upd z16 (Int32.toNatClampNeg ((88 + (5 * ((R_towns v0) (Int32.toNatClampNeg 80)))) + 4)) q15.1) (Int32.toNatClampNeg 80) (((upd z16 (Int32.toNatClampNeg ((88 + (5 * ((R_towns v0) (Int32.toNatClampNeg 80)))) + 4)) q15.1) (Int32.toNatClampNeg 80)) + 1)), z8, ((R_readMany v0) + 1)))))))))))))))))))))))))))))) else (some (((R_at v0) + 1), (R_fault v0), (R_towns v0), (R_readNames v0), (R_readMany v0)))) else ((f_R_wrong N (R_at_s v0 ((R_at v0) + 1)) 3).bind (fun q29 => (if (q29 ≤ 0) then (if (((R_at v0) + 1) < 0 ∨ 1002 ≤ Int32.toNatClampNeg ((R_at v0) + 1)) then none else (if ((R_readMany v0) < 0 ∨ 6 ≤ Int32.toNatClampNeg (R_readMany v0)) then none else ((f_R_takeOne N (R_s_at_fault_readNames_readMany v0 (((R_at v0) + 1) + 1) q29 (vp_updL (R_readNames v0) (Int32.toNatClampNeg (R_readMany v0)) ((R_value v0) (Int32.toNatClampNeg ((R_at v0) + 1)))) ((R_readMany v0) + 1)) 15 4).bind (fun q31 => (zlet ((vp_updL (R_readNames v0) (Int32.toNatClampNeg (R_readMany v0)) ((R_value v0) (Int32.toNatClampNeg ((R_at v0) + 1)))) : (Nat → Int64)) (fun z32 => (if ((88 + (5 * ((R_towns v0) (Int32.toNatClampNeg 80)))) < 0 ∨ 160 ≤ Int32.toNatClampNeg (88 + (5 * ((R_towns v0) (Int32.toNatClampNeg 80))))) then none else ((f_R_takeAfter N (R_s_at_fault_towns_readNames_readMany v0 q31.2.1 q31.2.2 (upd (R_towns v0) (Int32.toNatClampNeg (88 + (5 * ((R_towns v0) (Int32.toNatClampNeg 80))))) q31.1) z32 ((R_readMany v0) + 1)) 1 0 9).bind (fun q33 => (zlet ((upd (R_towns v0) (Int32.toNatClampNeg (88 + (5 * ((R_towns v0) (Int32.toNatClampNeg 80))))) q31.1) : (Nat → Int32)) (fun z34 => (if (((88 + (5 * ((R_towns v0) (Int32.toNatClampNeg 80)))) + 1) < 0 ∨ 160 ≤ Int32.toNatClampNeg ((88 + (5 * ((R_towns v0) (Int32.toNatClampNeg 80)))) + 1)) then none else ((f_R_takeAfter N (R_s_at_fault_towns_readNames_readMany v0 q33.2.1 q33.2.2 (upd z34 (Int32.toNatClampNeg ((88 + (5 * ((R_towns v0) (Int32.toNatClampNeg 80)))) + 1)) q33.1) z32 ((R_readMany v0) + 1)) 2 0 999).bind (fun q35 => (zlet ((upd z34 (Int32.toNatClampNeg ((88 + (5 * ((R_towns v0) (Int32.toNatClampNeg 80)))) + 1)) q33.1) : (Nat → Int32)) (fun z36 => (if (((88 + (5 * ((R_towns v0) (Int32.toNatClampNeg 80)))) + 2) < 0 ∨ 160 ≤ Int32.toNatClampNeg ((88 + (5 * ((R_towns v0) (Int32.toNatClampNeg 80)))) + 2)) then none else ((f_R_takeAfter N (R_s_at_fault_towns_readNames_readMany v0 q35.2.1 q35.2.2 (upd z36 (Int32.toNatClampNeg ((88 + (5 * ((R_towns v0) (Int32.toNatClampNeg 80)))) + 2)) q35.1) z32 ((R_readMany v0) + 1)) 3 0 999).bind (fun q37 => (zlet ((upd z36 (Int32.toNatClampNeg ((88 + (5 * ((R_towns v0) (Int32.toNatClampNeg 80)))) + 2)) q35.1) : (Nat → Int32)) (fun z38 => (if (((88 + (5 * ((R_towns v0) (Int32.toNatClampNeg 80)))) + 3) < 0 ∨ 160 ≤ Int32.toNatClampNeg ((88 + (5 * ((R_towns v0) (Int32.toNatClampNeg 80)))) + 3)) then none else ((f_R_takeAfter N (R_s_at_fault_towns_readNames_readMany v0 q37.2.1 q37.2.2 (upd z38 (Int32.toNatClampNeg ((88 + (5 * ((R_towns v0) (Int32.toNatClampNeg 80)))) + 3)) q37.1) z32 ((R_readMany v0) + 1)) 4 0 9).bind (fun q39 => (zlet ((upd z38 (Int32.toNatClampNeg ((88 + (5 * ((R_towns v0) (Int32.toNatClampNeg 80)))) + 3)) q37.1) : (Nat → Int32)) (fun z40 => (if (((88 + (5 * ((R_towns v0) (Int32.toNatClampNeg 80)))) + 4) < 0 ∨ 160 ≤ Int32.toNatClampNeg ((88 + (5 * ((R_towns v0) (Int32.toNatClampNeg 80)))) + 4)) then none else (some (q39.2.1, q39.2.2, (upd (upd z40 (Int32.toNatClampNeg ((88 + (5 * ((R_towns v0) (Int32.toNatClampNeg 80)))) + 4)) q39.1) (Int32.toNatClampNeg 80) (((upd z40 (Int32.toNatClampNeg ((88 + (5 * ((R_towns v0) (Int32.toNatClampNeg 80)))) + 4)) q39.1) (Int32.toNatClampNeg 80)) + 1)), z32, ((R_readMany v0) + 1)))))))))))))))))))))))))))))) else (some (((R_at v0) + 1), q29, (R_towns v0), (R_readNames v0), (R_readMany v0)))))))))))))
set_option maxRecDepth 20000 in
set_option maxHeartbeats 4000000 in
theorem c_R_readPerson (N : Nat) (v0 : VR) (R : Int32 × Int32 × (Nat → Int32) × (Nat → Int64) × Int32) (hf : f_R_readPerson N v0 = some R) : Ct zMX12_readPerson 5 0 0 0 [.ref 0] ([kR 0 v0] : List (List zE)).flatten (fun v cc => v = none ∧ cc = ([kR 0 (R_s_at_fault_towns_readNames_readMany v0 R.1 R.2.1 R.2.2.1 R.2.2.2.1 R.2.2.2.2)] : List (List zE)).flatten) := by
  refine Ct.of zMX12_readPerson_ok (by decide) (Nat.le_of_ble_eq_true rfl) ?_
  intro Z hZ hR hN hE
  have hRm : zRoom Z 0 0 := zRoom0 Z
  unfold f_R_readPerson at hf
  show AW Z 0 0 0 [some (.ref 0), none, none] [] ([kR 0 v0] : List (List zE)).flatten
  refine AW.run hZ hRm [16, 31] 400 ?_
  show (¬ ((80 : Int32) < 0 ∨ 160 ≤ Int32.toNatClampNeg 80) ∧ ((¬ (((R_towns v0) (Int32.toNatClampNeg 80)) = 6) → AW Z 0 0 31 [some (.ref 0), some (.int ((R_towns v0) (Int32.toNatClampNeg 80))), none] [.ref 0] ([kR 0 (R_at_s v0 ((R_at v0) + 1))] : List (List zE)).flatten) ∧ ((((R_towns v0) (Int32.toNatClampNeg 80)) = 6) → AW Z 0 0 16 [some (.ref 0), some (.int ((R_towns v0) (Int32.toNatClampNeg 80))), none] [.int 5, .ref 0] ([kR 0 v0] : List (List zE)).flatten)))
  refine ⟨(by decide), ?_⟩
  refine ⟨fun c1 => ?_, fun c1 => ?_⟩
  · rw [if_neg c1] at hf
    obtain ⟨q2, h80, hf⟩ := zbind hf
    refine AW.callVc hZ hR hN (c_R_isName N (R_at_s v0 ((R_at v0) + 1)) q2 h80) zMX12_isName_ok rfl rfl zK_BorrowedLivesModel_213 zV_X12_isName rfl [25] [0] [0, 1, 2, 3, 4, 5, 6, 7, 8, 9, 10, 11, 12, 13, 14, 15, 16, 17, 18, 19, 20, 21, 22, 23, 24] rfl rfl rfl (by decide) (by decide) (by omega) (by decide) (Nat.zero_le _) (Nat.zero_le _) rfl rfl rfl rfl rfl ?_
    rintro v cc ⟨rfl, rfl⟩
    refine ⟨_, rfl, rfl, ?_⟩
    show AW Z 0 0 34 [some (.ref 0), some (.int ((R_towns v0) (Int32.toNatClampNeg 80))), none] [.int q2] ([kR 0 (R_at_s v0 ((R_at v0) + 1))] : List (List zE)).flatten
    refine AW.run hZ hRm [39, 47] 400 ?_
    show ((¬ (q2 = 0) → AW Z 0 0 47 [some (.ref 0), some (.int ((R_towns v0) (Int32.toNatClampNeg 80))), none] [.int 1, .ref 0] ([kR 0 (R_at_s v0 ((R_at v0) + 1))] : List (List zE)).flatten) ∧ ((q2 = 0) → AW Z 0 0 39 [some (.ref 0), some (.int ((R_towns v0) (Int32.toNatClampNeg 80))), none] [.int 1, .ref 0] ([kR 0 (R_at_s v0 ((R_at v0) + 1))] : List (List zE)).flatten))
    refine ⟨fun c3 => ?_, fun c3 => ?_⟩
    · rw [if_neg c3] at hf
      obtain ⟨q4, h54, hf⟩ := zbind hf
      refine AW.callVc hZ hR hN (c_R_find N (R_at_s v0 ((R_at v0) + 1)) 1 q4 h54) zMX12_find_ok rfl rfl zK_BorrowedLivesModel_217 zV_X12_find rfl [25] [0] [0, 1, 2, 3, 4, 5, 6, 7, 8, 9, 10, 11, 12, 13, 14, 15, 16, 17, 18, 19, 20, 21, 22, 23, 24] rfl rfl rfl (by decide) (by decide) (by omega) (by decide) (Nat.zero_le _) (Nat.zero_le _) rfl rfl rfl rfl rfl ?_
      rintro v cc ⟨rfl, rfl⟩
      refine ⟨_, rfl, rfl, ?_⟩
      show AW Z 0 0 50 [some (.ref 0), some (.int ((R_towns v0) (Int32.toNatClampNeg 80))), none] [.int q4] ([kR 0 (R_at_s v0 ((R_at v0) + 1))] : List (List zE)).flatten
      refine AW.run hZ hRm [55, 65, 120] 400 ?_
      show (((q4 < 0) → ((((R_fault v0) ≤ 0) → (¬ (((R_at v0) + 1) < 0 ∨ 1002 ≤ Int32.toNatClampNeg ((R_at v0) + 1)) ∧ (¬ ((R_readMany v0) < 0 ∨ 6 ≤ Int32.toNatClampNeg (R_readMany v0)) ∧ AW Z 0 0 120 [some (.ref 0), some (.int ((R_towns v0) (Int32.toNatClampNeg 80))), some (.int (88 + (5 * ((R_towns v0) (Int32.toNatClampNeg 80)))))] [.int 4, .int 15, .ref 0, .int (88 + (5 * ((R_towns v0) (Int32.toNatClampNeg 80)))), .ref 6] ([kR 0 (R_s_at_readNames_readMany v0 (((R_at v0) + 1) + 1) (vp_updL (R_readNames v0) (Int32.toNatClampNeg (R_readMany v0)) ((R_value v0) (Int32.toNatClampNeg ((R_at v0) + 1)))) ((R_readMany v0) + 1))] : List (List zE)).flatten))) ∧ (¬ ((R_fault v0) ≤ 0) → AW Z 0 0 65 [some (.ref 0), some (.int ((R_towns v0) (Int32.toNatClampNeg 80))), none] [] ([kR 0 (R_at_s v0 ((R_at v0) + 1))] : List (List zE)).flatten))) ∧ (¬ (q4 < 0) → AW Z 0 0 55 [some (.ref 0), some (.int ((R_towns v0) (Int32.toNatClampNeg 80))), none] [.int 3, .ref 0] ([kR 0 (R_at_s v0 ((R_at v0) + 1))] : List (List zE)).flatten))
      refine ⟨fun c5 => ?_, fun c5 => ?_⟩
      · rw [if_pos c5] at hf
        refine ⟨fun c6 => ?_, fun c6 => ?_⟩
        · rw [if_pos c6] at hf
          obtain ⟨b28, hf⟩ := zneed hf
          refine ⟨b28, ?_⟩
          obtain ⟨b27, hf⟩ := zneed hf
          refine ⟨b27, ?_⟩
          obtain ⟨q7, h26, hf⟩ := zbind hf
          refine AW.callVc hZ hR hN (c_R_takeOne N (R_s_at_readNames_readMany v0 (((R_at v0) + 1) + 1) (vp_updL (R_readNames v0) (Int32.toNatClampNeg (R_readMany v0)) ((R_value v0) (Int32.toNatClampNeg ((R_at v0) + 1)))) ((R_readMany v0) + 1)) 15 4 q7 h26) zMX12_takeOne_ok rfl rfl zK_BorrowedLivesModel_246 zV_X12_takeOne rfl [25] [0] [0, 1, 2, 3, 4, 5, 6, 7, 8, 9, 10, 11, 12, 13, 14, 15, 16, 17, 18, 19, 20, 21, 22, 23, 24] rfl rfl rfl (by decide) (by decide) (by omega) (by decide) (Nat.zero_le _) (Nat.zero_le _) rfl rfl rfl rfl rfl ?_
          rintro v cc ⟨rfl, rfl⟩
          refine ⟨_, rfl, rfl, ?_⟩
          show AW Z 0 0 123 [some (.ref 0), some (.int ((R_towns v0) (Int32.toNatClampNeg 80))), some (.int (88 + (5 * ((R_towns v0) (Int32.toNatClampNeg 80)))))] [.int q7.1, .int (88 + (5 * ((R_towns v0) (Int32.toNatClampNeg 80)))), .ref 6] ([kR 0 (R_s_at_fault_readNames_readMany v0 q7.2.1 q7.2.2 (vp_updL (R_readNames v0) (Int32.toNatClampNeg (R_readMany v0)) ((R_value v0) (Int32.toNatClampNeg ((R_at v0) + 1)))) ((R_readMany v0) + 1))] : List (List zE)).flatten
          replace hf := zlet_gen hf
          generalize ((vp_updL (R_readNames v0) (Int32.toNatClampNeg (R_readMany v0)) ((R_value v0) (Int32.toNatClampNeg ((R_at v0) + 1)))) : (Nat → Int64)) = z8 at hf ⊢
          refine AW.run hZ hRm [136] 400 ?_
          show (¬ ((88 + (5 * ((R_towns v0) (Int32.toNatClampNeg 80)))) < 0 ∨ 160 ≤ Int32.toNatClampNeg (88 + (5 * ((R_towns v0) (Int32.toNatClampNeg 80))))) ∧ AW Z 0 0 136 [some (.ref 0), some (.int ((R_towns v0) (Int32.toNatClampNeg 80))), some (.int (88 + (5 * ((R_towns v0) (Int32.toNatClampNeg 80)))))] [.int 9, .int 0, .int 1, .ref 0, .int ((88 + (5 * ((R_towns v0) (Int32.toNatClampNeg 80)))) + 1), .ref 6] ([kR 0 (R_s_at_fault_towns_readNames_readMany v0 q7.2.1 q7.2.2 (upd (R_towns v0) (Int32.toNatClampNeg (88 + (5 * ((R_towns v0) (Int32.toNatClampNeg 80))))) q7.1) z8 ((R_readMany v0) + 1))] : List (List zE)).flatten)
          obtain ⟨b25, hf⟩ := zneed hf
          refine ⟨b25, ?_⟩
          obtain ⟨q9, h24, hf⟩ := zbind hf
          refine AW.callVc hZ hR hN (c_R_takeAfter N (R_s_at_fault_towns_readNames_readMany v0 q7.2.1 q7.2.2 (upd (R_towns v0) (Int32.toNatClampNeg (88 + (5 * ((R_towns v0) (Int32.toNatClampNeg 80))))) q7.1) z8 ((R_readMany v0) + 1)) 1 0 9 q9 h24) zMX12_takeAfter_ok rfl rfl zK_BorrowedLivesModel_249 zV_X12_takeAfter rfl [25] [0] [0, 1, 2, 3, 4, 5, 6, 7, 8, 9, 10, 11, 12, 13, 14, 15, 16, 17, 18, 19, 20, 21, 22, 23, 24] rfl rfl rfl (by decide) (by decide) (by omega) (by decide) (Nat.zero_le _) (Nat.zero_le _) rfl rfl rfl rfl rfl ?_
          rintro v cc ⟨rfl, rfl⟩
          refine ⟨_, rfl, rfl, ?_⟩
          show AW Z 0 0 139 [some (.ref 0), some (.int ((R_towns v0) (Int32.toNatClampNeg 80))), some (.int (88 + (5 * ((R_towns v0) (Int32.toNatClampNeg 80)))))] [.int q9.1, .int ((88 + (5 * ((R_towns v0) (Int32.toNatClampNeg 80)))) + 1), .ref 6] ([kR 0 (R_s_at_fault_towns_readNames_readMany v0 q9.2.1 q9.2.2 (upd (R_towns v0) (Int32.toNatClampNeg (88 + (5 * ((R_towns v0) (Int32.toNatClampNeg 80))))) q7.1) z8 ((R_readMany v0) + 1))] : List (List zE)).flatten
          replace hf := zlet_gen hf
          generalize ((upd (R_towns v0) (Int32.toNatClampNeg (88 + (5 * ((R_towns v0) (Int32.toNatClampNeg 80))))) q7.1) : (Nat → Int32)) = z10 at hf ⊢
          refine AW.run hZ hRm [153] 400 ?_
          show (¬ (((88 + (5 * ((R_towns v0) (Int32.toNatClampNeg 80)))) + 1) < 0 ∨ 160 ≤ Int32.toNatClampNeg ((88 + (5 * ((R_towns v0) (Int32.toNatClampNeg 80)))) + 1)) ∧ AW Z 0 0 153 [some (.ref 0), some (.int ((R_towns v0) (Int32.toNatClampNeg 80))), some (.int (88 + (5 * ((R_towns v0) (Int32.toNatClampNeg 80)))))] [.int 999, .int 0, .int 2, .ref 0, .int ((88 + (5 * ((R_towns v0) (Int32.toNatClampNeg 80)))) + 2), .ref 6] ([kR 0 (R_s_at_fault_towns_readNames_readMany v0 q9.2.1 q9.2.2 (upd z10 (Int32.toNatClampNeg ((88 + (5 * ((R_towns v0) (Int32.toNatClampNeg 80)))) + 1)) q9.1) z8 ((R_readMany v0) + 1))] : List (List zE)).flatten)
          obtain ⟨b23, hf⟩ := zneed hf
          refine ⟨b23, ?_⟩
          obtain ⟨q11, h22, hf⟩ := zbind hf
          refine AW.callVc hZ hR hN (c_R_takeAfter N (R_s_at_fault_towns_readNames_readMany v0 q9.2.1 q9.2.2 (upd z10 (Int32.toNatClampNeg ((88 + (5 * ((R_towns v0) (Int32.toNatClampNeg 80)))) + 1)) q9.1) z8 ((R_readMany v0) + 1)) 2 0 999 q11 h22) zMX12_takeAfter_ok rfl rfl zK_BorrowedLivesModel_249 zV_X12_takeAfter rfl [25] [0] [0, 1, 2, 3, 4, 5, 6, 7, 8, 9, 10, 11, 12, 13, 14, 15, 16, 17, 18, 19, 20, 21, 22, 23, 24] rfl rfl rfl (by decide) (by decide) (by omega) (by decide) (Nat.zero_le _) (Nat.zero_le _) rfl rfl rfl rfl rfl ?_
          rintro v cc ⟨rfl, rfl⟩
          refine ⟨_, rfl, rfl, ?_⟩
          show AW Z 0 0 156 [some (.ref 0), some (.int ((R_towns v0) (Int32.toNatClampNeg 80))), some (.int (88 + (5 * ((R_towns v0) (Int32.toNatClampNeg 80)))))] [.int q11.1, .int ((88 + (5 * ((R_towns v0) (Int32.toNatClampNeg 80)))) + 2), .ref 6] ([kR 0 (R_s_at_fault_towns_readNames_readMany v0 q11.2.1 q11.2.2 (upd z10 (Int32.toNatClampNeg ((88 + (5 * ((R_towns v0) (Int32.toNatClampNeg 80)))) + 1)) q9.1) z8 ((R_readMany v0) + 1))] : List (List zE)).flatten
          replace hf := zlet_gen hf
          generalize ((upd z10 (Int32.toNatClampNeg ((88 + (5 * ((R_towns v0) (Int32.toNatClampNeg 80)))) + 1)) q9.1) : (Nat → Int32)) = z12 at hf ⊢
          refine AW.run hZ hRm [170] 400 ?_
          show (¬ (((88 + (5 * ((R_towns v0) (Int32.toNatClampNeg 80)))) + 2) < 0 ∨ 160 ≤ Int32.toNatClampNeg ((88 + (5 * ((R_towns v0) (Int32.toNatClampNeg 80)))) + 2)) ∧ AW Z 0 0 170 [some (.ref 0), some (.int ((R_towns v0) (Int32.toNatClampNeg 80))), some (.int (88 + (5 * ((R_towns v0) (Int32.toNatClampNeg 80)))))] [.int 999, .int 0, .int 3, .ref 0, .int ((88 + (5 * ((R_towns v0) (Int32.toNatClampNeg 80)))) + 3), .ref 6] ([kR 0 (R_s_at_fault_towns_readNames_readMany v0 q11.2.1 q11.2.2 (upd z12 (Int32.toNatClampNeg ((88 + (5 * ((R_towns v0) (Int32.toNatClampNeg 80)))) + 2)) q11.1) z8 ((R_readMany v0) + 1))] : List (List zE)).flatten)
          obtain ⟨b21, hf⟩ := zneed hf
          refine ⟨b21, ?_⟩
          obtain ⟨q13, h20, hf⟩ := zbind hf
          refine AW.callVc hZ hR hN (c_R_takeAfter N (R_s_at_fault_towns_readNames_readMany v0 q11.2.1 q11.2.2 (upd z12 (Int32.toNatClampNeg ((88 + (5 * ((R_towns v0) (Int32.toNatClampNeg 80)))) + 2)) q11.1) z8 ((R_readMany v0) + 1)) 3 0 999 q13 h20) zMX12_takeAfter_ok rfl rfl zK_BorrowedLivesModel_249 zV_X12_takeAfter rfl [25] [0] [0, 1, 2, 3, 4, 5, 6, 7, 8, 9, 10, 11, 12, 13, 14, 15, 16, 17, 18, 19, 20, 21, 22, 23, 24] rfl rfl rfl (by decide) (by decide) (by omega) (by decide) (Nat.zero_le _) (Nat.zero_le _) rfl rfl rfl rfl rfl ?_
          rintro v cc ⟨rfl, rfl⟩
          refine ⟨_, rfl, rfl, ?_⟩
          show AW Z 0 0 173 [some (.ref 0), some (.int ((R_towns v0) (Int32.toNatClampNeg 80))), some (.int (88 + (5 * ((R_towns v0) (Int32.toNatClampNeg 80)))))] [.int q13.1, .int ((88 + (5 * ((R_towns v0) (Int32.toNatClampNeg 80)))) + 3), .ref 6] ([kR 0 (R_s_at_fault_towns_readNames_readMany v0 q13.2.1 q13.2.2 (upd z12 (Int32.toNatClampNeg ((88 + (5 * ((R_towns v0) (Int32.toNatClampNeg 80)))) + 2)) q11.1) z8 ((R_readMany v0) + 1))] : List (List zE)).flatten
          replace hf := zlet_gen hf
          generalize ((upd z12 (Int32.toNatClampNeg ((88 + (5 * ((R_towns v0) (Int32.toNatClampNeg 80)))) + 2)) q11.1) : (Nat → Int32)) = z14 at hf ⊢
          refine AW.run hZ hRm [186] 400 ?_
          show (¬ (((88 + (5 * ((R_towns v0) (Int32.toNatClampNeg 80)))) + 3) < 0 ∨ 160 ≤ Int32.toNatClampNeg ((88 + (5 * ((R_towns v0) (Int32.toNatClampNeg 80)))) + 3)) ∧ AW Z 0 0 186 [some (.ref 0), some (.int ((R_towns v0) (Int32.toNatClampNeg 80))), some (.int (88 + (5 * ((R_towns v0) (Int32.toNatClampNeg 80)))))] [.int 9, .int 0, .int 4, .ref 0, .int ((88 + (5 * ((R_towns v0) (Int32.toNatClampNeg 80)))) + 4), .ref 6] ([kR 0 (R_s_at_fault_towns_readNames_readMany v0 q13.2.1 q13.2.2 (upd z14 (Int32.toNatClampNeg ((88 + (5 * ((R_towns v0) (Int32.toNatClampNeg 80)))) + 3)) q13.1) z8 ((R_readMany v0) + 1))] : List (List zE)).flatten)
          obtain ⟨b19, hf⟩ := zneed hf
          refine ⟨b19, ?_⟩
          obtain ⟨q15, h18, hf⟩ := zbind hf
          refine AW.callVc hZ hR hN (c_R_takeAfter N (R_s_at_fault_towns_readNames_readMany v0 q13.2.1 q13.2.2 (upd z14 (Int32.toNatClampNeg ((88 + (5 * ((R_towns v0) (Int32.toNatClampNeg 80)))) + 3)) q13.1) z8 ((R_readMany v0) + 1)) 4 0 9 q15 h18) zMX12_takeAfter_ok rfl rfl zK_BorrowedLivesModel_249 zV_X12_takeAfter rfl [25] [0] [0, 1, 2, 3, 4, 5, 6, 7, 8, 9, 10, 11, 12, 13, 14, 15, 16, 17, 18, 19, 20, 21, 22, 23, 24] rfl rfl rfl (by decide) (by decide) (by omega) (by decide) (Nat.zero_le _) (Nat.zero_le _) rfl rfl rfl rfl rfl ?_
          rintro v cc ⟨rfl, rfl⟩
          refine ⟨_, rfl, rfl, ?_⟩
          show AW Z 0 0 189 [some (.ref 0), some (.int ((R_towns v0) (Int32.toNatClampNeg 80))), some (.int (88 + (5 * ((R_towns v0) (Int32.toNatClampNeg 80)))))] [.int q15.1, .int ((88 + (5 * ((R_towns v0) (Int32.toNatClampNeg 80)))) + 4), .ref 6] ([kR 0 (R_s_at_fault_towns_readNames_readMany v0 q15.2.1 q15.2.2 (upd z14 (Int32.toNatClampNeg ((88 + (5 * ((R_towns v0) (Int32.toNatClampNeg 80)))) + 3)) q13.1) z8 ((R_readMany v0) + 1))] : List (List zE)).flatten
          replace hf := zlet_gen hf
          generalize ((upd z14 (Int32.toNatClampNeg ((88 + (5 * ((R_towns v0) (Int32.toNatClampNeg 80)))) + 3)) q13.1) : (Nat → Int32)) = z16 at hf ⊢
          refine AW.run hZ hRm [201] 400 ?_
          show (¬ (((88 + (5 * ((R_towns v0) (Int32.toNatClampNeg 80)))) + 4) < 0 ∨ 160 ≤ Int32.toNatClampNeg ((88 + (5 * ((R_towns v0) (Int32.toNatClampNeg 80)))) + 4)) ∧ (¬ ((80 : Int32) < 0 ∨ 160 ≤ Int32.toNatClampNeg 80) ∧ (¬ ((80 : Int32) < 0 ∨ 160 ≤ Int32.toNatClampNeg 80) ∧ AW Z 0 0 201 [some (.ref 0), some (.int ((R_towns v0) (Int32.toNatClampNeg 80))), some (.int (88 + (5 * ((R_towns v0) (Int32.toNatClampNeg 80)))))] [] ([kR 0 (R_s_at_fault_towns_readNames_readMany v0 q15.2.1 q15.2.2 (upd (upd z16 (Int32.toNatClampNeg ((88 + (5 * ((R_towns v0) (Int32.toNatClampNeg 80)))) + 4)) q15.1) (Int32.toNatClampNeg 80) (((upd z16 (Int32.toNatClampNeg ((88 + (5 * ((R_towns v0) (Int32.toNatClampNeg 80)))) + 4)) q15.1) (Int32.toNatClampNeg 80)) + 1)) z8 ((R_readMany v0) + 1))] : List (List zE)).flatten)))
          obtain ⟨b17, hf⟩ := zneed hf
          refine ⟨b17, ?_⟩
          refine ⟨(by decide), ?_⟩
          refine ⟨(by decide), ?_⟩
          cases hf
          exact AW.vret hZ hE rfl rfl rfl (Nat.le_refl 0) (Nat.le_refl 0) rfl ⟨rfl, rfl⟩
        · rw [if_neg c6] at hf
          cases hf
          exact AW.vret hZ hE rfl rfl rfl (Nat.le_refl 0) (Nat.le_refl 0) rfl ⟨rfl, rfl⟩
      · rw [if_neg c5] at hf
        obtain ⟨q29, h53, hf⟩ := zbind hf
        refine AW.callVc hZ hR hN (c_R_wrong N (R_at_s v0 ((R_at v0) + 1)) 3 q29 h53) zMX12_wrong_ok rfl rfl zK_BorrowedLivesModel_188 zV_X12_wrong rfl [25] [0] [0, 1, 2, 3, 4, 5, 6, 7, 8, 9, 10, 11, 12, 13, 14, 15, 16, 17, 18, 19, 20, 21, 22, 23, 24] rfl rfl rfl (by decide) (by decide) (by omega) (by decide) (Nat.zero_le _) (Nat.zero_le _) rfl rfl rfl rfl rfl ?_
        rintro v cc ⟨rfl, rfl⟩
        refine ⟨_, rfl, rfl, ?_⟩
        show AW Z 0 0 58 [some (.ref 0), some (.int ((R_towns v0) (Int32.toNatClampNeg 80))), none] [] ([kR 0 (R_s_at_fault v0 ((R_at v0) + 1) q29)] : List (List zE)).flatten
        refine AW.run hZ hRm [65, 120] 400 ?_
        show (((q29 ≤ 0) → (¬ (((R_at v0) + 1) < 0 ∨ 1002 ≤ Int32.toNatClampNeg ((R_at v0) + 1)) ∧ (¬ ((R_readMany v0) < 0 ∨ 6 ≤ Int32.toNatClampNeg (R_readMany v0)) ∧ AW Z 0 0 120 [some (.ref 0), some (.int ((R_towns v0) (Int32.toNatClampNeg 80))), some (.int (88 + (5 * ((R_towns v0) (Int32.toNatClampNeg 80)))))] [.int 4, .int 15, .ref 0, .int (88 + (5 * ((R_towns v0) (Int32.toNatClampNeg 80)))), .ref 6] ([kR 0 (R_s_at_fault_readNames_readMany v0 (((R_at v0) + 1) + 1) q29 (vp_updL (R_readNames v0) (Int32.toNatClampNeg (R_readMany v0)) ((R_value v0) (Int32.toNatClampNeg ((R_at v0) + 1)))) ((R_readMany v0) + 1))] : List (List zE)).flatten))) ∧ (¬ (q29 ≤ 0) → AW Z 0 0 65 [some (.ref 0), some (.int ((R_towns v0) (Int32.toNatClampNeg 80))), none] [] ([kR 0 (R_s_at_fault v0 ((R_at v0) + 1) q29)] : List (List zE)).flatten))
        refine ⟨fun c30 => ?_, fun c30 => ?_⟩
        · rw [if_pos c30] at hf
          obtain ⟨b52, hf⟩ := zneed hf
          refine ⟨b52, ?_⟩
          obtain ⟨b51, hf⟩ := zneed hf
          refine ⟨b51, ?_⟩
          obtain ⟨q31, h50, hf⟩ := zbind hf
          refine AW.callVc hZ hR hN (c_R_takeOne N (R_s_at_fault_readNames_readMany v0 (((R_at v0) + 1) + 1) q29 (vp_updL (R_readNames v0) (Int32.toNatClampNeg (R_readMany v0)) ((R_value v0) (Int32.toNatClampNeg ((R_at v0) + 1)))) ((R_readMany v0) + 1)) 15 4 q31 h50) zMX12_takeOne_ok rfl rfl zK_BorrowedLivesModel_246 zV_X12_takeOne rfl [25] [0] [0, 1, 2, 3, 4, 5, 6, 7, 8, 9, 10, 11, 12, 13, 14, 15, 16, 17, 18, 19, 20, 21, 22, 23, 24] rfl rfl rfl (by decide) (by decide) (by omega) (by decide) (Nat.zero_le _) (Nat.zero_le _) rfl rfl rfl rfl rfl ?_
          rintro v cc ⟨rfl, rfl⟩
          refine ⟨_, rfl, rfl, ?_⟩
          show AW Z 0 0 123 [some (.ref 0), some (.int ((R_towns v0) (Int32.toNatClampNeg 80))), some (.int (88 + (5 * ((R_towns v0) (Int32.toNatClampNeg 80)))))] [.int q31.1, .int (88 + (5 * ((R_towns v0) (Int32.toNatClampNeg 80)))), .ref 6] ([kR 0 (R_s_at_fault_readNames_readMany v0 q31.2.1 q31.2.2 (vp_updL (R_readNames v0) (Int32.toNatClampNeg (R_readMany v0)) ((R_value v0) (Int32.toNatClampNeg ((R_at v0) + 1)))) ((R_readMany v0) + 1))] : List (List zE)).flatten
          replace hf := zlet_gen hf
          generalize ((vp_updL (R_readNames v0) (Int32.toNatClampNeg (R_readMany v0)) ((R_value v0) (Int32.toNatClampNeg ((R_at v0) + 1)))) : (Nat → Int64)) = z32 at hf ⊢
          refine AW.run hZ hRm [136] 400 ?_
          show (¬ ((88 + (5 * ((R_towns v0) (Int32.toNatClampNeg 80)))) < 0 ∨ 160 ≤ Int32.toNatClampNeg (88 + (5 * ((R_towns v0) (Int32.toNatClampNeg 80))))) ∧ AW Z 0 0 136 [some (.ref 0), some (.int ((R_towns v0) (Int32.toNatClampNeg 80))), some (.int (88 + (5 * ((R_towns v0) (Int32.toNatClampNeg 80)))))] [.int 9, .int 0, .int 1, .ref 0, .int ((88 + (5 * ((R_towns v0) (Int32.toNatClampNeg 80)))) + 1), .ref 6] ([kR 0 (R_s_at_fault_towns_readNames_readMany v0 q31.2.1 q31.2.2 (upd (R_towns v0) (Int32.toNatClampNeg (88 + (5 * ((R_towns v0) (Int32.toNatClampNeg 80))))) q31.1) z32 ((R_readMany v0) + 1))] : List (List zE)).flatten)
          obtain ⟨b49, hf⟩ := zneed hf
          refine ⟨b49, ?_⟩
          obtain ⟨q33, h48, hf⟩ := zbind hf
          refine AW.callVc hZ hR hN (c_R_takeAfter N (R_s_at_fault_towns_readNames_readMany v0 q31.2.1 q31.2.2 (upd (R_towns v0) (Int32.toNatClampNeg (88 + (5 * ((R_towns v0) (Int32.toNatClampNeg 80))))) q31.1) z32 ((R_readMany v0) + 1)) 1 0 9 q33 h48) zMX12_takeAfter_ok rfl rfl zK_BorrowedLivesModel_249 zV_X12_takeAfter rfl [25] [0] [0, 1, 2, 3, 4, 5, 6, 7, 8, 9, 10, 11, 12, 13, 14, 15, 16, 17, 18, 19, 20, 21, 22, 23, 24] rfl rfl rfl (by decide) (by decide) (by omega) (by decide) (Nat.zero_le _) (Nat.zero_le _) rfl rfl rfl rfl rfl ?_
          rintro v cc ⟨rfl, rfl⟩
          refine ⟨_, rfl, rfl, ?_⟩
          show AW Z 0 0 139 [some (.ref 0), some (.int ((R_towns v0) (Int32.toNatClampNeg 80))), some (.int (88 + (5 * ((R_towns v0) (Int32.toNatClampNeg 80)))))] [.int q33.1, .int ((88 + (5 * ((R_towns v0) (Int32.toNatClampNeg 80)))) + 1), .ref 6] ([kR 0 (R_s_at_fault_towns_readNames_readMany v0 q33.2.1 q33.2.2 (upd (R_towns v0) (Int32.toNatClampNeg (88 + (5 * ((R_towns v0) (Int32.toNatClampNeg 80))))) q31.1) z32 ((R_readMany v0) + 1))] : List (List zE)).flatten
          replace hf := zlet_gen hf
          generalize ((upd (R_towns v0) (Int32.toNatClampNeg (88 + (5 * ((R_towns v0) (Int32.toNatClampNeg 80))))) q31.1) : (Nat → Int32)) = z34 at hf ⊢
          refine AW.run hZ hRm [153] 400 ?_
          show (¬ (((88 + (5 * ((R_towns v0) (Int32.toNatClampNeg 80)))) + 1) < 0 ∨ 160 ≤ Int32.toNatClampNeg ((88 + (5 * ((R_towns v0) (Int32.toNatClampNeg 80)))) + 1)) ∧ AW Z 0 0 153 [some (.ref 0), some (.int ((R_towns v0) (Int32.toNatClampNeg 80))), some (.int (88 + (5 * ((R_towns v0) (Int32.toNatClampNeg 80)))))] [.int 999, .int 0, .int 2, .ref 0, .int ((88 + (5 * ((R_towns v0) (Int32.toNatClampNeg 80)))) + 2), .ref 6] ([kR 0 (R_s_at_fault_towns_readNames_readMany v0 q33.2.1 q33.2.2 (upd z34 (Int32.toNatClampNeg ((88 + (5 * ((R_towns v0) (Int32.toNatClampNeg 80)))) + 1)) q33.1) z32 ((R_readMany v0) + 1))] : List (List zE)).flatten)
          obtain ⟨b47, hf⟩ := zneed hf
          refine ⟨b47, ?_⟩
          obtain ⟨q35, h46, hf⟩ := zbind hf
          refine AW.callVc hZ hR hN (c_R_takeAfter N (R_s_at_fault_towns_readNames_readMany v0 q33.2.1 q33.2.2 (upd z34 (Int32.toNatClampNeg ((88 + (5 * ((R_towns v0) (Int32.toNatClampNeg 80)))) + 1)) q33.1) z32 ((R_readMany v0) + 1)) 2 0 999 q35 h46) zMX12_takeAfter_ok rfl rfl zK_BorrowedLivesModel_249 zV_X12_takeAfter rfl [25] [0] [0, 1, 2, 3, 4, 5, 6, 7, 8, 9, 10, 11, 12, 13, 14, 15, 16, 17, 18, 19, 20, 21, 22, 23, 24] rfl rfl rfl (by decide) (by decide) (by omega) (by decide) (Nat.zero_le _) (Nat.zero_le _) rfl rfl rfl rfl rfl ?_
          rintro v cc ⟨rfl, rfl⟩
          refine ⟨_, rfl, rfl, ?_⟩
          show AW Z 0 0 156 [some (.ref 0), some (.int ((R_towns v0) (Int32.toNatClampNeg 80))), some (.int (88 + (5 * ((R_towns v0) (Int32.toNatClampNeg 80)))))] [.int q35.1, .int ((88 + (5 * ((R_towns v0) (Int32.toNatClampNeg 80)))) + 2), .ref 6] ([kR 0 (R_s_at_fault_towns_readNames_readMany v0 q35.2.1 q35.2.2 (upd z34 (Int32.toNatClampNeg ((88 + (5 * ((R_towns v0) (Int32.toNatClampNeg 80)))) + 1)) q33.1) z32 ((R_readMany v0) + 1))] : List (List zE)).flatten
          replace hf := zlet_gen hf
          generalize ((upd z34 (Int32.toNatClampNeg ((88 + (5 * ((R_towns v0) (Int32.toNatClampNeg 80)))) + 1)) q33.1) : (Nat → Int32)) = z36 at hf ⊢
          refine AW.run hZ hRm [170] 400 ?_
          show (¬ (((88 + (5 * ((R_towns v0) (Int32.toNatClampNeg 80)))) + 2) < 0 ∨ 160 ≤ Int32.toNatClampNeg ((88 + (5 * ((R_towns v0) (Int32.toNatClampNeg 80)))) + 2)) ∧ AW Z 0 0 170 [some (.ref 0), some (.int ((R_towns v0) (Int32.toNatClampNeg 80))), some (.int (88 + (5 * ((R_towns v0) (Int32.toNatClampNeg 80)))))] [.int 999, .int 0, .int 3, .ref 0, .int ((88 + (5 * ((R_towns v0) (Int32.toNatClampNeg 80)))) + 3), .ref 6] ([kR 0 (R_s_at_fault_towns_readNames_readMany v0 q35.2.1 q35.2.2 (upd z36 (Int32.toNatClampNeg ((88 + (5 * ((R_towns v0) (Int32.toNatClampNeg 80)))) + 2)) q35.1) z32 ((R_readMany v0) + 1))] : List (List zE)).flatten)
          obtain ⟨b45, hf⟩ := zneed hf
          refine ⟨b45, ?_⟩
          obtain ⟨q37, h44, hf⟩ := zbind hf
          refine AW.callVc hZ hR hN (c_R_takeAfter N (R_s_at_fault_towns_readNames_readMany v0 q35.2.1 q35.2.2 (upd z36 (Int32.toNatClampNeg ((88 + (5 * ((R_towns v0) (Int32.toNatClampNeg 80)))) + 2)) q35.1) z32 ((R_readMany v0) + 1)) 3 0 999 q37 h44) zMX12_takeAfter_ok rfl rfl zK_BorrowedLivesModel_249 zV_X12_takeAfter rfl [25] [0] [0, 1, 2, 3, 4, 5, 6, 7, 8, 9, 10, 11, 12, 13, 14, 15, 16, 17, 18, 19, 20, 21, 22, 23, 24] rfl rfl rfl (by decide) (by decide) (by omega) (by decide) (Nat.zero_le _) (Nat.zero_le _) rfl rfl rfl rfl rfl ?_
          rintro v cc ⟨rfl, rfl⟩
          refine ⟨_, rfl, rfl, ?_⟩
          show AW Z 0 0 173 [some (.ref 0), some (.int ((R_towns v0) (Int32.toNatClampNeg 80))), some (.int (88 + (5 * ((R_towns v0) (Int32.toNatClampNeg 80)))))] [.int q37.1, .int ((88 + (5 * ((R_towns v0) (Int32.toNatClampNeg 80)))) + 3), .ref 6] ([kR 0 (R_s_at_fault_towns_readNames_readMany v0 q37.2.1 q37.2.2 (upd z36 (Int32.toNatClampNeg ((88 + (5 * ((R_towns v0) (Int32.toNatClampNeg 80)))) + 2)) q35.1) z32 ((R_readMany v0) + 1))] : List (List zE)).flatten
          replace hf := zlet_gen hf
          generalize ((upd z36 (Int32.toNatClampNeg ((88 + (5 * ((R_towns v0) (Int32.toNatClampNeg 80)))) + 2)) q35.1) : (Nat → Int32)) = z38 at hf ⊢
          refine AW.run hZ hRm [186] 400 ?_
          show (¬ (((88 + (5 * ((R_towns v0) (Int32.toNatClampNeg 80)))) + 3) < 0 ∨ 160 ≤ Int32.toNatClampNeg ((88 + (5 * ((R_towns v0) (Int32.toNatClampNeg 80)))) + 3)) ∧ AW Z 0 0 186 [some (.ref 0), some (.int ((R_towns v0) (Int32.toNatClampNeg 80))), some (.int (88 + (5 * ((R_towns v0) (Int32.toNatClampNeg 80)))))] [.int 9, .int 0, .int 4, .ref 0, .int ((88 + (5 * ((R_towns v0) (Int32.toNatClampNeg 80)))) + 4), .ref 6] ([kR 0 (R_s_at_fault_towns_readNames_readMany v0 q37.2.1 q37.2.2 (upd z38 (Int32.toNatClampNeg ((88 + (5 * ((R_towns v0) (Int32.toNatClampNeg 80)))) + 3)) q37.1) z32 ((R_readMany v0) + 1))] : List (List zE)).flatten)
          obtain ⟨b43, hf⟩ := zneed hf
          refine ⟨b43, ?_⟩
          obtain ⟨q39, h42, hf⟩ := zbind hf
          refine AW.callVc hZ hR hN (c_R_takeAfter N (R_s_at_fault_towns_readNames_readMany v0 q37.2.1 q37.2.2 (upd z38 (Int32.toNatClampNeg ((88 + (5 * ((R_towns v0) (Int32.toNatClampNeg 80)))) + 3)) q37.1) z32 ((R_readMany v0) + 1)) 4 0 9 q39 h42) zMX12_takeAfter_ok rfl rfl zK_BorrowedLivesModel_249 zV_X12_takeAfter rfl [25] [0] [0, 1, 2, 3, 4, 5, 6, 7, 8, 9, 10, 11, 12, 13, 14, 15, 16, 17, 18, 19, 20, 21, 22, 23, 24] rfl rfl rfl (by decide) (by decide) (by omega) (by decide) (Nat.zero_le _) (Nat.zero_le _) rfl rfl rfl rfl rfl ?_
          rintro v cc ⟨rfl, rfl⟩
          refine ⟨_, rfl, rfl, ?_⟩
          show AW Z 0 0 189 [some (.ref 0), some (.int ((R_towns v0) (Int32.toNatClampNeg 80))), some (.int (88 + (5 * ((R_towns v0) (Int32.toNatClampNeg 80)))))] [.int q39.1, .int ((88 + (5 * ((R_towns v0) (Int32.toNatClampNeg 80)))) + 4), .ref 6] ([kR 0 (R_s_at_fault_towns_readNames_readMany v0 q39.2.1 q39.2.2 (upd z38 (Int32.toNatClampNeg ((88 + (5 * ((R_towns v0) (Int32.toNatClampNeg 80)))) + 3)) q37.1) z32 ((R_readMany v0) + 1))] : List (List zE)).flatten
          replace hf := zlet_gen hf
          generalize ((upd z38 (Int32.toNatClampNeg ((88 + (5 * ((R_towns v0) (Int32.toNatClampNeg 80)))) + 3)) q37.1) : (Nat → Int32)) = z40 at hf ⊢
          refine AW.run hZ hRm [201] 400 ?_
          show (¬ (((88 + (5 * ((R_towns v0) (Int32.toNatClampNeg 80)))) + 4) < 0 ∨ 160 ≤ Int32.toNatClampNeg ((88 + (5 * ((R_towns v0) (Int32.toNatClampNeg 80)))) + 4)) ∧ (¬ ((80 : Int32) < 0 ∨ 160 ≤ Int32.toNatClampNeg 80) ∧ (¬ ((80 : Int32) < 0 ∨ 160 ≤ Int32.toNatClampNeg 80) ∧ AW Z 0 0 201 [some (.ref 0), some (.int ((R_towns v0) (Int32.toNatClampNeg 80))), some (.int (88 + (5 * ((R_towns v0) (Int32.toNatClampNeg 80)))))] [] ([kR 0 (R_s_at_fault_towns_readNames_readMany v0 q39.2.1 q39.2.2 (upd (upd z40 (Int32.toNatClampNeg ((88 + (5 * ((R_towns v0) (Int32.toNatClampNeg 80)))) + 4)) q39.1) (Int32.toNatClampNeg 80) (((upd z40 (Int32.toNatClampNeg ((88 + (5 * ((R_towns v0) (Int32.toNatClampNeg 80)))) + 4)) q39.1) (Int32.toNatClampNeg 80)) + 1)) z32 ((R_readMany v0) + 1))] : List (List zE)).flatten)))
          obtain ⟨b41, hf⟩ := zneed hf
          refine ⟨b41, ?_⟩
          refine ⟨(by decide), ?_⟩
          refine ⟨(by decide), ?_⟩
          cases hf
          exact AW.vret hZ hE rfl rfl rfl (Nat.le_refl 0) (Nat.le_refl 0) rfl ⟨rfl, rfl⟩
        · rw [if_neg c30] at hf
          cases hf
          exact AW.vret hZ hE rfl rfl rfl (Nat.le_refl 0) (Nat.le_refl 0) rfl ⟨rfl, rfl⟩
    · rw [if_pos c3] at hf
      obtain ⟨q55, h79, hf⟩ := zbind hf
      refine AW.callVc hZ hR hN (c_R_wrong N (R_at_s v0 ((R_at v0) + 1)) 1 q55 h79) zMX12_wrong_ok rfl rfl zK_BorrowedLivesModel_188 zV_X12_wrong rfl [25] [0] [0, 1, 2, 3, 4, 5, 6, 7, 8, 9, 10, 11, 12, 13, 14, 15, 16, 17, 18, 19, 20, 21, 22, 23, 24] rfl rfl rfl (by decide) (by decide) (by omega) (by decide) (Nat.zero_le _) (Nat.zero_le _) rfl rfl rfl rfl rfl ?_
      rintro v cc ⟨rfl, rfl⟩
      refine ⟨_, rfl, rfl, ?_⟩
      show AW Z 0 0 42 [some (.ref 0), some (.int ((R_towns v0) (Int32.toNatClampNeg 80))), none] [] ([kR 0 (R_s_at_fault v0 ((R_at v0) + 1) q55)] : List (List zE)).flatten
      refine AW.run hZ hRm [65, 120] 400 ?_
      show (((q55 ≤ 0) → (¬ (((R_at v0) + 1) < 0 ∨ 1002 ≤ Int32.toNatClampNeg ((R_at v0) + 1)) ∧ (¬ ((R_readMany v0) < 0 ∨ 6 ≤ Int32.toNatClampNeg (R_readMany v0)) ∧ AW Z 0 0 120 [some (.ref 0), some (.int ((R_towns v0) (Int32.toNatClampNeg 80))), some (.int (88 + (5 * ((R_towns v0) (Int32.toNatClampNeg 80)))))] [.int 4, .int 15, .ref 0, .int (88 + (5 * ((R_towns v0) (Int32.toNatClampNeg 80)))), .ref 6] ([kR 0 (R_s_at_fault_readNames_readMany v0 (((R_at v0) + 1) + 1) q55 (vp_updL (R_readNames v0) (Int32.toNatClampNeg (R_readMany v0)) ((R_value v0) (Int32.toNatClampNeg ((R_at v0) + 1)))) ((R_readMany v0) + 1))] : List (List zE)).flatten))) ∧ (¬ (q55 ≤ 0) → AW Z 0 0 65 [some (.ref 0), some (.int ((R_towns v0) (Int32.toNatClampNeg 80))), none] [] ([kR 0 (R_s_at_fault v0 ((R_at v0) + 1) q55)] : List (List zE)).flatten))
      refine ⟨fun c56 => ?_, fun c56 => ?_⟩
      · rw [if_pos c56] at hf
        obtain ⟨b78, hf⟩ := zneed hf
        refine ⟨b78, ?_⟩
        obtain ⟨b77, hf⟩ := zneed hf
        refine ⟨b77, ?_⟩
        obtain ⟨q57, h76, hf⟩ := zbind hf
        refine AW.callVc hZ hR hN (c_R_takeOne N (R_s_at_fault_readNames_readMany v0 (((R_at v0) + 1) + 1) q55 (vp_updL (R_readNames v0) (Int32.toNatClampNeg (R_readMany v0)) ((R_value v0) (Int32.toNatClampNeg ((R_at v0) + 1)))) ((R_readMany v0) + 1)) 15 4 q57 h76) zMX12_takeOne_ok rfl rfl zK_BorrowedLivesModel_246 zV_X12_takeOne rfl [25] [0] [0, 1, 2, 3, 4, 5, 6, 7, 8, 9, 10, 11, 12, 13, 14, 15, 16, 17, 18, 19, 20, 21, 22, 23, 24] rfl rfl rfl (by decide) (by decide) (by omega) (by decide) (Nat.zero_le _) (Nat.zero_le _) rfl rfl rfl rfl rfl ?_
        rintro v cc ⟨rfl, rfl⟩
        refine ⟨_, rfl, rfl, ?_⟩
        show AW Z 0 0 123 [some (.ref 0), some (.int ((R_towns v0) (Int32.toNatClampNeg 80))), some (.int (88 + (5 * ((R_towns v0) (Int32.toNatClampNeg 80)))))] [.int q57.1, .int (88 + (5 * ((R_towns v0) (Int32.toNatClampNeg 80)))), .ref 6] ([kR 0 (R_s_at_fault_readNames_readMany v0 q57.2.1 q57.2.2 (vp_updL (R_readNames v0) (Int32.toNatClampNeg (R_readMany v0)) ((R_value v0) (Int32.toNatClampNeg ((R_at v0) + 1)))) ((R_readMany v0) + 1))] : List (List zE)).flatten
        replace hf := zlet_gen hf
        generalize ((vp_updL (R_readNames v0) (Int32.toNatClampNeg (R_readMany v0)) ((R_value v0) (Int32.toNatClampNeg ((R_at v0) + 1)))) : (Nat → Int64)) = z58 at hf ⊢
        refine AW.run hZ hRm [136] 400 ?_
        show (¬ ((88 + (5 * ((R_towns v0) (Int32.toNatClampNeg 80)))) < 0 ∨ 160 ≤ Int32.toNatClampNeg (88 + (5 * ((R_towns v0) (Int32.toNatClampNeg 80))))) ∧ AW Z 0 0 136 [some (.ref 0), some (.int ((R_towns v0) (Int32.toNatClampNeg 80))), some (.int (88 + (5 * ((R_towns v0) (Int32.toNatClampNeg 80)))))] [.int 9, .int 0, .int 1, .ref 0, .int ((88 + (5 * ((R_towns v0) (Int32.toNatClampNeg 80)))) + 1), .ref 6] ([kR 0 (R_s_at_fault_towns_readNames_readMany v0 q57.2.1 q57.2.2 (upd (R_towns v0) (Int32.toNatClampNeg (88 + (5 * ((R_towns v0) (Int32.toNatClampNeg 80))))) q57.1) z58 ((R_readMany v0) + 1))] : List (List zE)).flatten)
        obtain ⟨b75, hf⟩ := zneed hf
        refine ⟨b75, ?_⟩
        obtain ⟨q59, h74, hf⟩ := zbind hf
        refine AW.callVc hZ hR hN (c_R_takeAfter N (R_s_at_fault_towns_readNames_readMany v0 q57.2.1 q57.2.2 (upd (R_towns v0) (Int32.toNatClampNeg (88 + (5 * ((R_towns v0) (Int32.toNatClampNeg 80))))) q57.1) z58 ((R_readMany v0) + 1)) 1 0 9 q59 h74) zMX12_takeAfter_ok rfl rfl zK_BorrowedLivesModel_249 zV_X12_takeAfter rfl [25] [0] [0, 1, 2, 3, 4, 5, 6, 7, 8, 9, 10, 11, 12, 13, 14, 15, 16, 17, 18, 19, 20, 21, 22, 23, 24] rfl rfl rfl (by decide) (by decide) (by omega) (by decide) (Nat.zero_le _) (Nat.zero_le _) rfl rfl rfl rfl rfl ?_
        rintro v cc ⟨rfl, rfl⟩
        refine ⟨_, rfl, rfl, ?_⟩
        show AW Z 0 0 139 [some (.ref 0), some (.int ((R_towns v0) (Int32.toNatClampNeg 80))), some (.int (88 + (5 * ((R_towns v0) (Int32.toNatClampNeg 80)))))] [.int q59.1, .int ((88 + (5 * ((R_towns v0) (Int32.toNatClampNeg 80)))) + 1), .ref 6] ([kR 0 (R_s_at_fault_towns_readNames_readMany v0 q59.2.1 q59.2.2 (upd (R_towns v0) (Int32.toNatClampNeg (88 + (5 * ((R_towns v0) (Int32.toNatClampNeg 80))))) q57.1) z58 ((R_readMany v0) + 1))] : List (List zE)).flatten
        replace hf := zlet_gen hf
        generalize ((upd (R_towns v0) (Int32.toNatClampNeg (88 + (5 * ((R_towns v0) (Int32.toNatClampNeg 80))))) q57.1) : (Nat → Int32)) = z60 at hf ⊢
        refine AW.run hZ hRm [153] 400 ?_
        show (¬ (((88 + (5 * ((R_towns v0) (Int32.toNatClampNeg 80)))) + 1) < 0 ∨ 160 ≤ Int32.toNatClampNeg ((88 + (5 * ((R_towns v0) (Int32.toNatClampNeg 80)))) + 1)) ∧ AW Z 0 0 153 [some (.ref 0), some (.int ((R_towns v0) (Int32.toNatClampNeg 80))), some (.int (88 + (5 * ((R_towns v0) (Int32.toNatClampNeg 80)))))] [.int 999, .int 0, .int 2, .ref 0, .int ((88 + (5 * ((R_towns v0) (Int32.toNatClampNeg 80)))) + 2), .ref 6] ([kR 0 (R_s_at_fault_towns_readNames_readMany v0 q59.2.1 q59.2.2 (upd z60 (Int32.toNatClampNeg ((88 + (5 * ((R_towns v0) (Int32.toNatClampNeg 80)))) + 1)) q59.1) z58 ((R_readMany v0) + 1))] : List (List zE)).flatten)
        obtain ⟨b73, hf⟩ := zneed hf
        refine ⟨b73, ?_⟩
        obtain ⟨q61, h72, hf⟩ := zbind hf
        refine AW.callVc hZ hR hN (c_R_takeAfter N (R_s_at_fault_towns_readNames_readMany v0 q59.2.1 q59.2.2 (upd z60 (Int32.toNatClampNeg ((88 + (5 * ((R_towns v0) (Int32.toNatClampNeg 80)))) + 1)) q59.1) z58 ((R_readMany v0) + 1)) 2 0 999 q61 h72) zMX12_takeAfter_ok rfl rfl zK_BorrowedLivesModel_249 zV_X12_takeAfter rfl [25] [0] [0, 1, 2, 3, 4, 5, 6, 7, 8, 9, 10, 11, 12, 13, 14, 15, 16, 17, 18, 19, 20, 21, 22, 23, 24] rfl rfl rfl (by decide) (by decide) (by omega) (by decide) (Nat.zero_le _) (Nat.zero_le _) rfl rfl rfl rfl rfl ?_
        rintro v cc ⟨rfl, rfl⟩
        refine ⟨_, rfl, rfl, ?_⟩
        show AW Z 0 0 156 [some (.ref 0), some (.int ((R_towns v0) (Int32.toNatClampNeg 80))), some (.int (88 + (5 * ((R_towns v0) (Int32.toNatClampNeg 80)))))] [.int q61.1, .int ((88 + (5 * ((R_towns v0) (Int32.toNatClampNeg 80)))) + 2), .ref 6] ([kR 0 (R_s_at_fault_towns_readNames_readMany v0 q61.2.1 q61.2.2 (upd z60 (Int32.toNatClampNeg ((88 + (5 * ((R_towns v0) (Int32.toNatClampNeg 80)))) + 1)) q59.1) z58 ((R_readMany v0) + 1))] : List (List zE)).flatten
        replace hf := zlet_gen hf
        generalize ((upd z60 (Int32.toNatClampNeg ((88 + (5 * ((R_towns v0) (Int32.toNatClampNeg 80)))) + 1)) q59.1) : (Nat → Int32)) = z62 at hf ⊢
        refine AW.run hZ hRm [170] 400 ?_
        show (¬ (((88 + (5 * ((R_towns v0) (Int32.toNatClampNeg 80)))) + 2) < 0 ∨ 160 ≤ Int32.toNatClampNeg ((88 + (5 * ((R_towns v0) (Int32.toNatClampNeg 80)))) + 2)) ∧ AW Z 0 0 170 [some (.ref 0), some (.int ((R_towns v0) (Int32.toNatClampNeg 80))), some (.int (88 + (5 * ((R_towns v0) (Int32.toNatClampNeg 80)))))] [.int 999, .int 0, .int 3, .ref 0, .int ((88 + (5 * ((R_towns v0) (Int32.toNatClampNeg 80)))) + 3), .ref 6] ([kR 0 (R_s_at_fault_towns_readNames_readMany v0 q61.2.1 q61.2.2 (upd z62 (Int32.toNatClampNeg ((88 + (5 * ((R_towns v0) (Int32.toNatClampNeg 80)))) + 2)) q61.1) z58 ((R_readMany v0) + 1))] : List (List zE)).flatten)
        obtain ⟨b71, hf⟩ := zneed hf
        refine ⟨b71, ?_⟩
        obtain ⟨q63, h70, hf⟩ := zbind hf
        refine AW.callVc hZ hR hN (c_R_takeAfter N (R_s_at_fault_towns_readNames_readMany v0 q61.2.1 q61.2.2 (upd z62 (Int32.toNatClampNeg ((88 + (5 * ((R_towns v0) (Int32.toNatClampNeg 80)))) + 2)) q61.1) z58 ((R_readMany v0) + 1)) 3 0 999 q63 h70) zMX12_takeAfter_ok rfl rfl zK_BorrowedLivesModel_249 zV_X12_takeAfter rfl [25] [0] [0, 1, 2, 3, 4, 5, 6, 7, 8, 9, 10, 11, 12, 13, 14, 15, 16, 17, 18, 19, 20, 21, 22, 23, 24] rfl rfl rfl (by decide) (by decide) (by omega) (by decide) (Nat.zero_le _) (Nat.zero_le _) rfl rfl rfl rfl rfl ?_
        rintro v cc ⟨rfl, rfl⟩
        refine ⟨_, rfl, rfl, ?_⟩
        show AW Z 0 0 173 [some (.ref 0), some (.int ((R_towns v0) (Int32.toNatClampNeg 80))), some (.int (88 + (5 * ((R_towns v0) (Int32.toNatClampNeg 80)))))] [.int q63.1, .int ((88 + (5 * ((R_towns v0) (Int32.toNatClampNeg 80)))) + 3), .ref 6] ([kR 0 (R_s_at_fault_towns_readNames_readMany v0 q63.2.1 q63.2.2 (upd z62 (Int32.toNatClampNeg ((88 + (5 * ((R_towns v0) (Int32.toNatClampNeg 80)))) + 2)) q61.1) z58 ((R_readMany v0) + 1))] : List (List zE)).flatten
        replace hf := zlet_gen hf
        generalize ((upd z62 (Int32.toNatClampNeg ((88 + (5 * ((R_towns v0) (Int32.toNatClampNeg 80)))) + 2)) q61.1) : (Nat → Int32)) = z64 at hf ⊢
        refine AW.run hZ hRm [186] 400 ?_
        show (¬ (((88 + (5 * ((R_towns v0) (Int32.toNatClampNeg 80)))) + 3) < 0 ∨ 160 ≤ Int32.toNatClampNeg ((88 + (5 * ((R_towns v0) (Int32.toNatClampNeg 80)))) + 3)) ∧ AW Z 0 0 186 [some (.ref 0), some (.int ((R_towns v0) (Int32.toNatClampNeg 80))), some (.int (88 + (5 * ((R_towns v0) (Int32.toNatClampNeg 80)))))] [.int 9, .int 0, .int 4, .ref 0, .int ((88 + (5 * ((R_towns v0) (Int32.toNatClampNeg 80)))) + 4), .ref 6] ([kR 0 (R_s_at_fault_towns_readNames_readMany v0 q63.2.1 q63.2.2 (upd z64 (Int32.toNatClampNeg ((88 + (5 * ((R_towns v0) (Int32.toNatClampNeg 80)))) + 3)) q63.1) z58 ((R_readMany v0) + 1))] : List (List zE)).flatten)
        obtain ⟨b69, hf⟩ := zneed hf
        refine ⟨b69, ?_⟩
        obtain ⟨q65, h68, hf⟩ := zbind hf
        refine AW.callVc hZ hR hN (c_R_takeAfter N (R_s_at_fault_towns_readNames_readMany v0 q63.2.1 q63.2.2 (upd z64 (Int32.toNatClampNeg ((88 + (5 * ((R_towns v0) (Int32.toNatClampNeg 80)))) + 3)) q63.1) z58 ((R_readMany v0) + 1)) 4 0 9 q65 h68) zMX12_takeAfter_ok rfl rfl zK_BorrowedLivesModel_249 zV_X12_takeAfter rfl [25] [0] [0, 1, 2, 3, 4, 5, 6, 7, 8, 9, 10, 11, 12, 13, 14, 15, 16, 17, 18, 19, 20, 21, 22, 23, 24] rfl rfl rfl (by decide) (by decide) (by omega) (by decide) (Nat.zero_le _) (Nat.zero_le _) rfl rfl rfl rfl rfl ?_
        rintro v cc ⟨rfl, rfl⟩
        refine ⟨_, rfl, rfl, ?_⟩
        show AW Z 0 0 189 [some (.ref 0), some (.int ((R_towns v0) (Int32.toNatClampNeg 80))), some (.int (88 + (5 * ((R_towns v0) (Int32.toNatClampNeg 80)))))] [.int q65.1, .int ((88 + (5 * ((R_towns v0) (Int32.toNatClampNeg 80)))) + 4), .ref 6] ([kR 0 (R_s_at_fault_towns_readNames_readMany v0 q65.2.1 q65.2.2 (upd z64 (Int32.toNatClampNeg ((88 + (5 * ((R_towns v0) (Int32.toNatClampNeg 80)))) + 3)) q63.1) z58 ((R_readMany v0) + 1))] : List (List zE)).flatten
        replace hf := zlet_gen hf
        generalize ((upd z64 (Int32.toNatClampNeg ((88 + (5 * ((R_towns v0) (Int32.toNatClampNeg 80)))) + 3)) q63.1) : (Nat → Int32)) = z66 at hf ⊢
        refine AW.run hZ hRm [201] 400 ?_
        show (¬ (((88 + (5 * ((R_towns v0) (Int32.toNatClampNeg 80)))) + 4) < 0 ∨ 160 ≤ Int32.toNatClampNeg ((88 + (5 * ((R_towns v0) (Int32.toNatClampNeg 80)))) + 4)) ∧ (¬ ((80 : Int32) < 0 ∨ 160 ≤ Int32.toNatClampNeg 80) ∧ (¬ ((80 : Int32) < 0 ∨ 160 ≤ Int32.toNatClampNeg 80) ∧ AW Z 0 0 201 [some (.ref 0), some (.int ((R_towns v0) (Int32.toNatClampNeg 80))), some (.int (88 + (5 * ((R_towns v0) (Int32.toNatClampNeg 80)))))] [] ([kR 0 (R_s_at_fault_towns_readNames_readMany v0 q65.2.1 q65.2.2 (upd (upd z66 (Int32.toNatClampNeg ((88 + (5 * ((R_towns v0) (Int32.toNatClampNeg 80)))) + 4)) q65.1) (Int32.toNatClampNeg 80) (((upd z66 (Int32.toNatClampNeg ((88 + (5 * ((R_towns v0) (Int32.toNatClampNeg 80)))) + 4)) q65.1) (Int32.toNatClampNeg 80)) + 1)) z58 ((R_readMany v0) + 1))] : List (List zE)).flatten)))
        obtain ⟨b67, hf⟩ := zneed hf
        refine ⟨b67, ?_⟩
        refine ⟨(by decide), ?_⟩
        refine ⟨(by decide), ?_⟩
        cases hf
        exact AW.vret hZ hE rfl rfl rfl (Nat.le_refl 0) (Nat.le_refl 0) rfl ⟨rfl, rfl⟩
      · rw [if_neg c56] at hf
        cases hf
        exact AW.vret hZ hE rfl rfl rfl (Nat.le_refl 0) (Nat.le_refl 0) rfl ⟨rfl, rfl⟩
  · rw [if_pos c1] at hf
    obtain ⟨q81, h82, hf⟩ := zbind hf
    refine AW.callVc hZ hR hN (c_R_wrong N v0 5 q81 h82) zMX12_wrong_ok rfl rfl zK_BorrowedLivesModel_188 zV_X12_wrong rfl [25] [0] [0, 1, 2, 3, 4, 5, 6, 7, 8, 9, 10, 11, 12, 13, 14, 15, 16, 17, 18, 19, 20, 21, 22, 23, 24] rfl rfl rfl (by decide) (by decide) (by omega) (by decide) (Nat.zero_le _) (Nat.zero_le _) rfl rfl rfl rfl rfl ?_
    rintro v cc ⟨rfl, rfl⟩
    refine ⟨_, rfl, rfl, ?_⟩
    show AW Z 0 0 19 [some (.ref 0), some (.int ((R_towns v0) (Int32.toNatClampNeg 80))), none] [] ([kR 0 (R_fault_s v0 q81)] : List (List zE)).flatten
    cases hf
    exact AW.vret hZ hE rfl rfl rfl (Nat.le_refl 0) (Nat.le_refl 0) rfl ⟨rfl, rfl⟩
