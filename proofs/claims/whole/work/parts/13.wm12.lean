def f_R_mendsAs (N : Nat) (v0 : VR) (a1 : Int32) (a2 : Int32) : Option ((Nat → Int32) × (Nat → Int32) × (Nat → Int32)) := (if (((a1 + 28) + a2) < 0 ∨ 1656 ≤ Int32.toNatClampNeg ((a1 + 28) + a2)) then none else ((f_R_personOf N v0 ((R_state v0) (Int32.toNatClampNeg ((a1 + 28) + a2))) 0).bind (fun q1 => ((f_R_laysFacts N v0 a1 a2 ((R_state v0) (Int32.toNatClampNeg ((a1 + 28) + a2))) (if (q1 = 2) then 1 else 0)).bind (fun q4 => (zlet ((if ((q4 (Int32.toNatClampNeg 3)) ≤ 4) then (if (3 ≤ (q4 (Int32.toNatClampNeg 3))) then 0 else (-1)) else 1) : Int32) (fun z8 => (if (0 ≤ ((R_towns v0) (Int32.toNatClampNeg 4))) then ((f_R_worthAt N (R_facts_s v0 q4) ((R_towns v0) (Int32.toNatClampNeg 4))).bind (fun q10 => (if (((a1 + 16) + a2) < 0 ∨ 1656 ≤ Int32.toNatClampNeg ((a1 + 16) + a2)) then none else (zlet ((if ((-3) ≤ q10.1) then (if (q10.1 ≤ 3) then q10.1 else 3) else (-3)) : Int32) (fun z14 => (zlet ((if (0 ≤ (((R_state v0) (Int32.toNatClampNeg ((a1 + 16) + a2))) + z14)) then (if ((((R_state v0) (Int32.toNatClampNeg ((a1 + 16) + a2))) + z14) ≤ 9) then (((R_state v0) (Int32.toNatClampNeg ((a1 + 16) + a2))) + z14) else 9) else 0) : Int32) (fun z18 => (if (((a1 + 16) + a2) < 0 ∨ 1656 ≤ Int32.toNatClampNeg ((a1 + 16) + a2)) then none else (zlet ((upd (R_state v0) (Int32.toNatClampNeg ((a1 + 16) + a2)) z18) : (Nat → Int32)) (fun z19 => (some (q4, q10.2, z19)))))))))))) else (if (((a1 + 16) + a2) < 0 ∨ 1656 ≤ Int32.toNatClampNeg ((a1 + 16) + a2)) then none else (zlet ((if ((-3) ≤ z8) then (if (z8 ≤ 3) then z8 else 3) else (-3)) : Int32) (fun z26 => (zlet ((if (0 ≤ (((R_state v0) (Int32.toNatClampNeg ((a1 + 16) + a2))) + z26)) then (if ((((R_state v0) (Int32.toNatClampNeg ((a1 + 16) + a2))) + z26) ≤ 9) then (((R_state v0) (Int32.toNatClampNeg ((a1 + 16) + a2))) + z26) else 9) else 0) : Int32) (fun z30 => (if (((a1 + 16) + a2) < 0 ∨ 1656 ≤ Int32.toNatClampNeg ((a1 + 16) + a2)) then none else (zlet ((upd (R_state v0) (Int32.toNatClampNeg ((a1 + 16) + a2)) z30) : (Nat → Int32)) (fun z31 => (some (q4, (R_pile v0), z31))))))))))))))))))
set_option maxRecDepth 20000 in
set_option maxHeartbeats 4000000 in
theorem c_R_mendsAs (N : Nat) (v0 : VR) (a1 : Int32) (a2 : Int32) (R : (Nat → Int32) × (Nat → Int32) × (Nat → Int32)) (hf : f_R_mendsAs N v0 a1 a2 = some R) : Ct zMX12_mendsAs 3 0 0 0 [.ref 0, .int a1, .int a2] ([kR 0 v0] : List (List zE)).flatten (fun v cc => v = none ∧ cc = ([kR 0 (R_s_facts_pile_state v0 R.1 R.2.1 R.2.2)] : List (List zE)).flatten) := by
  refine Ct.of zMX12_mendsAs_ok (by decide) (Nat.le_of_ble_eq_true rfl) ?_
  intro Z hZ hR hN hE
  have hRm : zRoom Z 0 0 := zRoom0 Z
  unfold f_R_mendsAs at hf
  show AW Z 0 0 0 [some (.ref 0), some (.int a1), some (.int a2), none, none] [] ([kR 0 v0] : List (List zE)).flatten
  refine AW.run hZ hRm [19] 400 ?_
  show (¬ (((a1 + 28) + a2) < 0 ∨ 1656 ≤ Int32.toNatClampNeg ((a1 + 28) + a2)) ∧ AW Z 0 0 19 [some (.ref 0), some (.int a1), some (.int a2), some (.int ((R_state v0) (Int32.toNatClampNeg ((a1 + 28) + a2)))), none] [.int 0, .int ((R_state v0) (Int32.toNatClampNeg ((a1 + 28) + a2))), .ref 0, .int ((R_state v0) (Int32.toNatClampNeg ((a1 + 28) + a2))), .int a2, .int a1, .ref 0] ([kR 0 v0] : List (List zE)).flatten)
  obtain ⟨b36, hf⟩ := zneed hf
  refine ⟨b36, ?_⟩
  obtain ⟨q1, h35, hf⟩ := zbind hf
  refine AW.callVc hZ hR hN (c_R_personOf N v0 ((R_state v0) (Int32.toNatClampNeg ((a1 + 28) + a2))) 0 q1 h35) zMX12_personOf_ok rfl rfl zK_BorrowedLivesModel_294 zV_X12_personOf rfl [25] [0] [0, 1, 2, 3, 4, 5, 6, 7, 8, 9, 10, 11, 12, 13, 14, 15, 16, 17, 18, 19, 20, 21, 22, 23, 24] rfl rfl rfl (by decide) (by decide) (by omega) (by decide) (Nat.zero_le _) (Nat.zero_le _) rfl rfl rfl rfl rfl ?_
  rintro v cc ⟨rfl, rfl⟩
  refine ⟨_, rfl, rfl, ?_⟩
  show AW Z 0 0 22 [some (.ref 0), some (.int a1), some (.int a2), some (.int ((R_state v0) (Int32.toNatClampNeg ((a1 + 28) + a2)))), none] [.int q1, .int ((R_state v0) (Int32.toNatClampNeg ((a1 + 28) + a2))), .int a2, .int a1, .ref 0] ([kR 0 v0] : List (List zE)).flatten
  refine AW.run hZ hRm [23] 400 ?_
  show AW Z 0 0 23 [some (.ref 0), some (.int a1), some (.int a2), some (.int ((R_state v0) (Int32.toNatClampNeg ((a1 + 28) + a2)))), none] [.int 2, .int q1, .int ((R_state v0) (Int32.toNatClampNeg ((a1 + 28) + a2))), .int a2, .int a1, .ref 0] ([kR 0 v0] : List (List zE)).flatten
  suffices H2 : AW Z 0 0 31 [some (.ref 0), some (.int a1), some (.int a2), none, none] [.int (if (q1 = 2) then 1 else 0), .int ((R_state v0) (Int32.toNatClampNeg ((a1 + 28) + a2))), .int a2, .int a1, .ref 0] ([kR 0 v0] : List (List zE)).flatten from by
    refine AW.run hZ hRm [31] 400 ?_
    show ((¬ (q1 = 2) → AW Z 0 0 31 [some (.ref 0), some (.int a1), some (.int a2), some (.int ((R_state v0) (Int32.toNatClampNeg ((a1 + 28) + a2)))), none] [.int 0, .int ((R_state v0) (Int32.toNatClampNeg ((a1 + 28) + a2))), .int a2, .int a1, .ref 0] ([kR 0 v0] : List (List zE)).flatten) ∧ ((q1 = 2) → AW Z 0 0 31 [some (.ref 0), some (.int a1), some (.int a2), some (.int ((R_state v0) (Int32.toNatClampNeg ((a1 + 28) + a2)))), none] [.int 1, .int ((R_state v0) (Int32.toNatClampNeg ((a1 + 28) + a2))), .int a2, .int a1, .ref 0] ([kR 0 v0] : List (List zE)).flatten))
    refine ⟨fun c3 => ?_, fun c3 => ?_⟩
    · refine AW.forget [true, true, true, false, false] ?_
      show AW Z 0 0 31 [some (.ref 0), some (.int a1), some (.int a2), none, none] [.int 0, .int ((R_state v0) (Int32.toNatClampNeg ((a1 + 28) + a2))), .int a2, .int a1, .ref 0] ([kR 0 v0] : List (List zE)).flatten
      simpa only [if_neg c3] using H2
    · refine AW.forget [true, true, true, false, false] ?_
      show AW Z 0 0 31 [some (.ref 0), some (.int a1), some (.int a2), none, none] [.int 1, .int ((R_state v0) (Int32.toNatClampNeg ((a1 + 28) + a2))), .int a2, .int a1, .ref 0] ([kR 0 v0] : List (List zE)).flatten
      simpa only [if_pos c3] using H2
  obtain ⟨q4, h34, hf⟩ := zbind hf
  refine AW.callVc hZ hR hN (c_R_laysFacts N v0 a1 a2 ((R_state v0) (Int32.toNatClampNeg ((a1 + 28) + a2))) (if (q1 = 2) then 1 else 0) q4 h34) zMX12_laysFacts_ok rfl rfl zK_BorrowedLivesModel_327 zV_X12_laysFacts rfl [25] [0] [0, 1, 2, 3, 4, 5, 6, 7, 8, 9, 10, 11, 12, 13, 14, 15, 16, 17, 18, 19, 20, 21, 22, 23, 24] rfl rfl rfl (by decide) (by decide) (by omega) (by decide) (Nat.zero_le _) (Nat.zero_le _) rfl rfl rfl rfl rfl ?_
  rintro v cc ⟨rfl, rfl⟩
  refine ⟨_, rfl, rfl, ?_⟩
  show AW Z 0 0 34 [some (.ref 0), some (.int a1), some (.int a2), none, none] [] ([kR 0 (R_facts_s v0 q4)] : List (List zE)).flatten
  refine AW.run hZ hRm [41] 400 ?_
  show (¬ ((3 : Int32) < 0 ∨ 5 ≤ Int32.toNatClampNeg 3) ∧ AW Z 0 0 41 [some (.ref 0), some (.int a1), some (.int a2), none, none] [.int 4, .int (q4 (Int32.toNatClampNeg 3))] ([kR 0 (R_facts_s v0 q4)] : List (List zE)).flatten)
  refine ⟨(by decide), ?_⟩
  suffices H5 : AW Z 0 0 63 [some (.ref 0), some (.int a1), some (.int a2), none, none] [.int (if ((q4 (Int32.toNatClampNeg 3)) ≤ 4) then (if (3 ≤ (q4 (Int32.toNatClampNeg 3))) then 0 else (-1)) else 1)] ([kR 0 (R_facts_s v0 q4)] : List (List zE)).flatten from by
    refine AW.run hZ hRm [63] 400 ?_
    show ((((q4 (Int32.toNatClampNeg 3)) ≤ 4) → (¬ ((3 : Int32) < 0 ∨ 5 ≤ Int32.toNatClampNeg 3) ∧ (((3 ≤ (q4 (Int32.toNatClampNeg 3))) → AW Z 0 0 63 [some (.ref 0), some (.int a1), some (.int a2), none, none] [.int 0] ([kR 0 (R_facts_s v0 q4)] : List (List zE)).flatten) ∧ (¬ (3 ≤ (q4 (Int32.toNatClampNeg 3))) → AW Z 0 0 63 [some (.ref 0), some (.int a1), some (.int a2), none, none] [.int (-1)] ([kR 0 (R_facts_s v0 q4)] : List (List zE)).flatten)))) ∧ (¬ ((q4 (Int32.toNatClampNeg 3)) ≤ 4) → AW Z 0 0 63 [some (.ref 0), some (.int a1), some (.int a2), none, none] [.int 1] ([kR 0 (R_facts_s v0 q4)] : List (List zE)).flatten))
    refine ⟨fun c6 => ?_, fun c6 => ?_⟩
    · refine ⟨(by decide), ?_⟩
      refine ⟨fun c7 => ?_, fun c7 => ?_⟩
      · simpa only [if_pos c6, if_pos c7] using H5
      · simpa only [if_pos c6, if_neg c7] using H5
    · simpa only [if_neg c6] using H5
  replace hf := zlet_gen hf
  generalize ((if ((q4 (Int32.toNatClampNeg 3)) ≤ 4) then (if (3 ≤ (q4 (Int32.toNatClampNeg 3))) then 0 else (-1)) else 1) : Int32) = z8 at hf ⊢
  refine AW.run hZ hRm [86, 106] 400 ?_
  show (¬ ((4 : Int32) < 0 ∨ 160 ≤ Int32.toNatClampNeg 4) ∧ (((0 ≤ ((R_towns v0) (Int32.toNatClampNeg 4))) → (¬ ((4 : Int32) < 0 ∨ 160 ≤ Int32.toNatClampNeg 4) ∧ AW Z 0 0 86 [some (.ref 0), some (.int a1), some (.int a2), none, some (.int z8)] [.int ((R_towns v0) (Int32.toNatClampNeg 4)), .ref 0] ([kR 0 (R_facts_s v0 q4)] : List (List zE)).flatten)) ∧ (¬ (0 ≤ ((R_towns v0) (Int32.toNatClampNeg 4))) → (¬ (((a1 + 16) + a2) < 0 ∨ 1656 ≤ Int32.toNatClampNeg ((a1 + 16) + a2)) ∧ AW Z 0 0 106 [some (.ref 0), some (.int a1), some (.int a2), none, some (.int z8)] [.int (-3), .int z8, .int ((R_state v0) (Int32.toNatClampNeg ((a1 + 16) + a2)))] ([kR 0 (R_facts_s v0 q4)] : List (List zE)).flatten))))
  refine ⟨(by decide), ?_⟩
  refine ⟨fun c9 => ?_, fun c9 => ?_⟩
  · rw [if_pos c9] at hf
    refine ⟨(by decide), ?_⟩
    obtain ⟨q10, h22, hf⟩ := zbind hf
    refine AW.callVc hZ hR hN (c_R_worthAt N (R_facts_s v0 q4) ((R_towns v0) (Int32.toNatClampNeg 4)) q10 h22) zMX12_worthAt_ok rfl rfl zK_BorrowedLivesModel_331 zV_X12_worthAt rfl [25] [0] [0, 1, 2, 3, 4, 5, 6, 7, 8, 9, 10, 11, 12, 13, 14, 15, 16, 17, 18, 19, 20, 21, 22, 23, 24] rfl rfl rfl (by decide) (by decide) (by omega) (by decide) (Nat.zero_le _) (Nat.zero_le _) rfl rfl rfl rfl rfl ?_
    rintro v cc ⟨rfl, rfl⟩
    refine ⟨_, rfl, rfl, ?_⟩
    show AW Z 0 0 89 [some (.ref 0), some (.int a1), some (.int a2), none, some (.int z8)] [.int q10.1] ([kR 0 (R_s_facts_pile v0 q4 q10.2)] : List (List zE)).flatten
    refine AW.run hZ hRm [106] 400 ?_
    show (¬ (((a1 + 16) + a2) < 0 ∨ 1656 ≤ Int32.toNatClampNeg ((a1 + 16) + a2)) ∧ AW Z 0 0 106 [some (.ref 0), some (.int a1), some (.int a2), none, some (.int q10.1)] [.int (-3), .int q10.1, .int ((R_state v0) (Int32.toNatClampNeg ((a1 + 16) + a2)))] ([kR 0 (R_s_facts_pile v0 q4 q10.2)] : List (List zE)).flatten)
    obtain ⟨b21, hf⟩ := zneed hf
    refine ⟨b21, ?_⟩
    suffices H11 : AW Z 0 0 126 [some (.ref 0), some (.int a1), some (.int a2), none, none] [.int (if ((-3) ≤ q10.1) then (if (q10.1 ≤ 3) then q10.1 else 3) else (-3)), .int ((R_state v0) (Int32.toNatClampNeg ((a1 + 16) + a2)))] ([kR 0 (R_s_facts_pile v0 q4 q10.2)] : List (List zE)).flatten from by
      refine AW.run hZ hRm [126] 400 ?_
      show ((((-3) ≤ q10.1) → (((q10.1 ≤ 3) → AW Z 0 0 126 [some (.ref 0), some (.int a1), some (.int a2), none, some (.int q10.1)] [.int q10.1, .int ((R_state v0) (Int32.toNatClampNeg ((a1 + 16) + a2)))] ([kR 0 (R_s_facts_pile v0 q4 q10.2)] : List (List zE)).flatten) ∧ (¬ (q10.1 ≤ 3) → AW Z 0 0 126 [some (.ref 0), some (.int a1), some (.int a2), none, some (.int q10.1)] [.int 3, .int ((R_state v0) (Int32.toNatClampNeg ((a1 + 16) + a2)))] ([kR 0 (R_s_facts_pile v0 q4 q10.2)] : List (List zE)).flatten))) ∧ (¬ ((-3) ≤ q10.1) → AW Z 0 0 126 [some (.ref 0), some (.int a1), some (.int a2), none, some (.int q10.1)] [.int (-3), .int ((R_state v0) (Int32.toNatClampNeg ((a1 + 16) + a2)))] ([kR 0 (R_s_facts_pile v0 q4 q10.2)] : List (List zE)).flatten))
      refine ⟨fun c12 => ?_, fun c12 => ?_⟩
      · refine ⟨fun c13 => ?_, fun c13 => ?_⟩
        · refine AW.forget [true, true, true, false, false] ?_
          show AW Z 0 0 126 [some (.ref 0), some (.int a1), some (.int a2), none, none] [.int q10.1, .int ((R_state v0) (Int32.toNatClampNeg ((a1 + 16) + a2)))] ([kR 0 (R_s_facts_pile v0 q4 q10.2)] : List (List zE)).flatten
          simpa only [if_pos c12, if_pos c13] using H11
        · refine AW.forget [true, true, true, false, false] ?_
          show AW Z 0 0 126 [some (.ref 0), some (.int a1), some (.int a2), none, none] [.int 3, .int ((R_state v0) (Int32.toNatClampNeg ((a1 + 16) + a2)))] ([kR 0 (R_s_facts_pile v0 q4 q10.2)] : List (List zE)).flatten
          simpa only [if_pos c12, if_neg c13] using H11
      · refine AW.forget [true, true, true, false, false] ?_
        show AW Z 0 0 126 [some (.ref 0), some (.int a1), some (.int a2), none, none] [.int (-3), .int ((R_state v0) (Int32.toNatClampNeg ((a1 + 16) + a2)))] ([kR 0 (R_s_facts_pile v0 q4 q10.2)] : List (List zE)).flatten
        simpa only [if_neg c12] using H11
    replace hf := zlet_gen hf
    generalize ((if ((-3) ≤ q10.1) then (if (q10.1 ≤ 3) then q10.1 else 3) else (-3)) : Int32) = z14 at hf ⊢
    refine AW.run hZ hRm [141] 400 ?_
    show AW Z 0 0 141 [some (.ref 0), some (.int a1), some (.int a2), none, some (.int (((R_state v0) (Int32.toNatClampNeg ((a1 + 16) + a2))) + z14))] [.int (((R_state v0) (Int32.toNatClampNeg ((a1 + 16) + a2))) + z14), .int ((a1 + 16) + a2), .ref 14] ([kR 0 (R_s_facts_pile v0 q4 q10.2)] : List (List zE)).flatten
    suffices H15 : AW Z 0 0 162 [none, none, none, none, none] [.int (if (0 ≤ (((R_state v0) (Int32.toNatClampNeg ((a1 + 16) + a2))) + z14)) then (if ((((R_state v0) (Int32.toNatClampNeg ((a1 + 16) + a2))) + z14) ≤ 9) then (((R_state v0) (Int32.toNatClampNeg ((a1 + 16) + a2))) + z14) else 9) else 0), .int ((a1 + 16) + a2), .ref 14] ([kR 0 (R_s_facts_pile v0 q4 q10.2)] : List (List zE)).flatten from by
      refine AW.run hZ hRm [162] 400 ?_
      show (((0 ≤ (((R_state v0) (Int32.toNatClampNeg ((a1 + 16) + a2))) + z14)) → ((((((R_state v0) (Int32.toNatClampNeg ((a1 + 16) + a2))) + z14) ≤ 9) → AW Z 0 0 162 [some (.ref 0), some (.int a1), some (.int a2), none, some (.int (((R_state v0) (Int32.toNatClampNeg ((a1 + 16) + a2))) + z14))] [.int (((R_state v0) (Int32.toNatClampNeg ((a1 + 16) + a2))) + z14), .int ((a1 + 16) + a2), .ref 14] ([kR 0 (R_s_facts_pile v0 q4 q10.2)] : List (List zE)).flatten) ∧ (¬ ((((R_state v0) (Int32.toNatClampNeg ((a1 + 16) + a2))) + z14) ≤ 9) → AW Z 0 0 162 [some (.ref 0), some (.int a1), some (.int a2), none, some (.int (((R_state v0) (Int32.toNatClampNeg ((a1 + 16) + a2))) + z14))] [.int 9, .int ((a1 + 16) + a2), .ref 14] ([kR 0 (R_s_facts_pile v0 q4 q10.2)] : List (List zE)).flatten))) ∧ (¬ (0 ≤ (((R_state v0) (Int32.toNatClampNeg ((a1 + 16) + a2))) + z14)) → AW Z 0 0 162 [some (.ref 0), some (.int a1), some (.int a2), none, some (.int (((R_state v0) (Int32.toNatClampNeg ((a1 + 16) + a2))) + z14))] [.int 0, .int ((a1 + 16) + a2), .ref 14] ([kR 0 (R_s_facts_pile v0 q4 q10.2)] : List (List zE)).flatten))
      refine ⟨fun c16 => ?_, fun c16 => ?_⟩
      · refine ⟨fun c17 => ?_, fun c17 => ?_⟩
        · refine AW.forget [false, false, false, false, false] ?_
          show AW Z 0 0 162 [none, none, none, none, none] [.int (((R_state v0) (Int32.toNatClampNeg ((a1 + 16) + a2))) + z14), .int ((a1 + 16) + a2), .ref 14] ([kR 0 (R_s_facts_pile v0 q4 q10.2)] : List (List zE)).flatten
          simpa only [if_pos c16, if_pos c17] using H15
        · refine AW.forget [false, false, false, false, false] ?_
          show AW Z 0 0 162 [none, none, none, none, none] [.int 9, .int ((a1 + 16) + a2), .ref 14] ([kR 0 (R_s_facts_pile v0 q4 q10.2)] : List (List zE)).flatten
          simpa only [if_pos c16, if_neg c17] using H15
      · refine AW.forget [false, false, false, false, false] ?_
        show AW Z 0 0 162 [none, none, none, none, none] [.int 0, .int ((a1 + 16) + a2), .ref 14] ([kR 0 (R_s_facts_pile v0 q4 q10.2)] : List (List zE)).flatten
        simpa only [if_neg c16] using H15
    replace hf := zlet_gen hf
    generalize ((if (0 ≤ (((R_state v0) (Int32.toNatClampNeg ((a1 + 16) + a2))) + z14)) then (if ((((R_state v0) (Int32.toNatClampNeg ((a1 + 16) + a2))) + z14) ≤ 9) then (((R_state v0) (Int32.toNatClampNeg ((a1 + 16) + a2))) + z14) else 9) else 0) : Int32) = z18 at hf ⊢
    refine AW.run hZ hRm [163] 400 ?_
    show (¬ (((a1 + 16) + a2) < 0 ∨ 1656 ≤ Int32.toNatClampNeg ((a1 + 16) + a2)) ∧ AW Z 0 0 163 [none, none, none, none, none] [] ([kR 0 (R_s_facts_pile_state v0 q4 q10.2 (upd (R_state v0) (Int32.toNatClampNeg ((a1 + 16) + a2)) z18))] : List (List zE)).flatten)
    obtain ⟨b20, hf⟩ := zneed hf
    refine ⟨b20, ?_⟩
    replace hf := zlet_gen hf
    generalize ((upd (R_state v0) (Int32.toNatClampNeg ((a1 + 16) + a2)) z18) : (Nat → Int32)) = z19 at hf ⊢
    as_aux_lemma =>
      cases hf
      exact AW.vret hZ hE rfl rfl rfl (Nat.le_refl 0) (Nat.le_refl 0) rfl ⟨rfl, rfl⟩
  · rw [if_neg c9] at hf
    obtain ⟨b33, hf⟩ := zneed hf
    refine ⟨b33, ?_⟩
    suffices H23 : AW Z 0 0 126 [some (.ref 0), some (.int a1), some (.int a2), none, none] [.int (if ((-3) ≤ z8) then (if (z8 ≤ 3) then z8 else 3) else (-3)), .int ((R_state v0) (Int32.toNatClampNeg ((a1 + 16) + a2)))] ([kR 0 (R_facts_s v0 q4)] : List (List zE)).flatten from by
      refine AW.run hZ hRm [126] 400 ?_
      show ((((-3) ≤ z8) → (((z8 ≤ 3) → AW Z 0 0 126 [some (.ref 0), some (.int a1), some (.int a2), none, some (.int z8)] [.int z8, .int ((R_state v0) (Int32.toNatClampNeg ((a1 + 16) + a2)))] ([kR 0 (R_facts_s v0 q4)] : List (List zE)).flatten) ∧ (¬ (z8 ≤ 3) → AW Z 0 0 126 [some (.ref 0), some (.int a1), some (.int a2), none, some (.int z8)] [.int 3, .int ((R_state v0) (Int32.toNatClampNeg ((a1 + 16) + a2)))] ([kR 0 (R_facts_s v0 q4)] : List (List zE)).flatten))) ∧ (¬ ((-3) ≤ z8) → AW Z 0 0 126 [some (.ref 0), some (.int a1), some (.int a2), none, some (.int z8)] [.int (-3), .int ((R_state v0) (Int32.toNatClampNeg ((a1 + 16) + a2)))] ([kR 0 (R_facts_s v0 q4)] : List (List zE)).flatten))
      refine ⟨fun c24 => ?_, fun c24 => ?_⟩
      · refine ⟨fun c25 => ?_, fun c25 => ?_⟩
        · refine AW.forget [true, true, true, false, false] ?_
          show AW Z 0 0 126 [some (.ref 0), some (.int a1), some (.int a2), none, none] [.int z8, .int ((R_state v0) (Int32.toNatClampNeg ((a1 + 16) + a2)))] ([kR 0 (R_facts_s v0 q4)] : List (List zE)).flatten
          simpa only [if_pos c24, if_pos c25] using H23
        · refine AW.forget [true, true, true, false, false] ?_
          show AW Z 0 0 126 [some (.ref 0), some (.int a1), some (.int a2), none, none] [.int 3, .int ((R_state v0) (Int32.toNatClampNeg ((a1 + 16) + a2)))] ([kR 0 (R_facts_s v0 q4)] : List (List zE)).flatten
          simpa only [if_pos c24, if_neg c25] using H23
      · refine AW.forget [true, true, true, false, false] ?_
        show AW Z 0 0 126 [some (.ref 0), some (.int a1), some (.int a2), none, none] [.int (-3), .int ((R_state v0) (Int32.toNatClampNeg ((a1 + 16) + a2)))] ([kR 0 (R_facts_s v0 q4)] : List (List zE)).flatten
        simpa only [if_neg c24] using H23
    replace hf := zlet_gen hf
    generalize ((if ((-3) ≤ z8) then (if (z8 ≤ 3) then z8 else 3) else (-3)) : Int32) = z26 at hf ⊢
    refine AW.run hZ hRm [141] 400 ?_
    show AW Z 0 0 141 [some (.ref 0), some (.int a1), some (.int a2), none, some (.int (((R_state v0) (Int32.toNatClampNeg ((a1 + 16) + a2))) + z26))] [.int (((R_state v0) (Int32.toNatClampNeg ((a1 + 16) + a2))) + z26), .int ((a1 + 16) + a2), .ref 14] ([kR 0 (R_facts_s v0 q4)] : List (List zE)).flatten
    suffices H27 : AW Z 0 0 162 [none, none, none, none, none] [.int (if (0 ≤ (((R_state v0) (Int32.toNatClampNeg ((a1 + 16) + a2))) + z26)) then (if ((((R_state v0) (Int32.toNatClampNeg ((a1 + 16) + a2))) + z26) ≤ 9) then (((R_state v0) (Int32.toNatClampNeg ((a1 + 16) + a2))) + z26) else 9) else 0), .int ((a1 + 16) + a2), .ref 14] ([kR 0 (R_facts_s v0 q4)] : List (List zE)).flatten from by
      refine AW.run hZ hRm [162] 400 ?_
      show (((0 ≤ (((R_state v0) (Int32.toNatClampNeg ((a1 + 16) + a2))) + z26)) → ((((((R_state v0) (Int32.toNatClampNeg ((a1 + 16) + a2))) + z26) ≤ 9) → AW Z 0 0 162 [some (.ref 0), some (.int a1), some (.int a2), none, some (.int (((R_state v0) (Int32.toNatClampNeg ((a1 + 16) + a2))) + z26))] [.int (((R_state v0) (Int32.toNatClampNeg ((a1 + 16) + a2))) + z26), .int ((a1 + 16) + a2), .ref 14] ([kR 0 (R_facts_s v0 q4)] : List (List zE)).flatten) ∧ (¬ ((((R_state v0) (Int32.toNatClampNeg ((a1 + 16) + a2))) + z26) ≤ 9) → AW Z 0 0 162 [some (.ref 0), some (.int a1), some (.int a2), none, some (.int (((R_state v0) (Int32.toNatClampNeg ((a1 + 16) + a2))) + z26))] [.int 9, .int ((a1 + 16) + a2), .ref 14] ([kR 0 (R_facts_s v0 q4)] : List (List zE)).flatten))) ∧ (¬ (0 ≤ (((R_state v0) (Int32.toNatClampNeg ((a1 + 16) + a2))) + z26)) → AW Z 0 0 162 [some (.ref 0), some (.int a1), some (.int a2), none, some (.int (((R_state v0) (Int32.toNatClampNeg ((a1 + 16) + a2))) + z26))] [.int 0, .int ((a1 + 16) + a2), .ref 14] ([kR 0 (R_facts_s v0 q4)] : List (List zE)).flatten))
      refine ⟨fun c28 => ?_, fun c28 => ?_⟩
      · refine ⟨fun c29 => ?_, fun c29 => ?_⟩
        · refine AW.forget [false, false, false, false, false] ?_
          show AW Z 0 0 162 [none, none, none, none, none] [.int (((R_state v0) (Int32.toNatClampNeg ((a1 + 16) + a2))) + z26), .int ((a1 + 16) + a2), .ref 14] ([kR 0 (R_facts_s v0 q4)] : List (List zE)).flatten
          simpa only [if_pos c28, if_pos c29] using H27
        · refine AW.forget [false, false, false, false, false] ?_
          show AW Z 0 0 162 [none, none, none, none, none] [.int 9, .int ((a1 + 16) + a2), .ref 14] ([kR 0 (R_facts_s v0 q4)] : List (List zE)).flatten
          simpa only [if_pos c28, if_neg c29] using H27
      · refine AW.forget [false, false, false, false, false] ?_
        show AW Z 0 0 162 [none, none, none, none, none] [.int 0, .int ((a1 + 16) + a2), .ref 14] ([kR 0 (R_facts_s v0 q4)] : List (List zE)).flatten
        simpa only [if_neg c28] using H27
    replace hf := zlet_gen hf
    generalize ((if (0 ≤ (((R_state v0) (Int32.toNatClampNeg ((a1 + 16) + a2))) + z26)) then (if ((((R_state v0) (Int32.toNatClampNeg ((a1 + 16) + a2))) + z26) ≤ 9) then (((R_state v0) (Int32.toNatClampNeg ((a1 + 16) + a2))) + z26) else 9) else 0) : Int32) = z30 at hf ⊢
    refine AW.run hZ hRm [163] 400 ?_
    show (¬ (((a1 + 16) + a2) < 0 ∨ 1656 ≤ Int32.toNatClampNeg ((a1 + 16) + a2)) ∧ AW Z 0 0 163 [none, none, none, none, none] [] ([kR 0 (R_s_facts_state v0 q4 (upd (R_state v0) (Int32.toNatClampNeg ((a1 + 16) + a2)) z30))] : List (List zE)).flatten)
    obtain ⟨b32, hf⟩ := zneed hf
    refine ⟨b32, ?_⟩
    replace hf := zlet_gen hf
    generalize ((upd (R_state v0) (Int32.toNatClampNeg ((a1 + 16) + a2)) z30) : (Nat → Int32)) = z31 at hf ⊢
    as_aux_lemma =>
      cases hf
      exact AW.vret hZ hE rfl rfl rfl (Nat.le_refl 0) (Nat.le_refl 0) rfl ⟨rfl, rfl⟩
def f_R_passes_L2 (N : Nat) : Nat → VR → Int32 → Int32 → (Nat → Int32) → (Nat → Int32) → (Nat → Int32) → Option ((Nat → Int32) × (Nat → Int32) × (Nat → Int32))
  | 0, _, _, _, _, _, _ => none
  | fuel + 1, v0, y1, x2, m_facts0, m_pile1, m_state2 => ((f_R_people N (R_s_facts_pile_state v0 m_facts0 m_pile1 m_state2)).bind (fun q1 => (if (q1 ≤ x2) then (some (m_facts0, m_pile1, m_state2)) else ((f_R_spendsAs N (R_s_facts_pile_state v0 m_facts0 m_pile1 m_state2) y1 x2).bind (fun q3 => ((f_R_mendsAs N (R_s_facts_pile_state v0 q3.1 q3.2.1 q3.2.2) y1 x2).bind (fun q4 => (f_R_passes_L2 N fuel v0 y1 (x2 + 1) q4.1 q4.2.1 q4.2.2))))))))
def f_R_passes (N : Nat) (v0 : VR) (a1 : Int32) : Option ((Nat → Int32) × (Nat → Int32) × (Nat → Int32)) := ((f_R_passes_L2 N N v0 a1 0 (R_facts v0) (R_pile v0) (R_state v0)).bind (fun q8 => (if ((a1 + 1) < 0 ∨ 1656 ≤ Int32.toNatClampNeg (a1 + 1)) then none else (if ((a1 + 1) < 0 ∨ 1656 ≤ Int32.toNatClampNeg (a1 + 1)) then none else (zlet ((upd q8.2.2 (Int32.toNatClampNeg (a1 + 1)) ((q8.2.2 (Int32.toNatClampNeg (a1 + 1))) + 1)) : (Nat → Int32)) (fun z10 => (some (q8.1, q8.2.1, z10))))))))
set_option maxRecDepth 20000 in
set_option maxHeartbeats 4000000 in
theorem c_R_passes_L2 {Z : zCtx} {D n0w nf mcw msw : Nat} (hZ : zOk Z zMX12_passes) (hR : zCan Z D mcw msw) (hDd : 4 ≤ D) (hN : zNew Z n0w nf) (hRm : zRoom Z 0 0) (N : Nat) : ∀ (fuel : Nat) (v0 : VR) (y1 : Int32) (x2 : Int32) (m_facts0 : (Nat → Int32)) (m_pile1 : (Nat → Int32)) (m_state2 : (Nat → Int32)) (q : ((Nat → Int32) × (Nat → Int32) × (Nat → Int32))), f_R_passes_L2 N fuel v0 y1 x2 m_facts0 m_pile1 m_state2 = some q → (AW Z 0 0 28 [some (.ref 0), some (.int y1), none] [] ([kR 0 (R_s_facts_pile_state v0 q.1 q.2.1 q.2.2)] : List (List zE)).flatten) → AW Z 0 0 2 [some (.ref 0), some (.int y1), some (.int x2)] [] ([kR 0 (R_s_facts_pile_state v0 m_facts0 m_pile1 m_state2)] : List (List zE)).flatten := by
  intro fuel
  induction fuel with
  | zero =>
    intro v0 y1 x2 m_facts0 m_pile1 m_state2 q hf hk0
    simp [f_R_passes_L2] at hf
  | succ fuel ih =>
    intro v0 y1 x2 m_facts0 m_pile1 m_state2 q hf hk0
    rw [f_R_passes_L2] at hf
    refine AW.run hZ hRm [4] 400 ?_
    show AW Z 0 0 4 [some (.ref 0), some (.int y1), some (.int x2)] [.ref 0, .int x2] ([kR 0 (R_s_facts_pile_state v0 m_facts0 m_pile1 m_state2)] : List (List zE)).flatten
    obtain ⟨q1, h7, hf⟩ := zbind hf
    refine AW.callVc hZ hR hN (c_R_people N (R_s_facts_pile_state v0 m_facts0 m_pile1 m_state2) q1 h7) zMX12_people_ok rfl rfl zK_BorrowedLivesModel_291 zV_X12_people rfl [25] [0] [0, 1, 2, 3, 4, 5, 6, 7, 8, 9, 10, 11, 12, 13, 14, 15, 16, 17, 18, 19, 20, 21, 22, 23, 24] rfl rfl rfl (by decide) (by decide) (by omega) (by decide) (Nat.zero_le _) (Nat.zero_le _) rfl rfl rfl rfl rfl ?_
    rintro v cc ⟨rfl, rfl⟩
    refine ⟨_, rfl, rfl, ?_⟩
    show AW Z 0 0 7 [some (.ref 0), some (.int y1), some (.int x2)] [.int q1, .int x2] ([kR 0 (R_s_facts_pile_state v0 m_facts0 m_pile1 m_state2)] : List (List zE)).flatten
    refine AW.run hZ hRm [13, 28] 400 ?_
    show (((q1 ≤ x2) → AW Z 0 0 28 [some (.ref 0), some (.int y1), some (.int x2)] [] ([kR 0 (R_s_facts_pile_state v0 m_facts0 m_pile1 m_state2)] : List (List zE)).flatten) ∧ (¬ (q1 ≤ x2) → AW Z 0 0 13 [some (.ref 0), some (.int y1), some (.int x2)] [.int x2, .int y1, .ref 0] ([kR 0 (R_s_facts_pile_state v0 m_facts0 m_pile1 m_state2)] : List (List zE)).flatten))
    refine ⟨fun c2 => ?_, fun c2 => ?_⟩
    · rw [if_pos c2] at hf
      cases hf
      refine AW.forget [true, true, false] ?_
      show AW Z 0 0 28 [some (.ref 0), some (.int y1), none] [] ([kR 0 (R_s_facts_pile_state v0 m_facts0 m_pile1 m_state2)] : List (List zE)).flatten
      exact hk0
    · rw [if_neg c2] at hf
      obtain ⟨q3, h6, hf⟩ := zbind hf
      refine AW.callVc hZ hR hN (c_R_spendsAs N (R_s_facts_pile_state v0 m_facts0 m_pile1 m_state2) y1 x2 q3 h6) zMX12_spendsAs_ok rfl rfl zK_BorrowedLivesModel_340 zV_X12_spendsAs rfl [25] [0] [0, 1, 2, 3, 4, 5, 6, 7, 8, 9, 10, 11, 12, 13, 14, 15, 16, 17, 18, 19, 20, 21, 22, 23, 24] rfl rfl rfl (by decide) (by decide) (by omega) (by decide) (Nat.zero_le _) (Nat.zero_le _) rfl rfl rfl rfl rfl ?_
      rintro v cc ⟨rfl, rfl⟩
      refine ⟨_, rfl, rfl, ?_⟩
      show AW Z 0 0 16 [some (.ref 0), some (.int y1), some (.int x2)] [] ([kR 0 (R_s_facts_pile_state v0 q3.1 q3.2.1 q3.2.2)] : List (List zE)).flatten
      refine AW.run hZ hRm [19] 400 ?_
      show AW Z 0 0 19 [some (.ref 0), some (.int y1), some (.int x2)] [.int x2, .int y1, .ref 0] ([kR 0 (R_s_facts_pile_state v0 q3.1 q3.2.1 q3.2.2)] : List (List zE)).flatten
      obtain ⟨q4, h5, hf⟩ := zbind hf
      refine AW.callVc hZ hR hN (c_R_mendsAs N (R_s_facts_pile_state v0 q3.1 q3.2.1 q3.2.2) y1 x2 q4 h5) zMX12_mendsAs_ok rfl rfl zK_BorrowedLivesModel_343 zV_X12_mendsAs rfl [25] [0] [0, 1, 2, 3, 4, 5, 6, 7, 8, 9, 10, 11, 12, 13, 14, 15, 16, 17, 18, 19, 20, 21, 22, 23, 24] rfl rfl rfl (by decide) (by decide) (by omega) (by decide) (Nat.zero_le _) (Nat.zero_le _) rfl rfl rfl rfl rfl ?_
      rintro v cc ⟨rfl, rfl⟩
      refine ⟨_, rfl, rfl, ?_⟩
      show AW Z 0 0 22 [some (.ref 0), some (.int y1), some (.int x2)] [] ([kR 0 (R_s_facts_pile_state v0 q4.1 q4.2.1 q4.2.2)] : List (List zE)).flatten
      refine AW.run hZ hRm [2] 400 ?_
      show AW Z 0 0 2 [some (.ref 0), some (.int y1), some (.int (x2 + 1))] [] ([kR 0 (R_s_facts_pile_state v0 q4.1 q4.2.1 q4.2.2)] : List (List zE)).flatten
      exact ih v0 y1 (x2 + 1) q4.1 q4.2.1 q4.2.2 q hf hk0
set_option maxRecDepth 20000 in
set_option maxHeartbeats 4000000 in
theorem c_R_passes (N : Nat) (v0 : VR) (a1 : Int32) (R : (Nat → Int32) × (Nat → Int32) × (Nat → Int32)) (hf : f_R_passes N v0 a1 = some R) : Ct zMX12_passes 4 0 0 0 [.ref 0, .int a1] ([kR 0 v0] : List (List zE)).flatten (fun v cc => v = none ∧ cc = ([kR 0 (R_s_facts_pile_state v0 R.1 R.2.1 R.2.2)] : List (List zE)).flatten) := by
  refine Ct.of zMX12_passes_ok (by decide) (Nat.le_of_ble_eq_true rfl) ?_
  intro Z hZ hR hN hE
  have hRm : zRoom Z 0 0 := zRoom0 Z
  unfold f_R_passes at hf
  show AW Z 0 0 0 [some (.ref 0), some (.int a1), none] [] ([kR 0 v0] : List (List zE)).flatten
  refine AW.run hZ hRm [2] 400 ?_
  show AW Z 0 0 2 [some (.ref 0), some (.int a1), some (.int 0)] [] ([kR 0 v0] : List (List zE)).flatten
  obtain ⟨q8, h9, hf⟩ := zbind hf
  refine c_R_passes_L2 hZ hR (by omega) hN hRm N N v0 a1 0 (R_facts v0) (R_pile v0) (R_state v0) q8 h9 ?_
  show AW Z 0 0 28 [some (.ref 0), some (.int a1), none] [] ([kR 0 (R_s_facts_pile_state v0 q8.1 q8.2.1 q8.2.2)] : List (List zE)).flatten
  refine AW.run hZ hRm [40] 400 ?_
  show (¬ ((a1 + 1) < 0 ∨ 1656 ≤ Int32.toNatClampNeg (a1 + 1)) ∧ (¬ ((a1 + 1) < 0 ∨ 1656 ≤ Int32.toNatClampNeg (a1 + 1)) ∧ AW Z 0 0 40 [some (.ref 0), some (.int a1), none] [] ([kR 0 (R_s_facts_pile_state v0 q8.1 q8.2.1 (upd q8.2.2 (Int32.toNatClampNeg (a1 + 1)) ((q8.2.2 (Int32.toNatClampNeg (a1 + 1))) + 1)))] : List (List zE)).flatten))
  obtain ⟨b12, hf⟩ := zneed hf
  refine ⟨b12, ?_⟩
  obtain ⟨b11, hf⟩ := zneed hf
  refine ⟨b11, ?_⟩
  replace hf := zlet_gen hf
  generalize ((upd q8.2.2 (Int32.toNatClampNeg (a1 + 1)) ((q8.2.2 (Int32.toNatClampNeg (a1 + 1))) + 1)) : (Nat → Int32)) = z10 at hf ⊢
  as_aux_lemma =>
    cases hf
    exact AW.vret hZ hE rfl rfl rfl (Nat.le_refl 0) (Nat.le_refl 0) rfl ⟨rfl, rfl⟩
def f_R_leaves_L20 (N : Nat) : Nat → VR → Int32 → Int32 → Int32 → (Nat → Int32) → Option ((Nat → Int32))
  | 0, _, _, _, _, _ => none
  | fuel + 1, v0, y1, y2, x3, m_state0 => ((f_R_people N (R_state_s v0 m_state0)).bind (fun q3 => (if (q3 ≤ x3) then (some m_state0) else ((f_R_selfOf N (R_state_s v0 m_state0) y2 x3).bind (fun q5 => (if (((y1 + 28) + x3) < 0 ∨ 1656 ≤ Int32.toNatClampNeg ((y1 + 28) + x3)) then none else (zlet ((upd m_state0 (Int32.toNatClampNeg ((y1 + 28) + x3)) q5) : (Nat → Int32)) (fun z6 => (if (((y1 + 4) + x3) < 0 ∨ 1656 ≤ Int32.toNatClampNeg ((y1 + 4) + x3)) then none else (if (((y1 + 10) + x3) < 0 ∨ 1656 ≤ Int32.toNatClampNeg ((y1 + 10) + x3)) then none else (if (((y1 + 34) + x3) < 0 ∨ 1656 ≤ Int32.toNatClampNeg ((y1 + 34) + x3)) then none else (zlet ((upd z6 (Int32.toNatClampNeg ((y1 + 34) + x3)) ((z6 (Int32.toNatClampNeg ((y1 + 4) + x3))) - (z6 (Int32.toNatClampNeg ((y1 + 10) + x3))))) : (Nat → Int32)) (fun z7 => (if (((y1 + 16) + x3) < 0 ∨ 1656 ≤ Int32.toNatClampNeg ((y1 + 16) + x3)) then none else (if (((y1 + 40) + x3) < 0 ∨ 1656 ≤ Int32.toNatClampNeg ((y1 + 40) + x3)) then none else (zlet ((upd z7 (Int32.toNatClampNeg ((y1 + 40) + x3)) (z7 (Int32.toNatClampNeg ((y1 + 16) + x3)))) : (Nat → Int32)) (fun z8 => (f_R_leaves_L20 N fuel v0 y1 y2 (x3 + 1) z8))))))))))))))))))
def f_R_leaves (N : Nat) (v0 : VR) (a1 : Int32) (a2 : Int32) : Option ((Nat → Int32)) := (if ((a1 + 0) < 0 ∨ 1656 ≤ Int32.toNatClampNeg (a1 + 0)) then none else (zlet ((upd (R_state v0) (Int32.toNatClampNeg (a1 + 0)) 1) : (Nat → Int32)) (fun z1 => (if ((a1 + 1) < 0 ∨ 1656 ≤ Int32.toNatClampNeg (a1 + 1)) then none else (zlet ((upd z1 (Int32.toNatClampNeg (a1 + 1)) 0) : (Nat → Int32)) (fun z2 => ((f_R_leaves_L20 N N (R_state_s v0 z2) a1 a2 0 z2).bind (fun q17 => (some q17)))))))))
set_option maxRecDepth 20000 in
set_option maxHeartbeats 4000000 in
theorem c_R_leaves_L20 {Z : zCtx} {D n0w nf mcw msw : Nat} (hZ : zOk Z zMX12_leaves) (hR : zCan Z D mcw msw) (hDd : 2 ≤ D) (hN : zNew Z n0w nf) (hRm : zRoom Z 0 0) (N : Nat) : ∀ (fuel : Nat) (v0 : VR) (y1 : Int32) (y2 : Int32) (x3 : Int32) (m_state0 : (Nat → Int32)) (q : ((Nat → Int32))), f_R_leaves_L20 N fuel v0 y1 y2 x3 m_state0 = some q → (AW Z 0 0 106 [none, none, none, none] [] ([kR 0 (R_state_s v0 q)] : List (List zE)).flatten) → AW Z 0 0 20 [some (.ref 0), some (.int y1), some (.int y2), some (.int x3)] [] ([kR 0 (R_state_s v0 m_state0)] : List (List zE)).flatten := by
  intro fuel
  induction fuel with
  | zero =>
    intro v0 y1 y2 x3 m_state0 q hf hk0
    simp [f_R_leaves_L20] at hf
  | succ fuel ih =>
    intro v0 y1 y2 x3 m_state0 q hf hk0
    rw [f_R_leaves_L20] at hf
    refine AW.run hZ hRm [22] 400 ?_
    show AW Z 0 0 22 [some (.ref 0), some (.int y1), some (.int y2), some (.int x3)] [.ref 0, .int x3] ([kR 0 (R_state_s v0 m_state0)] : List (List zE)).flatten
    obtain ⟨q3, h16, hf⟩ := zbind hf
    refine AW.callVc hZ hR hN (c_R_people N (R_state_s v0 m_state0) q3 h16) zMX12_people_ok rfl rfl zK_BorrowedLivesModel_291 zV_X12_people rfl [25] [0] [0, 1, 2, 3, 4, 5, 6, 7, 8, 9, 10, 11, 12, 13, 14, 15, 16, 17, 18, 19, 20, 21, 22, 23, 24] rfl rfl rfl (by decide) (by decide) (by omega) (by decide) (Nat.zero_le _) (Nat.zero_le _) rfl rfl rfl rfl rfl ?_
    rintro v cc ⟨rfl, rfl⟩
    refine ⟨_, rfl, rfl, ?_⟩
    show AW Z 0 0 25 [some (.ref 0), some (.int y1), some (.int y2), some (.int x3)] [.int q3, .int x3] ([kR 0 (R_state_s v0 m_state0)] : List (List zE)).flatten
    refine AW.run hZ hRm [41, 106] 400 ?_
    show (((q3 ≤ x3) → AW Z 0 0 106 [some (.ref 0), some (.int y1), some (.int y2), some (.int x3)] [] ([kR 0 (R_state_s v0 m_state0)] : List (List zE)).flatten) ∧ (¬ (q3 ≤ x3) → AW Z 0 0 41 [some (.ref 0), some (.int y1), some (.int y2), some (.int x3)] [.int x3, .int y2, .ref 0, .int ((y1 + 28) + x3), .ref 14] ([kR 0 (R_state_s v0 m_state0)] : List (List zE)).flatten))
    refine ⟨fun c4 => ?_, fun c4 => ?_⟩
    · rw [if_pos c4] at hf
      cases hf
      refine AW.forget [false, false, false, false] ?_
      show AW Z 0 0 106 [none, none, none, none] [] ([kR 0 (R_state_s v0 m_state0)] : List (List zE)).flatten
      exact hk0
    · rw [if_neg c4] at hf
      obtain ⟨q5, h15, hf⟩ := zbind hf
      refine AW.callVc hZ hR hN (c_R_selfOf N (R_state_s v0 m_state0) y2 x3 q5 h15) zMX12_selfOf_ok rfl rfl zK_BorrowedLivesModel_346 zV_X12_selfOf rfl [25] [0] [0, 1, 2, 3, 4, 5, 6, 7, 8, 9, 10, 11, 12, 13, 14, 15, 16, 17, 18, 19, 20, 21, 22, 23, 24] rfl rfl rfl (by decide) (by decide) (by omega) (by decide) (Nat.zero_le _) (Nat.zero_le _) rfl rfl rfl rfl rfl ?_
      rintro v cc ⟨rfl, rfl⟩
      refine ⟨_, rfl, rfl, ?_⟩
      show AW Z 0 0 44 [some (.ref 0), some (.int y1), some (.int y2), some (.int x3)] [.int q5, .int ((y1 + 28) + x3), .ref 14] ([kR 0 (R_state_s v0 m_state0)] : List (List zE)).flatten
      refine AW.run hZ hRm [45] 400 ?_
      show (¬ (((y1 + 28) + x3) < 0 ∨ 1656 ≤ Int32.toNatClampNeg ((y1 + 28) + x3)) ∧ AW Z 0 0 45 [some (.ref 0), some (.int y1), some (.int y2), some (.int x3)] [] ([kR 0 (R_state_s v0 (upd m_state0 (Int32.toNatClampNeg ((y1 + 28) + x3)) q5))] : List (List zE)).flatten)
      obtain ⟨b14, hf⟩ := zneed hf
      refine ⟨b14, ?_⟩
      replace hf := zlet_gen hf
      generalize ((upd m_state0 (Int32.toNatClampNeg ((y1 + 28) + x3)) q5) : (Nat → Int32)) = z6 at hf ⊢
      as_aux_lemma =>
        refine AW.run hZ hRm [78] 400 ?_
        show (¬ (((y1 + 4) + x3) < 0 ∨ 1656 ≤ Int32.toNatClampNeg ((y1 + 4) + x3)) ∧ (¬ (((y1 + 10) + x3) < 0 ∨ 1656 ≤ Int32.toNatClampNeg ((y1 + 10) + x3)) ∧ (¬ (((y1 + 34) + x3) < 0 ∨ 1656 ≤ Int32.toNatClampNeg ((y1 + 34) + x3)) ∧ AW Z 0 0 78 [some (.ref 0), some (.int y1), some (.int y2), some (.int x3)] [] ([kR 0 (R_state_s v0 (upd z6 (Int32.toNatClampNeg ((y1 + 34) + x3)) ((z6 (Int32.toNatClampNeg ((y1 + 4) + x3))) - (z6 (Int32.toNatClampNeg ((y1 + 10) + x3))))))] : List (List zE)).flatten)))
        obtain ⟨b13, hf⟩ := zneed hf
        refine ⟨b13, ?_⟩
        obtain ⟨b12, hf⟩ := zneed hf
        refine ⟨b12, ?_⟩
        obtain ⟨b11, hf⟩ := zneed hf
        refine ⟨b11, ?_⟩
        replace hf := zlet_gen hf
        generalize ((upd z6 (Int32.toNatClampNeg ((y1 + 34) + x3)) ((z6 (Int32.toNatClampNeg ((y1 + 4) + x3))) - (z6 (Int32.toNatClampNeg ((y1 + 10) + x3))))) : (Nat → Int32)) = z7 at hf ⊢
        as_aux_lemma =>
          refine AW.run hZ hRm [100] 400 ?_
          show (¬ (((y1 + 16) + x3) < 0 ∨ 1656 ≤ Int32.toNatClampNeg ((y1 + 16) + x3)) ∧ (¬ (((y1 + 40) + x3) < 0 ∨ 1656 ≤ Int32.toNatClampNeg ((y1 + 40) + x3)) ∧ AW Z 0 0 100 [some (.ref 0), some (.int y1), some (.int y2), some (.int x3)] [] ([kR 0 (R_state_s v0 (upd z7 (Int32.toNatClampNeg ((y1 + 40) + x3)) (z7 (Int32.toNatClampNeg ((y1 + 16) + x3)))))] : List (List zE)).flatten))
          obtain ⟨b10, hf⟩ := zneed hf
          refine ⟨b10, ?_⟩
          obtain ⟨b9, hf⟩ := zneed hf
          refine ⟨b9, ?_⟩
          replace hf := zlet_gen hf
          generalize ((upd z7 (Int32.toNatClampNeg ((y1 + 40) + x3)) (z7 (Int32.toNatClampNeg ((y1 + 16) + x3)))) : (Nat → Int32)) = z8 at hf ⊢
          as_aux_lemma =>
            refine AW.run hZ hRm [20] 400 ?_
            show AW Z 0 0 20 [some (.ref 0), some (.int y1), some (.int y2), some (.int (x3 + 1))] [] ([kR 0 (R_state_s v0 z8)] : List (List zE)).flatten
            exact ih v0 y1 y2 (x3 + 1) z8 q hf hk0
set_option maxRecDepth 20000 in
set_option maxHeartbeats 4000000 in
theorem c_R_leaves (N : Nat) (v0 : VR) (a1 : Int32) (a2 : Int32) (R : (Nat → Int32)) (hf : f_R_leaves N v0 a1 a2 = some R) : Ct zMX12_leaves 2 0 0 0 [.ref 0, .int a1, .int a2] ([kR 0 v0] : List (List zE)).flatten (fun v cc => v = none ∧ cc = ([kR 0 (R_state_s v0 R)] : List (List zE)).flatten) := by
  refine Ct.of zMX12_leaves_ok (by decide) (Nat.le_of_ble_eq_true rfl) ?_
  intro Z hZ hR hN hE
  have hRm : zRoom Z 0 0 := zRoom0 Z
  unfold f_R_leaves at hf
  show AW Z 0 0 0 [some (.ref 0), some (.int a1), some (.int a2), none] [] ([kR 0 v0] : List (List zE)).flatten
  refine AW.run hZ hRm [9] 400 ?_
  show (¬ ((a1 + 0) < 0 ∨ 1656 ≤ Int32.toNatClampNeg (a1 + 0)) ∧ AW Z 0 0 9 [some (.ref 0), some (.int a1), some (.int a2), none] [] ([kR 0 (R_state_s v0 (upd (R_state v0) (Int32.toNatClampNeg (a1 + 0)) 1))] : List (List zE)).flatten)
  obtain ⟨b20, hf⟩ := zneed hf
  refine ⟨b20, ?_⟩
  replace hf := zlet_gen hf
  generalize ((upd (R_state v0) (Int32.toNatClampNeg (a1 + 0)) 1) : (Nat → Int32)) = z1 at hf ⊢
  as_aux_lemma =>
    refine AW.run hZ hRm [18] 400 ?_
    show (¬ ((a1 + 1) < 0 ∨ 1656 ≤ Int32.toNatClampNeg (a1 + 1)) ∧ AW Z 0 0 18 [some (.ref 0), some (.int a1), some (.int a2), none] [] ([kR 0 (R_state_s v0 (upd z1 (Int32.toNatClampNeg (a1 + 1)) 0))] : List (List zE)).flatten)
    obtain ⟨b19, hf⟩ := zneed hf
    refine ⟨b19, ?_⟩
    replace hf := zlet_gen hf
    generalize ((upd z1 (Int32.toNatClampNeg (a1 + 1)) 0) : (Nat → Int32)) = z2 at hf ⊢
    as_aux_lemma =>
      refine AW.run hZ hRm [20] 400 ?_
      show AW Z 0 0 20 [some (.ref 0), some (.int a1), some (.int a2), some (.int 0)] [] ([kR 0 (R_state_s v0 z2)] : List (List zE)).flatten
      obtain ⟨q17, h18, hf⟩ := zbind hf
      refine c_R_leaves_L20 hZ hR (by omega) hN hRm N N (R_state_s v0 z2) a1 a2 0 z2 q17 h18 ?_
      show AW Z 0 0 106 [none, none, none, none] [] ([kR 0 (R_state_s v0 q17)] : List (List zE)).flatten
      cases hf
      exact AW.vret hZ hE rfl rfl rfl (Nat.le_refl 0) (Nat.le_refl 0) rfl ⟨rfl, rfl⟩
def f_R_harmOf (N : Nat) (v0 : VR) (a1 : Int32) (a2 : Int32) (a3 : Int32) : Option (Int32) := (if (((a1 + 34) + a2) < 0 ∨ 1656 ≤ Int32.toNatClampNeg ((a1 + 34) + a2)) then none else (if (((a1 + 4) + a2) < 0 ∨ 1656 ≤ Int32.toNatClampNeg ((a1 + 4) + a2)) then none else (if (((a1 + 10) + a2) < 0 ∨ 1656 ≤ Int32.toNatClampNeg ((a1 + 10) + a2)) then none else (if (((a1 + 40) + a2) < 0 ∨ 1656 ≤ Int32.toNatClampNeg ((a1 + 40) + a2)) then none else (if (((a1 + 16) + a2) < 0 ∨ 1656 ≤ Int32.toNatClampNeg ((a1 + 16) + a2)) then none else (zlet ((((R_state v0) (Int32.toNatClampNeg ((a1 + 40) + a2))) - ((R_state v0) (Int32.toNatClampNeg ((a1 + 16) + a2)))) : Int32) (fun z3 => (zlet ((if (a3 = 0) then ((((R_state v0) (Int32.toNatClampNeg ((a1 + 34) + a2))) - ((R_state v0) (Int32.toNatClampNeg ((a1 + 4) + a2)))) + ((R_state v0) (Int32.toNatClampNeg ((a1 + 10) + a2)))) else (-((((R_state v0) (Int32.toNatClampNeg ((a1 + 34) + a2))) - ((R_state v0) (Int32.toNatClampNeg ((a1 + 4) + a2)))) + ((R_state v0) (Int32.toNatClampNeg ((a1 + 10) + a2)))))) : Int32) (fun z4 => (if ((a1 + 0) < 0 ∨ 1656 ≤ Int32.toNatClampNeg (a1 + 0)) then none else (if (((R_state v0) (Int32.toNatClampNeg (a1 + 0))) = 0) then (some 0) else (zlet ((if (0 ≤ ((if (a3 = 0) then z3 else (-z3)) : Int32)) then (5 * (if (a3 = 0) then z3 else (-z3))) else 0) : Int32) (fun z12 => (some ((if (0 ≤ z4) then z4 else 0) + z12)))))))))))))))
set_option maxRecDepth 20000 in
set_option maxHeartbeats 4000000 in
theorem c_R_harmOf (N : Nat) (v0 : VR) (a1 : Int32) (a2 : Int32) (a3 : Int32) (R : Int32) (hf : f_R_harmOf N v0 a1 a2 a3 = some R) : Ct zMX12_harmOf 1 0 0 0 [.ref 0, .int a1, .int a2, .int a3] ([kR 0 v0] : List (List zE)).flatten (fun v cc => v = some (.int R) ∧ cc = ([kR 0 v0] : List (List zE)).flatten) := by
  refine Ct.of zMX12_harmOf_ok (by decide) (Nat.le_of_ble_eq_true rfl) ?_
  intro Z hZ hR hN hE
  have hRm : zRoom Z 0 0 := zRoom0 Z
  unfold f_R_harmOf at hf
  show AW Z 0 0 0 [some (.ref 0), some (.int a1), some (.int a2), some (.int a3), none, none] [] ([kR 0 v0] : List (List zE)).flatten
  refine AW.run hZ hRm [62] 400 ?_
  show (¬ (((a1 + 34) + a2) < 0 ∨ 1656 ≤ Int32.toNatClampNeg ((a1 + 34) + a2)) ∧ (¬ (((a1 + 4) + a2) < 0 ∨ 1656 ≤ Int32.toNatClampNeg ((a1 + 4) + a2)) ∧ (¬ (((a1 + 10) + a2) < 0 ∨ 1656 ≤ Int32.toNatClampNeg ((a1 + 10) + a2)) ∧ (¬ (((a1 + 40) + a2) < 0 ∨ 1656 ≤ Int32.toNatClampNeg ((a1 + 40) + a2)) ∧ (¬ (((a1 + 16) + a2) < 0 ∨ 1656 ≤ Int32.toNatClampNeg ((a1 + 16) + a2)) ∧ AW Z 0 0 62 [some (.ref 0), some (.int a1), some (.int a2), some (.int a3), some (.int ((((R_state v0) (Int32.toNatClampNeg ((a1 + 34) + a2))) - ((R_state v0) (Int32.toNatClampNeg ((a1 + 4) + a2)))) + ((R_state v0) (Int32.toNatClampNeg ((a1 + 10) + a2))))), some (.int (((R_state v0) (Int32.toNatClampNeg ((a1 + 40) + a2))) - ((R_state v0) (Int32.toNatClampNeg ((a1 + 16) + a2)))))] [.int a3] ([kR 0 v0] : List (List zE)).flatten)))))
  obtain ⟨b18, hf⟩ := zneed hf
  refine ⟨b18, ?_⟩
  obtain ⟨b17, hf⟩ := zneed hf
  refine ⟨b17, ?_⟩
  obtain ⟨b16, hf⟩ := zneed hf
  refine ⟨b16, ?_⟩
  obtain ⟨b15, hf⟩ := zneed hf
  refine ⟨b15, ?_⟩
  obtain ⟨b14, hf⟩ := zneed hf
  refine ⟨b14, ?_⟩
  suffices H1 : AW Z 0 0 73 [some (.ref 0), some (.int a1), none, some (.int a3), none, some (.int (((R_state v0) (Int32.toNatClampNeg ((a1 + 40) + a2))) - ((R_state v0) (Int32.toNatClampNeg ((a1 + 16) + a2)))))] [.int (if (a3 = 0) then ((((R_state v0) (Int32.toNatClampNeg ((a1 + 34) + a2))) - ((R_state v0) (Int32.toNatClampNeg ((a1 + 4) + a2)))) + ((R_state v0) (Int32.toNatClampNeg ((a1 + 10) + a2)))) else (-((((R_state v0) (Int32.toNatClampNeg ((a1 + 34) + a2))) - ((R_state v0) (Int32.toNatClampNeg ((a1 + 4) + a2)))) + ((R_state v0) (Int32.toNatClampNeg ((a1 + 10) + a2))))))] ([kR 0 v0] : List (List zE)).flatten from by
    refine AW.run hZ hRm [73] 400 ?_
    show (((a3 = 0) → AW Z 0 0 73 [some (.ref 0), some (.int a1), some (.int a2), some (.int a3), some (.int ((((R_state v0) (Int32.toNatClampNeg ((a1 + 34) + a2))) - ((R_state v0) (Int32.toNatClampNeg ((a1 + 4) + a2)))) + ((R_state v0) (Int32.toNatClampNeg ((a1 + 10) + a2))))), some (.int (((R_state v0) (Int32.toNatClampNeg ((a1 + 40) + a2))) - ((R_state v0) (Int32.toNatClampNeg ((a1 + 16) + a2)))))] [.int ((((R_state v0) (Int32.toNatClampNeg ((a1 + 34) + a2))) - ((R_state v0) (Int32.toNatClampNeg ((a1 + 4) + a2)))) + ((R_state v0) (Int32.toNatClampNeg ((a1 + 10) + a2))))] ([kR 0 v0] : List (List zE)).flatten) ∧ (¬ (a3 = 0) → AW Z 0 0 73 [some (.ref 0), some (.int a1), some (.int a2), some (.int a3), some (.int ((((R_state v0) (Int32.toNatClampNeg ((a1 + 34) + a2))) - ((R_state v0) (Int32.toNatClampNeg ((a1 + 4) + a2)))) + ((R_state v0) (Int32.toNatClampNeg ((a1 + 10) + a2))))), some (.int (((R_state v0) (Int32.toNatClampNeg ((a1 + 40) + a2))) - ((R_state v0) (Int32.toNatClampNeg ((a1 + 16) + a2)))))] [.int (-((((R_state v0) (Int32.toNatClampNeg ((a1 + 34) + a2))) - ((R_state v0) (Int32.toNatClampNeg ((a1 + 4) + a2)))) + ((R_state v0) (Int32.toNatClampNeg ((a1 + 10) + a2)))))] ([kR 0 v0] : List (List zE)).flatten))
    refine ⟨fun c2 => ?_, fun c2 => ?_⟩
    · refine AW.forget [true, true, false, true, false, true] ?_
      show AW Z 0 0 73 [some (.ref 0), some (.int a1), none, some (.int a3), none, some (.int (((R_state v0) (Int32.toNatClampNeg ((a1 + 40) + a2))) - ((R_state v0) (Int32.toNatClampNeg ((a1 + 16) + a2)))))] [.int ((((R_state v0) (Int32.toNatClampNeg ((a1 + 34) + a2))) - ((R_state v0) (Int32.toNatClampNeg ((a1 + 4) + a2)))) + ((R_state v0) (Int32.toNatClampNeg ((a1 + 10) + a2))))] ([kR 0 v0] : List (List zE)).flatten
      simpa only [if_pos c2] using H1
    · refine AW.forget [true, true, false, true, false, true] ?_
      show AW Z 0 0 73 [some (.ref 0), some (.int a1), none, some (.int a3), none, some (.int (((R_state v0) (Int32.toNatClampNeg ((a1 + 40) + a2))) - ((R_state v0) (Int32.toNatClampNeg ((a1 + 16) + a2)))))] [.int (-((((R_state v0) (Int32.toNatClampNeg ((a1 + 34) + a2))) - ((R_state v0) (Int32.toNatClampNeg ((a1 + 4) + a2)))) + ((R_state v0) (Int32.toNatClampNeg ((a1 + 10) + a2)))))] ([kR 0 v0] : List (List zE)).flatten
      simpa only [if_neg c2] using H1
  replace hf := zlet_gen hf
  generalize ((((R_state v0) (Int32.toNatClampNeg ((a1 + 40) + a2))) - ((R_state v0) (Int32.toNatClampNeg ((a1 + 16) + a2)))) : Int32) = z3 at hf ⊢
  replace hf := zlet_gen hf
  generalize ((if (a3 = 0) then ((((R_state v0) (Int32.toNatClampNeg ((a1 + 34) + a2))) - ((R_state v0) (Int32.toNatClampNeg ((a1 + 4) + a2)))) + ((R_state v0) (Int32.toNatClampNeg ((a1 + 10) + a2)))) else (-((((R_state v0) (Int32.toNatClampNeg ((a1 + 34) + a2))) - ((R_state v0) (Int32.toNatClampNeg ((a1 + 4) + a2)))) + ((R_state v0) (Int32.toNatClampNeg ((a1 + 10) + a2)))))) : Int32) = z4 at hf ⊢
  refine AW.run hZ hRm [76] 400 ?_
  show AW Z 0 0 76 [some (.ref 0), some (.int a1), none, some (.int a3), some (.int z4), some (.int z3)] [.int a3] ([kR 0 v0] : List (List zE)).flatten
  suffices H5 : AW Z 0 0 87 [some (.ref 0), some (.int a1), none, none, some (.int z4), none] [.int (if (a3 = 0) then z3 else (-z3))] ([kR 0 v0] : List (List zE)).flatten from by
    refine AW.run hZ hRm [87] 400 ?_
    show (((a3 = 0) → AW Z 0 0 87 [some (.ref 0), some (.int a1), none, some (.int a3), some (.int z4), some (.int z3)] [.int z3] ([kR 0 v0] : List (List zE)).flatten) ∧ (¬ (a3 = 0) → AW Z 0 0 87 [some (.ref 0), some (.int a1), none, some (.int a3), some (.int z4), some (.int z3)] [.int (-z3)] ([kR 0 v0] : List (List zE)).flatten))
    refine ⟨fun c6 => ?_, fun c6 => ?_⟩
    · refine AW.forget [true, true, false, false, true, false] ?_
      show AW Z 0 0 87 [some (.ref 0), some (.int a1), none, none, some (.int z4), none] [.int z3] ([kR 0 v0] : List (List zE)).flatten
      simpa only [if_pos c6] using H5
    · refine AW.forget [true, true, false, false, true, false] ?_
      show AW Z 0 0 87 [some (.ref 0), some (.int a1), none, none, some (.int z4), none] [.int (-z3)] ([kR 0 v0] : List (List zE)).flatten
      simpa only [if_neg c6] using H5
  refine AW.run hZ hRm [106, 129] 400 ?_
  show (¬ ((a1 + 0) < 0 ∨ 1656 ≤ Int32.toNatClampNeg (a1 + 0)) ∧ ((¬ (((R_state v0) (Int32.toNatClampNeg (a1 + 0))) = 0) → AW Z 0 0 106 [some (.ref 0), some (.int a1), none, none, some (.int z4), some (.int (if (a3 = 0) then z3 else (-z3)))] [.int z4] ([kR 0 v0] : List (List zE)).flatten) ∧ ((((R_state v0) (Int32.toNatClampNeg (a1 + 0))) = 0) → AW Z 0 0 129 [some (.ref 0), some (.int a1), none, none, some (.int z4), some (.int (if (a3 = 0) then z3 else (-z3)))] [.int 0] ([kR 0 v0] : List (List zE)).flatten)))
  obtain ⟨b13, hf⟩ := zneed hf
  refine ⟨b13, ?_⟩
  refine ⟨fun c7 => ?_, fun c7 => ?_⟩
  · rw [if_neg c7] at hf
    suffices H8 : AW Z 0 0 115 [none, none, none, none, none, some (.int (if (a3 = 0) then z3 else (-z3)))] [.int (if (0 ≤ z4) then z4 else 0)] ([kR 0 v0] : List (List zE)).flatten from by
      refine AW.run hZ hRm [115] 400 ?_
      show (((0 ≤ z4) → AW Z 0 0 115 [some (.ref 0), some (.int a1), none, none, some (.int z4), some (.int (if (a3 = 0) then z3 else (-z3)))] [.int z4] ([kR 0 v0] : List (List zE)).flatten) ∧ (¬ (0 ≤ z4) → AW Z 0 0 115 [some (.ref 0), some (.int a1), none, none, some (.int z4), some (.int (if (a3 = 0) then z3 else (-z3)))] [.int 0] ([kR 0 v0] : List (List zE)).flatten))
      refine ⟨fun c9 => ?_, fun c9 => ?_⟩
      · refine AW.forget [false, false, false, false, false, true] ?_
        show AW Z 0 0 115 [none, none, none, none, none, some (.int (if (a3 = 0) then z3 else (-z3)))] [.int z4] ([kR 0 v0] : List (List zE)).flatten
        simpa only [if_pos c9] using H8
      · refine AW.forget [false, false, false, false, false, true] ?_
        show AW Z 0 0 115 [none, none, none, none, none, some (.int (if (a3 = 0) then z3 else (-z3)))] [.int 0] ([kR 0 v0] : List (List zE)).flatten
        simpa only [if_neg c9] using H8
    refine AW.run hZ hRm [117] 400 ?_
    show AW Z 0 0 117 [none, none, none, none, none, some (.int (if (a3 = 0) then z3 else (-z3)))] [.int (if (a3 = 0) then z3 else (-z3)), .int (if (0 ≤ z4) then z4 else 0)] ([kR 0 v0] : List (List zE)).flatten
    suffices H10 : AW Z 0 0 128 [none, none, none, none, none, none] [.int (if (0 ≤ ((if (a3 = 0) then z3 else (-z3)) : Int32)) then (5 * (if (a3 = 0) then z3 else (-z3))) else 0), .int (if (0 ≤ z4) then z4 else 0)] ([kR 0 v0] : List (List zE)).flatten from by
      refine AW.run hZ hRm [128] 400 ?_
      show (((0 ≤ ((if (a3 = 0) then z3 else (-z3)) : Int32)) → AW Z 0 0 128 [none, none, none, none, none, some (.int (if (a3 = 0) then z3 else (-z3)))] [.int (5 * (if (a3 = 0) then z3 else (-z3))), .int (if (0 ≤ z4) then z4 else 0)] ([kR 0 v0] : List (List zE)).flatten) ∧ (¬ (0 ≤ ((if (a3 = 0) then z3 else (-z3)) : Int32)) → AW Z 0 0 128 [none, none, none, none, none, some (.int (if (a3 = 0) then z3 else (-z3)))] [.int 0, .int (if (0 ≤ z4) then z4 else 0)] ([kR 0 v0] : List (List zE)).flatten))
      refine ⟨fun c11 => ?_, fun c11 => ?_⟩
      · refine AW.forget [false, false, false, false, false, false] ?_
        show AW Z 0 0 128 [none, none, none, none, none, none] [.int (5 * (if (a3 = 0) then z3 else (-z3))), .int (if (0 ≤ z4) then z4 else 0)] ([kR 0 v0] : List (List zE)).flatten
        simpa only [if_pos c11] using H10
      · refine AW.forget [false, false, false, false, false, false] ?_
        show AW Z 0 0 128 [none, none, none, none, none, none] [.int 0, .int (if (0 ≤ z4) then z4 else 0)] ([kR 0 v0] : List (List zE)).flatten
        simpa only [if_neg c11] using H10
    replace hf := zlet_gen hf
    generalize ((if (0 ≤ ((if (a3 = 0) then z3 else (-z3)) : Int32)) then (5 * (if (a3 = 0) then z3 else (-z3))) else 0) : Int32) = z12 at hf ⊢
    refine AW.run hZ hRm [129] 400 ?_
    show AW Z 0 0 129 [none, none, none, none, none, none] [.int ((if (0 ≤ z4) then z4 else 0) + z12)] ([kR 0 v0] : List (List zE)).flatten
    cases hf
    exact AW.iret hZ hE rfl rfl rfl rfl (Nat.le_refl 0) (Nat.le_refl 0) rfl ⟨rfl, rfl⟩
  · rw [if_pos c7] at hf
    cases hf
    exact AW.iret hZ hE rfl rfl rfl rfl (Nat.le_refl 0) (Nat.le_refl 0) rfl ⟨rfl, rfl⟩
def f_R_allHarm_L5 (N : Nat) : Nat → VR → Int32 → Int32 → Int32 → Int32 → Option (Int32)
  | 0, _, _, _, _, _ => none
  | fuel + 1, v0, y1, y2, x3, x4 => ((f_R_people N v0).bind (fun q1 => (if (q1 ≤ x4) then (some x3) else ((f_R_harmOf N v0 y1 x4 y2).bind (fun q3 => (f_R_allHarm_L5 N fuel v0 y1 y2 (x3 + q3) (x4 + 1)))))))
def f_R_allHarm (N : Nat) (v0 : VR) (a1 : Int32) (a2 : Int32) : Option (Int32) := ((f_R_allHarm_L5 N N v0 a1 a2 0 0).bind (fun q6 => (some q6)))
set_option maxRecDepth 20000 in
set_option maxHeartbeats 4000000 in
theorem c_R_allHarm_L5 {Z : zCtx} {D n0w nf mcw msw : Nat} (hZ : zOk Z zMX12_allHarm) (hR : zCan Z D mcw msw) (hDd : 2 ≤ D) (hN : zNew Z n0w nf) (hRm : zRoom Z 0 0) (N : Nat) : ∀ (fuel : Nat) (v0 : VR) (y1 : Int32) (y2 : Int32) (x3 : Int32) (x4 : Int32) (q : (Int32)), f_R_allHarm_L5 N fuel v0 y1 y2 x3 x4 = some q → (AW Z 0 0 31 [none, none, none, some (.int q), none] [] ([kR 0 v0] : List (List zE)).flatten) → AW Z 0 0 5 [some (.ref 0), some (.int y1), some (.int y2), some (.int x3), some (.int x4)] [] ([kR 0 v0] : List (List zE)).flatten := by
  intro fuel
  induction fuel with
  | zero =>
    intro v0 y1 y2 x3 x4 q hf hk0
    simp [f_R_allHarm_L5] at hf
  | succ fuel ih =>
    intro v0 y1 y2 x3 x4 q hf hk0
    rw [f_R_allHarm_L5] at hf
    refine AW.run hZ hRm [8] 400 ?_
    show AW Z 0 0 8 [some (.ref 0), some (.int y1), some (.int y2), some (.int x3), some (.int x4)] [.ref 0, .int x4] ([kR 0 v0] : List (List zE)).flatten
    obtain ⟨q1, h5, hf⟩ := zbind hf
    refine AW.callVc hZ hR hN (c_R_people N v0 q1 h5) zMX12_people_ok rfl rfl zK_BorrowedLivesModel_291 zV_X12_people rfl [25] [0] [0, 1, 2, 3, 4, 5, 6, 7, 8, 9, 10, 11, 12, 13, 14, 15, 16, 17, 18, 19, 20, 21, 22, 23, 24] rfl rfl rfl (by decide) (by decide) (by omega) (by decide) (Nat.zero_le _) (Nat.zero_le _) rfl rfl rfl rfl rfl ?_
    rintro v cc ⟨rfl, rfl⟩
    refine ⟨_, rfl, rfl, ?_⟩
    show AW Z 0 0 11 [some (.ref 0), some (.int y1), some (.int y2), some (.int x3), some (.int x4)] [.int q1, .int x4] ([kR 0 v0] : List (List zE)).flatten
    refine AW.run hZ hRm [20, 31] 400 ?_
    show (((q1 ≤ x4) → AW Z 0 0 31 [some (.ref 0), some (.int y1), some (.int y2), some (.int x3), some (.int x4)] [] ([kR 0 v0] : List (List zE)).flatten) ∧ (¬ (q1 ≤ x4) → AW Z 0 0 20 [some (.ref 0), some (.int y1), some (.int y2), some (.int x3), some (.int x4)] [.int y2, .int x4, .int y1, .ref 0, .int x3] ([kR 0 v0] : List (List zE)).flatten))
    refine ⟨fun c2 => ?_, fun c2 => ?_⟩
    · rw [if_pos c2] at hf
      cases hf
      refine AW.forget [false, false, false, true, false] ?_
      show AW Z 0 0 31 [none, none, none, some (.int x3), none] [] ([kR 0 v0] : List (List zE)).flatten
      exact hk0
    · rw [if_neg c2] at hf
      obtain ⟨q3, h4, hf⟩ := zbind hf
      refine AW.callVc hZ hR hN (c_R_harmOf N v0 y1 x4 y2 q3 h4) zMX12_harmOf_ok rfl rfl zK_BorrowedLivesModel_349 zV_X12_harmOf rfl [25] [0] [0, 1, 2, 3, 4, 5, 6, 7, 8, 9, 10, 11, 12, 13, 14, 15, 16, 17, 18, 19, 20, 21, 22, 23, 24] rfl rfl rfl (by decide) (by decide) (by omega) (by decide) (Nat.zero_le _) (Nat.zero_le _) rfl rfl rfl rfl rfl ?_
      rintro v cc ⟨rfl, rfl⟩
      refine ⟨_, rfl, rfl, ?_⟩
      show AW Z 0 0 23 [some (.ref 0), some (.int y1), some (.int y2), some (.int x3), some (.int x4)] [.int q3, .int x3] ([kR 0 v0] : List (List zE)).flatten
      refine AW.run hZ hRm [5] 400 ?_
      show AW Z 0 0 5 [some (.ref 0), some (.int y1), some (.int y2), some (.int (x3 + q3)), some (.int (x4 + 1))] [] ([kR 0 v0] : List (List zE)).flatten
      exact ih v0 y1 y2 (x3 + q3) (x4 + 1) q hf hk0
set_option maxRecDepth 20000 in
set_option maxHeartbeats 4000000 in
theorem c_R_allHarm (N : Nat) (v0 : VR) (a1 : Int32) (a2 : Int32) (R : Int32) (hf : f_R_allHarm N v0 a1 a2 = some R) : Ct zMX12_allHarm 2 0 0 0 [.ref 0, .int a1, .int a2] ([kR 0 v0] : List (List zE)).flatten (fun v cc => v = some (.int R) ∧ cc = ([kR 0 v0] : List (List zE)).flatten) := by
  refine Ct.of zMX12_allHarm_ok (by decide) (Nat.le_of_ble_eq_true rfl) ?_
  intro Z hZ hR hN hE
  have hRm : zRoom Z 0 0 := zRoom0 Z
  unfold f_R_allHarm at hf
  show AW Z 0 0 0 [some (.ref 0), some (.int a1), some (.int a2), none, none] [] ([kR 0 v0] : List (List zE)).flatten
  refine AW.run hZ hRm [5] 400 ?_
  show AW Z 0 0 5 [some (.ref 0), some (.int a1), some (.int a2), some (.int 0), some (.int 0)] [] ([kR 0 v0] : List (List zE)).flatten
  obtain ⟨q6, h7, hf⟩ := zbind hf
  refine c_R_allHarm_L5 hZ hR (by omega) hN hRm N N v0 a1 a2 0 0 q6 h7 ?_
  show AW Z 0 0 31 [none, none, none, some (.int q6), none] [] ([kR 0 v0] : List (List zE)).flatten
  refine AW.run hZ hRm [32] 400 ?_
  show AW Z 0 0 32 [none, none, none, some (.int q6), none] [.int q6] ([kR 0 v0] : List (List zE)).flatten
  cases hf
  exact AW.iret hZ hE rfl rfl rfl rfl (Nat.le_refl 0) (Nat.le_refl 0) rfl ⟨rfl, rfl⟩
