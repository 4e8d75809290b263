def f_R_spendsAs (N : Nat) (v0 : VR) (a1 : Int32) (a2 : Int32) : Option ((Nat → Int32) × (Nat → Int32) × (Nat → Int32)) := (if (((a1 + 28) + a2) < 0 ∨ 1656 ≤ Int32.toNatClampNeg ((a1 + 28) + a2)) then none else ((f_R_personOf N v0 ((R_state v0) (Int32.toNatClampNeg ((a1 + 28) + a2))) 0).bind (fun q1 => ((f_R_laysFacts N v0 a1 a2 ((R_state v0) (Int32.toNatClampNeg ((a1 + 28) + a2))) (if (q1 = 2) then 1 else 0)).bind (fun q4 => (if (0 ≤ ((R_towns v0) (Int32.toNatClampNeg 3))) then ((f_R_worthAt N (R_facts_s v0 q4) ((R_towns v0) (Int32.toNatClampNeg 3))).bind (fun q6 => (zlet ((if (0 ≤ q6.1) then (if (q6.1 ≤ (R_signed v0)) then q6.1 else (R_signed v0)) else 0) : Int32) (fun z10 => (zlet ((if (z10 ≤ (q4 (Int32.toNatClampNeg 0))) then z10 else (q4 (Int32.toNatClampNeg 0))) : Int32) (fun z13 => (if (((a1 + 4) + a2) < 0 ∨ 1656 ≤ Int32.toNatClampNeg ((a1 + 4) + a2)) then none else (if (((a1 + 4) + a2) < 0 ∨ 1656 ≤ Int32.toNatClampNeg ((a1 + 4) + a2)) then none else (zlet ((upd (R_state v0) (Int32.toNatClampNeg ((a1 + 4) + a2)) (((R_state v0) (Int32.toNatClampNeg ((a1 + 4) + a2))) - (if (q1 = 1) then (z13 / 2) else z13))) : (Nat → Int32)) (fun z16 => (if (q1 = 2) then ((f_R_gets N (R_s_facts_pile_state v0 q4 q6.2 z16) a1 ((R_state v0) (Int32.toNatClampNeg ((a1 + 28) + a2))) (if (q1 = 1) then (z13 / 2) else z13)).bind (fun q46 => (some (q4, q6.2, q46)))) else (if (q1 = 3) then (if (((a1 + 10) + a2) < 0 ∨ 1656 ≤ Int32.toNatClampNeg ((a1 + 10) + a2)) then none else (if ((z16 (Int32.toNatClampNeg ((a1 + 10) + a2))) ≤ ((if (q1 = 1) then (z13 / 2) else z13) : Int32)) then (if (((a1 + 10) + a2) < 0 ∨ 1656 ≤ Int32.toNatClampNeg ((a1 + 10) + a2)) then none else (if (((a1 + 10) + a2) < 0 ∨ 1656 ≤ Int32.toNatClampNeg ((a1 + 10) + a2)) then none else (if (((a1 + 10) + a2) < 0 ∨ 1656 ≤ Int32.toNatClampNeg ((a1 + 10) + a2)) then none else (zlet ((upd z16 (Int32.toNatClampNeg ((a1 + 10) + a2)) ((z16 (Int32.toNatClampNeg ((a1 + 10) + a2))) - (z16 (Int32.toNatClampNeg ((a1 + 10) + a2))))) : (Nat → Int32)) (fun z20 => ((f_R_poorest N (R_s_facts_pile_state v0 q4 q6.2 z20) a1 a2).bind (fun q21 => (if (q21 < 0) then (some (q4, q6.2, z20)) else ((f_R_gets N (R_s_facts_pile_state v0 q4 q6.2 z20) a1 q21 ((if (q1 = 1) then (z13 / 2) else z13) - (z16 (Int32.toNatClampNeg ((a1 + 10) + a2))))).bind (fun q23 => (some (q4, q6.2, q23)))))))))))) else (if (((a1 + 10) + a2) < 0 ∨ 1656 ≤ Int32.toNatClampNeg ((a1 + 10) + a2)) then none else (if (((a1 + 10) + a2) < 0 ∨ 1656 ≤ Int32.toNatClampNeg ((a1 + 10) + a2)) then none else (zlet ((upd z16 (Int32.toNatClampNeg ((a1 + 10) + a2)) ((z16 (Int32.toNatClampNeg ((a1 + 10) + a2))) - (if (q1 = 1) then (z13 / 2) else z13))) : (Nat → Int32)) (fun z29 => ((f_R_poorest N (R_s_facts_pile_state v0 q4 q6.2 z29) a1 a2).bind (fun q30 => (if (q30 < 0) then (some (q4, q6.2, z29)) else ((f_R_gets N (R_s_facts_pile_state v0 q4 q6.2 z29) a1 q30 ((if (q1 = 1) then (z13 / 2) else z13) - (if (q1 = 1) then (z13 / 2) else z13))).bind (fun q32 => (some (q4, q6.2, q32))))))))))))) else (if (((a1 + 10) + a2) < 0 ∨ 1656 ≤ Int32.toNatClampNeg ((a1 + 10) + a2)) then none else (if (((a1 + 10) + a2) < 0 ∨ 1656 ≤ Int32.toNatClampNeg ((a1 + 10) + a2)) then none else (zlet ((upd z16 (Int32.toNatClampNeg ((a1 + 10) + a2)) ((z16 (Int32.toNatClampNeg ((a1 + 10) + a2))) - 0)) : (Nat → Int32)) (fun z38 => ((f_R_poorest N (R_s_facts_pile_state v0 q4 q6.2 z38) a1 a2).bind (fun q39 => (if (q39 < 0) then (some (q4, q6.2, z38)) else ((f_R_gets N (R_s_facts_pile_state v0 q4 q6.2 z38) a1 q39 ((if (q1 = 1) then (z13 / 2) else z13) - 0)).bind (fun q41 => (some (q4, q6.2, q41))))))))))))))))))))))) else (zlet ((if (0 ≤ ((q4 (Int32.toNatClampNeg 3)) * 2)) then (if (((q4 (Int32.toNatClampNeg 3)) * 2) ≤ (R_signed v0)) then ((q4 (Int32.toNatClampNeg 3)) * 2) else (R_signed v0)) else 0) : Int32) (fun z54 => (zlet ((if (z54 ≤ (q4 (Int32.toNatClampNeg 0))) then z54 else (q4 (Int32.toNatClampNeg 0))) : Int32) (fun z57 => (if (((a1 + 4) + a2) < 0 ∨ 1656 ≤ Int32.toNatClampNeg ((a1 + 4) + a2)) then none else (if (((a1 + 4) + a2) < 0 ∨ 1656 ≤ Int32.toNatClampNeg ((a1 + 4) + a2)) then none else (zlet ((upd (R_state v0) (Int32.toNatClampNeg ((a1 + 4) + a2)) (((R_state v0) (Int32.toNatClampNeg ((a1 + 4) + a2))) - (if (q1 = 1) then (z57 / 2) else z57))) : (Nat → Int32)) (fun z60 => (if (q1 = 2) then ((f_R_gets N (R_s_facts_state v0 q4 z60) a1 ((R_state v0) (Int32.toNatClampNeg ((a1 + 28) + a2))) (if (q1 = 1) then (z57 / 2) else z57)).bind (fun q90 => (some (q4, (R_pile v0), q90)))) else (if (q1 = 3) then (if (((a1 + 10) + a2) < 0 ∨ 1656 ≤ Int32.toNatClampNeg ((a1 + 10) + a2)) then none else (if ((z60 (Int32.toNatClampNeg ((a1 + 10) + a2))) ≤ ((if (q1 = 1) then (z57 / 2) else z57) : Int32)) then (if (((a1 + 10) + a2) < 0 ∨ 1656 ≤ Int32.toNatClampNeg ((a1 + 10) + a2)) then none else (if (((a1 + 10) + a2) < 0 ∨ 1656 ≤ Int32.toNatClampNeg ((a1 + 10) + a2)) then none else (if (((a1 + 10) + a2) < 0 ∨ 1656 ≤ Int32.toNatClampNeg ((a1 + 10) + a2)) then none else (zlet ((upd z60 (Int32.toNatClampNeg ((a1 + 10) + a2)) ((z60 (Int32.toNatClampNeg ((a1 + 10) + a2))) - (z60 (Int32.toNatClampNeg ((a1 + 10) + a2))))) : (Nat → Int32)) (fun z64 => ((f_R_poorest N (R_s_facts_state v0 q4 z64) a1 a2).bind (fun q65 => (if (q65 < 0) then (some (q4, (R_pile v0), z64)) else ((f_R_gets N (R_s_facts_state v0 q4 z64) a1 q65 ((if (q1 = 1) then (z57 / 2) else z57) - (z60 (Int32.toNatClampNeg ((a1 + 10) + a2))))).bind (fun q67 => (some (q4, (R_pile v0), q67)))))))))))) else (if (((a1 + 10) + a2) < 0 ∨ 1656 ≤ Int32.toNatClampNeg ((a1 + 10) + a2)) then none else (if (((a1 + 10) + a2) < 0 ∨ 1656 ≤ Int32.toNatClampNeg ((a1 + 10) + a2)) then none else (zlet ((upd z60 (Int32.toNatClampNeg ((a1 + 10) + a2)) ((z60 (Int32.toNatClampNeg ((a1 + 10) + a2))) - (if (q1 = 1) then (z57 / 2) else z57))) : (Nat → Int32)) (fun z73 => ((f_R_poorest N (R_s_facts_state v0 q4 z73) a1 a2).bind (fun q74 => (if (q74 < 0) then (some (q4, (R_pile v0), z73)) else ((f_R_gets N (R_s_facts_state v0 q4 z73) a1 q74 ((if (q1 = 1) then (z57 / 2) else z57) - (if (q1 = 1) then (z57 / 2) else z57))).bind (fun q76 => (some (q4, (R_pile v0), q76))))))))))))) else (if (((a1 + 10) + a2) < 0 ∨ 1656 ≤ Int32.toNatClampNeg ((a1 + 10) + a2)) then none else (if (((a1 + 10) + a2) < 0 ∨ 1656 ≤ Int32.toNatClampNeg ((a1 + 10) + a2)) then none else (zlet ((upd z60 (Int32.toNatClampNeg ((a1 + 10) + a2)) ((z60 (Int32.toNatClampNeg ((a1 + 10) + a2))) - 0)) : (Nat → Int32)) (fun z82 => ((f_R_poorest N (R_s_facts_state v0 q4 z82) a1 a2).bind (fun q83 => (if (q83 < 0) then (some (q4, (R_pile v0), z82)) else ((f_R_gets N (R_s_facts_state v0 q4 z82) a1 q83 ((if (q1 = 1) then (z57 / 2) else z57) - 0)).bind (fun q85 => (some (q4, (R_pile v0), q85)))))))))))))))))))))))))))
set_option maxRecDepth 20000 in
set_option maxHeartbeats 4000000 in
theorem c_R_spendsAs (N : Nat) (v0 : VR) (a1 : Int32) (a2 : Int32) (R : (Nat → Int32) × (Nat → Int32) × (Nat → Int32)) (hf : f_R_spendsAs N v0 a1 a2 = some R) : Ct zMX12_spendsAs 3 0 0 0 [.ref 0, .int a1, .int a2] ([kR 0 v0] : List (List zE)).flatten (fun v cc => v = none ∧ cc = ([kR 0 (R_s_facts_pile_state v0 R.1 R.2.1 R.2.2)] : List (List zE)).flatten) := by
  refine Ct.of zMX12_spendsAs_ok (by decide) (Nat.le_of_ble_eq_true rfl) ?_
  intro Z hZ hR hN hE
  have hRm : zRoom Z 0 0 := zRoom0 Z
  unfold f_R_spendsAs at hf
  show AW Z 0 0 0 [some (.ref 0), some (.int a1), some (.int a2), none, none, none, none, none] [] ([kR 0 v0] : List (List zE)).flatten
  refine AW.run hZ hRm [15] 400 ?_
  show (¬ (((a1 + 28) + a2) < 0 ∨ 1656 ≤ Int32.toNatClampNeg ((a1 + 28) + a2)) ∧ AW Z 0 0 15 [some (.ref 0), some (.int a1), some (.int a2), some (.int ((R_state v0) (Int32.toNatClampNeg ((a1 + 28) + a2)))), none, none, none, none] [.int 0, .int ((R_state v0) (Int32.toNatClampNeg ((a1 + 28) + a2))), .ref 0] ([kR 0 v0] : List (List zE)).flatten)
  obtain ⟨b96, hf⟩ := zneed hf
  refine ⟨b96, ?_⟩
  obtain ⟨q1, h95, hf⟩ := zbind hf
  refine AW.callVc hZ hR hN (c_R_personOf N v0 ((R_state v0) (Int32.toNatClampNeg ((a1 + 28) + a2))) 0 q1 h95) zMX12_personOf_ok rfl rfl zK_BorrowedLivesModel_294 zV_X12_personOf rfl [25] [0] [0, 1, 2, 3, 4, 5, 6, 7, 8, 9, 10, 11, 12, 13, 14, 15, 16, 17, 18, 19, 20, 21, 22, 23, 24] rfl rfl rfl (by decide) (by decide) (by omega) (by decide) (Nat.zero_le _) (Nat.zero_le _) rfl rfl rfl rfl rfl ?_
  rintro v cc ⟨rfl, rfl⟩
  refine ⟨_, rfl, rfl, ?_⟩
  show AW Z 0 0 18 [some (.ref 0), some (.int a1), some (.int a2), some (.int ((R_state v0) (Int32.toNatClampNeg ((a1 + 28) + a2)))), none, none, none, none] [.int q1] ([kR 0 v0] : List (List zE)).flatten
  refine AW.run hZ hRm [27] 400 ?_
  show AW Z 0 0 27 [some (.ref 0), some (.int a1), some (.int a2), some (.int ((R_state v0) (Int32.toNatClampNeg ((a1 + 28) + a2)))), some (.int q1), none, none, none] [.int 2, .int q1, .int ((R_state v0) (Int32.toNatClampNeg ((a1 + 28) + a2))), .int a2, .int a1, .ref 0] ([kR 0 v0] : List (List zE)).flatten
  suffices H2 : AW Z 0 0 35 [some (.ref 0), some (.int a1), some (.int a2), some (.int ((R_state v0) (Int32.toNatClampNeg ((a1 + 28) + a2)))), some (.int q1), none, none, none] [.int (if (q1 = 2) then 1 else 0), .int ((R_state v0) (Int32.toNatClampNeg ((a1 + 28) + a2))), .int a2, .int a1, .ref 0] ([kR 0 v0] : List (List zE)).flatten from by
    refine AW.run hZ hRm [35] 400 ?_
    show ((¬ (q1 = 2) → AW Z 0 0 35 [some (.ref 0), some (.int a1), some (.int a2), some (.int ((R_state v0) (Int32.toNatClampNeg ((a1 + 28) + a2)))), some (.int q1), none, none, none] [.int 0, .int ((R_state v0) (Int32.toNatClampNeg ((a1 + 28) + a2))), .int a2, .int a1, .ref 0] ([kR 0 v0] : List (List zE)).flatten) ∧ ((q1 = 2) → AW Z 0 0 35 [some (.ref 0), some (.int a1), some (.int a2), some (.int ((R_state v0) (Int32.toNatClampNeg ((a1 + 28) + a2)))), some (.int q1), none, none, none] [.int 1, .int ((R_state v0) (Int32.toNatClampNeg ((a1 + 28) + a2))), .int a2, .int a1, .ref 0] ([kR 0 v0] : List (List zE)).flatten))
    refine ⟨fun c3 => ?_, fun c3 => ?_⟩
    · simpa only [if_neg c3] using H2
    · simpa only [if_pos c3] using H2
  obtain ⟨q4, h94, hf⟩ := zbind hf
  refine AW.callVc hZ hR hN (c_R_laysFacts N v0 a1 a2 ((R_state v0) (Int32.toNatClampNeg ((a1 + 28) + a2))) (if (q1 = 2) then 1 else 0) q4 h94) zMX12_laysFacts_ok rfl rfl zK_BorrowedLivesModel_327 zV_X12_laysFacts rfl [25] [0] [0, 1, 2, 3, 4, 5, 6, 7, 8, 9, 10, 11, 12, 13, 14, 15, 16, 17, 18, 19, 20, 21, 22, 23, 24] rfl rfl rfl (by decide) (by decide) (by omega) (by decide) (Nat.zero_le _) (Nat.zero_le _) rfl rfl rfl rfl rfl ?_
  rintro v cc ⟨rfl, rfl⟩
  refine ⟨_, rfl, rfl, ?_⟩
  show AW Z 0 0 38 [some (.ref 0), some (.int a1), some (.int a2), some (.int ((R_state v0) (Int32.toNatClampNeg ((a1 + 28) + a2)))), some (.int q1), none, none, none] [] ([kR 0 (R_facts_s v0 q4)] : List (List zE)).flatten
  refine AW.run hZ hRm [65, 72] 400 ?_
  show (¬ ((3 : Int32) < 0 ∨ 160 ≤ Int32.toNatClampNeg 3) ∧ (((0 ≤ ((R_towns v0) (Int32.toNatClampNeg 3))) → (¬ ((3 : Int32) < 0 ∨ 160 ≤ Int32.toNatClampNeg 3) ∧ AW Z 0 0 65 [some (.ref 0), some (.int a1), some (.int a2), some (.int ((R_state v0) (Int32.toNatClampNeg ((a1 + 28) + a2)))), some (.int q1), none, none, none] [.int ((R_towns v0) (Int32.toNatClampNeg 3)), .ref 0] ([kR 0 (R_facts_s v0 q4)] : List (List zE)).flatten)) ∧ (¬ (0 ≤ ((R_towns v0) (Int32.toNatClampNeg 3))) → (¬ ((3 : Int32) < 0 ∨ 5 ≤ Int32.toNatClampNeg 3) ∧ AW Z 0 0 72 [some (.ref 0), some (.int a1), some (.int a2), some (.int ((R_state v0) (Int32.toNatClampNeg ((a1 + 28) + a2)))), some (.int q1), some (.int ((q4 (Int32.toNatClampNeg 3)) * 2)), none, none] [.int ((q4 (Int32.toNatClampNeg 3)) * 2)] ([kR 0 (R_facts_s v0 q4)] : List (List zE)).flatten))))
  refine ⟨(by decide), ?_⟩
  refine ⟨fun c5 => ?_, fun c5 => ?_⟩
  · rw [if_pos c5] at hf
    refine ⟨(by decide), ?_⟩
    obtain ⟨q6, h50, hf⟩ := zbind hf
    refine AW.callVc hZ hR hN (c_R_worthAt N (R_facts_s v0 q4) ((R_towns v0) (Int32.toNatClampNeg 3)) q6 h50) zMX12_worthAt_ok rfl rfl zK_BorrowedLivesModel_331 zV_X12_worthAt rfl [25] [0] [0, 1, 2, 3, 4, 5, 6, 7, 8, 9, 10, 11, 12, 13, 14, 15, 16, 17, 18, 19, 20, 21, 22, 23, 24] rfl rfl rfl (by decide) (by decide) (by omega) (by decide) (Nat.zero_le _) (Nat.zero_le _) rfl rfl rfl rfl rfl ?_
    rintro v cc ⟨rfl, rfl⟩
    refine ⟨_, rfl, rfl, ?_⟩
    show AW Z 0 0 68 [some (.ref 0), some (.int a1), some (.int a2), some (.int ((R_state v0) (Int32.toNatClampNeg ((a1 + 28) + a2)))), some (.int q1), none, none, none] [.int q6.1] ([kR 0 (R_s_facts_pile v0 q4 q6.2)] : List (List zE)).flatten
    refine AW.run hZ hRm [72] 400 ?_
    show AW Z 0 0 72 [some (.ref 0), some (.int a1), some (.int a2), some (.int ((R_state v0) (Int32.toNatClampNeg ((a1 + 28) + a2)))), some (.int q1), some (.int q6.1), none, none] [.int q6.1] ([kR 0 (R_s_facts_pile v0 q4 q6.2)] : List (List zE)).flatten
    suffices H7 : AW Z 0 0 97 [some (.ref 0), some (.int a1), some (.int a2), some (.int ((R_state v0) (Int32.toNatClampNeg ((a1 + 28) + a2)))), some (.int q1), none, none, none] [.int (if (0 ≤ q6.1) then (if (q6.1 ≤ (R_signed v0)) then q6.1 else (R_signed v0)) else 0)] ([kR 0 (R_s_facts_pile v0 q4 q6.2)] : List (List zE)).flatten from by
      refine AW.run hZ hRm [97] 400 ?_
      show (((0 ≤ q6.1) → (((q6.1 ≤ (R_signed v0)) → AW Z 0 0 97 [some (.ref 0), some (.int a1), some (.int a2), some (.int ((R_state v0) (Int32.toNatClampNeg ((a1 + 28) + a2)))), some (.int q1), some (.int q6.1), none, none] [.int q6.1] ([kR 0 (R_s_facts_pile v0 q4 q6.2)] : List (List zE)).flatten) ∧ (¬ (q6.1 ≤ (R_signed v0)) → AW Z 0 0 97 [some (.ref 0), some (.int a1), some (.int a2), some (.int ((R_state v0) (Int32.toNatClampNeg ((a1 + 28) + a2)))), some (.int q1), some (.int q6.1), none, none] [.int (R_signed v0)] ([kR 0 (R_s_facts_pile v0 q4 q6.2)] : List (List zE)).flatten))) ∧ (¬ (0 ≤ q6.1) → AW Z 0 0 97 [some (.ref 0), some (.int a1), some (.int a2), some (.int ((R_state v0) (Int32.toNatClampNeg ((a1 + 28) + a2)))), some (.int q1), some (.int q6.1), none, none] [.int 0] ([kR 0 (R_s_facts_pile v0 q4 q6.2)] : List (List zE)).flatten))
      refine ⟨fun c8 => ?_, fun c8 => ?_⟩
      · refine ⟨fun c9 => ?_, fun c9 => ?_⟩
        · refine AW.forget [true, true, true, true, true, false, false, false] ?_
          show AW Z 0 0 97 [some (.ref 0), some (.int a1), some (.int a2), some (.int ((R_state v0) (Int32.toNatClampNeg ((a1 + 28) + a2)))), some (.int q1), none, none, none] [.int q6.1] ([kR 0 (R_s_facts_pile v0 q4 q6.2)] : List (List zE)).flatten
          simpa only [if_pos c8, if_pos c9] using H7
        · refine AW.forget [true, true, true, true, true, false, false, false] ?_
          show AW Z 0 0 97 [some (.ref 0), some (.int a1), some (.int a2), some (.int ((R_state v0) (Int32.toNatClampNeg ((a1 + 28) + a2)))), some (.int q1), none, none, none] [.int (R_signed v0)] ([kR 0 (R_s_facts_pile v0 q4 q6.2)] : List (List zE)).flatten
          simpa only [if_pos c8, if_neg c9] using H7
      · refine AW.forget [true, true, true, true, true, false, false, false] ?_
        show AW Z 0 0 97 [some (.ref 0), some (.int a1), some (.int a2), some (.int ((R_state v0) (Int32.toNatClampNeg ((a1 + 28) + a2)))), some (.int q1), none, none, none] [.int 0] ([kR 0 (R_s_facts_pile v0 q4 q6.2)] : List (List zE)).flatten
        simpa only [if_neg c8] using H7
    replace hf := zlet_gen hf
    generalize ((if (0 ≤ q6.1) then (if (q6.1 ≤ (R_signed v0)) then q6.1 else (R_signed v0)) else 0) : Int32) = z10 at hf ⊢
    refine AW.run hZ hRm [107] 400 ?_
    show (¬ ((0 : Int32) < 0 ∨ 5 ≤ Int32.toNatClampNeg 0) ∧ AW Z 0 0 107 [some (.ref 0), some (.int a1), some (.int a2), some (.int ((R_state v0) (Int32.toNatClampNeg ((a1 + 28) + a2)))), some (.int q1), some (.int z10), none, none] [.int (q4 (Int32.toNatClampNeg 0)), .int z10] ([kR 0 (R_s_facts_pile v0 q4 q6.2)] : List (List zE)).flatten)
    refine ⟨(by decide), ?_⟩
    suffices H11 : AW Z 0 0 121 [some (.ref 0), some (.int a1), some (.int a2), some (.int ((R_state v0) (Int32.toNatClampNeg ((a1 + 28) + a2)))), some (.int q1), none, none, none] [.int (if (z10 ≤ (q4 (Int32.toNatClampNeg 0))) then z10 else (q4 (Int32.toNatClampNeg 0)))] ([kR 0 (R_s_facts_pile v0 q4 q6.2)] : List (List zE)).flatten from by
      refine AW.run hZ hRm [121] 400 ?_
      show (((z10 ≤ (q4 (Int32.toNatClampNeg 0))) → AW Z 0 0 121 [some (.ref 0), some (.int a1), some (.int a2), some (.int ((R_state v0) (Int32.toNatClampNeg ((a1 + 28) + a2)))), some (.int q1), some (.int z10), none, none] [.int z10] ([kR 0 (R_s_facts_pile v0 q4 q6.2)] : List (List zE)).flatten) ∧ (¬ (z10 ≤ (q4 (Int32.toNatClampNeg 0))) → (¬ ((0 : Int32) < 0 ∨ 5 ≤ Int32.toNatClampNeg 0) ∧ AW Z 0 0 121 [some (.ref 0), some (.int a1), some (.int a2), some (.int ((R_state v0) (Int32.toNatClampNeg ((a1 + 28) + a2)))), some (.int q1), some (.int z10), none, none] [.int (q4 (Int32.toNatClampNeg 0))] ([kR 0 (R_s_facts_pile v0 q4 q6.2)] : List (List zE)).flatten)))
      refine ⟨fun c12 => ?_, fun c12 => ?_⟩
      · refine AW.forget [true, true, true, true, true, false, false, false] ?_
        show AW Z 0 0 121 [some (.ref 0), some (.int a1), some (.int a2), some (.int ((R_state v0) (Int32.toNatClampNeg ((a1 + 28) + a2)))), some (.int q1), none, none, none] [.int z10] ([kR 0 (R_s_facts_pile v0 q4 q6.2)] : List (List zE)).flatten
        simpa only [if_pos c12] using H11
      · refine ⟨(by decide), ?_⟩
        refine AW.forget [true, true, true, true, true, false, false, false] ?_
        show AW Z 0 0 121 [some (.ref 0), some (.int a1), some (.int a2), some (.int ((R_state v0) (Int32.toNatClampNeg ((a1 + 28) + a2)))), some (.int q1), none, none, none] [.int (q4 (Int32.toNatClampNeg 0))] ([kR 0 (R_s_facts_pile v0 q4 q6.2)] : List (List zE)).flatten
        simpa only [if_neg c12] using H11
    replace hf := zlet_gen hf
    generalize ((if (z10 ≤ (q4 (Int32.toNatClampNeg 0))) then z10 else (q4 (Int32.toNatClampNeg 0))) : Int32) = z13 at hf ⊢
    refine AW.run hZ hRm [126] 400 ?_
    show AW Z 0 0 126 [some (.ref 0), some (.int a1), some (.int a2), some (.int ((R_state v0) (Int32.toNatClampNeg ((a1 + 28) + a2)))), some (.int q1), some (.int z13), none, none] [.int 1, .int q1] ([kR 0 (R_s_facts_pile v0 q4 q6.2)] : List (List zE)).flatten
    suffices H14 : AW Z 0 0 138 [some (.ref 0), some (.int a1), some (.int a2), some (.int ((R_state v0) (Int32.toNatClampNeg ((a1 + 28) + a2)))), some (.int q1), none, none, none] [.int (if (q1 = 1) then (z13 / 2) else z13)] ([kR 0 (R_s_facts_pile v0 q4 q6.2)] : List (List zE)).flatten from by
      refine AW.run hZ hRm [138] 400 ?_
      show ((¬ (q1 = 1) → AW Z 0 0 138 [some (.ref 0), some (.int a1), some (.int a2), some (.int ((R_state v0) (Int32.toNatClampNeg ((a1 + 28) + a2)))), some (.int q1), some (.int z13), none, none] [.int z13] ([kR 0 (R_s_facts_pile v0 q4 q6.2)] : List (List zE)).flatten) ∧ ((q1 = 1) → (¬ ((2 : Int32) = 0) ∧ AW Z 0 0 138 [some (.ref 0), some (.int a1), some (.int a2), some (.int ((R_state v0) (Int32.toNatClampNeg ((a1 + 28) + a2)))), some (.int q1), some (.int z13), none, none] [.int (z13 / 2)] ([kR 0 (R_s_facts_pile v0 q4 q6.2)] : List (List zE)).flatten)))
      refine ⟨fun c15 => ?_, fun c15 => ?_⟩
      · refine AW.forget [true, true, true, true, true, false, false, false] ?_
        show AW Z 0 0 138 [some (.ref 0), some (.int a1), some (.int a2), some (.int ((R_state v0) (Int32.toNatClampNeg ((a1 + 28) + a2)))), some (.int q1), none, none, none] [.int z13] ([kR 0 (R_s_facts_pile v0 q4 q6.2)] : List (List zE)).flatten
        simpa only [if_neg c15] using H14
      · refine ⟨(by decide), ?_⟩
        refine AW.forget [true, true, true, true, true, false, false, false] ?_
        show AW Z 0 0 138 [some (.ref 0), some (.int a1), some (.int a2), some (.int ((R_state v0) (Int32.toNatClampNeg ((a1 + 28) + a2)))), some (.int q1), none, none, none] [.int (z13 / 2)] ([kR 0 (R_s_facts_pile v0 q4 q6.2)] : List (List zE)).flatten
        simpa only [if_pos c15] using H14
    refine AW.run hZ hRm [155] 400 ?_
    show (¬ (((a1 + 4) + a2) < 0 ∨ 1656 ≤ Int32.toNatClampNeg ((a1 + 4) + a2)) ∧ (¬ (((a1 + 4) + a2) < 0 ∨ 1656 ≤ Int32.toNatClampNeg ((a1 + 4) + a2)) ∧ AW Z 0 0 155 [some (.ref 0), some (.int a1), some (.int a2), some (.int ((R_state v0) (Int32.toNatClampNeg ((a1 + 28) + a2)))), some (.int q1), some (.int (if (q1 = 1) then (z13 / 2) else z13)), none, none] [] ([kR 0 (R_s_facts_pile_state v0 q4 q6.2 (upd (R_state v0) (Int32.toNatClampNeg ((a1 + 4) + a2)) (((R_state v0) (Int32.toNatClampNeg ((a1 + 4) + a2))) - (if (q1 = 1) then (z13 / 2) else z13))))] : List (List zE)).flatten))
    obtain ⟨b49, hf⟩ := zneed hf
    refine ⟨b49, ?_⟩
    obtain ⟨b48, hf⟩ := zneed hf
    refine ⟨b48, ?_⟩
    replace hf := zlet_gen hf
    generalize ((upd (R_state v0) (Int32.toNatClampNeg ((a1 + 4) + a2)) (((R_state v0) (Int32.toNatClampNeg ((a1 + 4) + a2))) - (if (q1 = 1) then (z13 / 2) else z13))) : (Nat → Int32)) = z16 at hf ⊢
    as_aux_lemma =>
      refine AW.run hZ hRm [166, 230] 400 ?_
      show ((¬ (q1 = 2) → (((q1 = 3) → (¬ (((a1 + 10) + a2) < 0 ∨ 1656 ≤ Int32.toNatClampNeg ((a1 + 10) + a2)) ∧ ((((z16 (Int32.toNatClampNeg ((a1 + 10) + a2))) ≤ ((if (q1 = 1) then (z13 / 2) else z13) : Int32)) → (¬ (((a1 + 10) + a2) < 0 ∨ 1656 ≤ Int32.toNatClampNeg ((a1 + 10) + a2)) ∧ (¬ (((a1 + 10) + a2) < 0 ∨ 1656 ≤ Int32.toNatClampNeg ((a1 + 10) + a2)) ∧ (¬ (((a1 + 10) + a2) < 0 ∨ 1656 ≤ Int32.toNatClampNeg ((a1 + 10) + a2)) ∧ AW Z 0 0 230 [some (.ref 0), some (.int a1), some (.int a2), some (.int ((R_state v0) (Int32.toNatClampNeg ((a1 + 28) + a2)))), some (.int q1), some (.int (if (q1 = 1) then (z13 / 2) else z13)), some (.int (z16 (Int32.toNatClampNeg ((a1 + 10) + a2)))), none] [] ([kR 0 (R_s_facts_pile_state v0 q4 q6.2 (upd z16 (Int32.toNatClampNeg ((a1 + 10) + a2)) ((z16 (Int32.toNatClampNeg ((a1 + 10) + a2))) - (z16 (Int32.toNatClampNeg ((a1 + 10) + a2))))))] : List (List zE)).flatten)))) ∧ (¬ ((z16 (Int32.toNatClampNeg ((a1 + 10) + a2))) ≤ ((if (q1 = 1) then (z13 / 2) else z13) : Int32)) → (¬ (((a1 + 10) + a2) < 0 ∨ 1656 ≤ Int32.toNatClampNeg ((a1 + 10) + a2)) ∧ (¬ (((a1 + 10) + a2) < 0 ∨ 1656 ≤ Int32.toNatClampNeg ((a1 + 10) + a2)) ∧ AW Z 0 0 230 [some (.ref 0), some (.int a1), some (.int a2), some (.int ((R_state v0) (Int32.toNatClampNeg ((a1 + 28) + a2)))), some (.int q1), some (.int (if (q1 = 1) then (z13 / 2) else z13)), some (.int (if (q1 = 1) then (z13 / 2) else z13)), none] [] ([kR 0 (R_s_facts_pile_state v0 q4 q6.2 (upd z16 (Int32.toNatClampNeg ((a1 + 10) + a2)) ((z16 (Int32.toNatClampNeg ((a1 + 10) + a2))) - (if (q1 = 1) then (z13 / 2) else z13))))] : List (List zE)).flatten)))))) ∧ (¬ (q1 = 3) → (¬ (((a1 + 10) + a2) < 0 ∨ 1656 ≤ Int32.toNatClampNeg ((a1 + 10) + a2)) ∧ (¬ (((a1 + 10) + a2) < 0 ∨ 1656 ≤ Int32.toNatClampNeg ((a1 + 10) + a2)) ∧ AW Z 0 0 230 [some (.ref 0), some (.int a1), some (.int a2), some (.int ((R_state v0) (Int32.toNatClampNeg ((a1 + 28) + a2)))), some (.int q1), some (.int (if (q1 = 1) then (z13 / 2) else z13)), some (.int 0), none] [] ([kR 0 (R_s_facts_pile_state v0 q4 q6.2 (upd z16 (Int32.toNatClampNeg ((a1 + 10) + a2)) ((z16 (Int32.toNatClampNeg ((a1 + 10) + a2))) - 0)))] : List (List zE)).flatten))))) ∧ ((q1 = 2) → AW Z 0 0 166 [some (.ref 0), some (.int a1), some (.int a2), some (.int ((R_state v0) (Int32.toNatClampNeg ((a1 + 28) + a2)))), some (.int q1), some (.int (if (q1 = 1) then (z13 / 2) else z13)), none, none] [.int (if (q1 = 1) then (z13 / 2) else z13), .int ((R_state v0) (Int32.toNatClampNeg ((a1 + 28) + a2))), .int a1, .ref 0] ([kR 0 (R_s_facts_pile_state v0 q4 q6.2 z16)] : List (List zE)).flatten))
      refine ⟨fun c17 => ?_, fun c17 => ?_⟩
      · rw [if_neg c17] at hf
        refine ⟨fun c18 => ?_, fun c18 => ?_⟩
        · rw [if_pos c18] at hf
          obtain ⟨b37, hf⟩ := zneed hf
          refine ⟨b37, ?_⟩
          refine ⟨fun c19 => ?_, fun c19 => ?_⟩
          · rw [if_pos c19] at hf
            obtain ⟨b28, hf⟩ := zneed hf
            refine ⟨b28, ?_⟩
            obtain ⟨b27, hf⟩ := zneed hf
            refine ⟨b27, ?_⟩
            obtain ⟨b26, hf⟩ := zneed hf
            refine ⟨b26, ?_⟩
            replace hf := zlet_gen hf
            generalize ((upd z16 (Int32.toNatClampNeg ((a1 + 10) + a2)) ((z16 (Int32.toNatClampNeg ((a1 + 10) + a2))) - (z16 (Int32.toNatClampNeg ((a1 + 10) + a2))))) : (Nat → Int32)) = z20 at hf ⊢
            as_aux_lemma =>
              refine AW.run hZ hRm [233] 400 ?_
              show AW Z 0 0 233 [some (.ref 0), some (.int a1), some (.int a2), some (.int ((R_state v0) (Int32.toNatClampNeg ((a1 + 28) + a2)))), some (.int q1), some (.int (if (q1 = 1) then (z13 / 2) else z13)), some (.int (z16 (Int32.toNatClampNeg ((a1 + 10) + a2)))), none] [.int a2, .int a1, .ref 0] ([kR 0 (R_s_facts_pile_state v0 q4 q6.2 z20)] : List (List zE)).flatten
              obtain ⟨q21, h25, hf⟩ := zbind hf
              refine AW.callVc hZ hR hN (c_R_poorest N (R_s_facts_pile_state v0 q4 q6.2 z20) a1 a2 q21 h25) zMX12_poorest_ok rfl rfl zK_BorrowedLivesModel_337 zV_X12_poorest rfl [25] [0] [0, 1, 2, 3, 4, 5, 6, 7, 8, 9, 10, 11, 12, 13, 14, 15, 16, 17, 18, 19, 20, 21, 22, 23, 24] rfl rfl rfl (by decide) (by decide) (by omega) (by decide) (Nat.zero_le _) (Nat.zero_le _) rfl rfl rfl rfl rfl ?_
              rintro v cc ⟨rfl, rfl⟩
              refine ⟨_, rfl, rfl, ?_⟩
              show AW Z 0 0 236 [some (.ref 0), some (.int a1), some (.int a2), some (.int ((R_state v0) (Int32.toNatClampNeg ((a1 + 28) + a2)))), some (.int q1), some (.int (if (q1 = 1) then (z13 / 2) else z13)), some (.int (z16 (Int32.toNatClampNeg ((a1 + 10) + a2)))), none] [.int q21] ([kR 0 (R_s_facts_pile_state v0 q4 q6.2 z20)] : List (List zE)).flatten
              refine AW.run hZ hRm [252, 255] 400 ?_
              show (((q21 < 0) → AW Z 0 0 255 [some (.ref 0), some (.int a1), some (.int a2), some (.int ((R_state v0) (Int32.toNatClampNeg ((a1 + 28) + a2)))), some (.int q1), some (.int (if (q1 = 1) then (z13 / 2) else z13)), some (.int (z16 (Int32.toNatClampNeg ((a1 + 10) + a2)))), some (.int q21)] [] ([kR 0 (R_s_facts_pile_state v0 q4 q6.2 z20)] : List (List zE)).flatten) ∧ (¬ (q21 < 0) → AW Z 0 0 252 [some (.ref 0), some (.int a1), some (.int a2), some (.int ((R_state v0) (Int32.toNatClampNeg ((a1 + 28) + a2)))), some (.int q1), some (.int (if (q1 = 1) then (z13 / 2) else z13)), some (.int (z16 (Int32.toNatClampNeg ((a1 + 10) + a2)))), some (.int q21)] [.int ((if (q1 = 1) then (z13 / 2) else z13) - (z16 (Int32.toNatClampNeg ((a1 + 10) + a2)))), .int q21, .int a1, .ref 0] ([kR 0 (R_s_facts_pile_state v0 q4 q6.2 z20)] : List (List zE)).flatten))
              refine ⟨fun c22 => ?_, fun c22 => ?_⟩
              · rw [if_pos c22] at hf
                cases hf
                exact AW.vret hZ hE rfl rfl rfl (Nat.le_refl 0) (Nat.le_refl 0) rfl ⟨rfl, rfl⟩
              · rw [if_neg c22] at hf
                obtain ⟨q23, h24, hf⟩ := zbind hf
                refine AW.callVc hZ hR hN (c_R_gets N (R_s_facts_pile_state v0 q4 q6.2 z20) a1 q21 ((if (q1 = 1) then (z13 / 2) else z13) - (z16 (Int32.toNatClampNeg ((a1 + 10) + a2)))) q23 h24) zMX12_gets_ok rfl rfl zK_BorrowedLivesModel_334 zV_X12_gets rfl [25] [0] [0, 1, 2, 3, 4, 5, 6, 7, 8, 9, 10, 11, 12, 13, 14, 15, 16, 17, 18, 19, 20, 21, 22, 23, 24] rfl rfl rfl (by decide) (by decide) (by omega) (by decide) (Nat.zero_le _) (Nat.zero_le _) rfl rfl rfl rfl rfl ?_
                rintro v cc ⟨rfl, rfl⟩
                refine ⟨_, rfl, rfl, ?_⟩
                show AW Z 0 0 255 [some (.ref 0), some (.int a1), some (.int a2), some (.int ((R_state v0) (Int32.toNatClampNeg ((a1 + 28) + a2)))), some (.int q1), some (.int (if (q1 = 1) then (z13 / 2) else z13)), some (.int (z16 (Int32.toNatClampNeg ((a1 + 10) + a2)))), some (.int q21)] [] ([kR 0 (R_s_facts_pile_state v0 q4 q6.2 q23)] : List (List zE)).flatten
                cases hf
                exact AW.vret hZ hE rfl rfl rfl (Nat.le_refl 0) (Nat.le_refl 0) rfl ⟨rfl, rfl⟩
          · rw [if_neg c19] at hf
            obtain ⟨b36, hf⟩ := zneed hf
            refine ⟨b36, ?_⟩
            obtain ⟨b35, hf⟩ := zneed hf
            refine ⟨b35, ?_⟩
            replace hf := zlet_gen hf
            generalize ((upd z16 (Int32.toNatClampNeg ((a1 + 10) + a2)) ((z16 (Int32.toNatClampNeg ((a1 + 10) + a2))) - (if (q1 = 1) then (z13 / 2) else z13))) : (Nat → Int32)) = z29 at hf ⊢
            as_aux_lemma =>
              refine AW.run hZ hRm [233] 400 ?_
              show AW Z 0 0 233 [some (.ref 0), some (.int a1), some (.int a2), some (.int ((R_state v0) (Int32.toNatClampNeg ((a1 + 28) + a2)))), some (.int q1), some (.int (if (q1 = 1) then (z13 / 2) else z13)), some (.int (if (q1 = 1) then (z13 / 2) else z13)), none] [.int a2, .int a1, .ref 0] ([kR 0 (R_s_facts_pile_state v0 q4 q6.2 z29)] : List (List zE)).flatten
              obtain ⟨q30, h34, hf⟩ := zbind hf
              refine AW.callVc hZ hR hN (c_R_poorest N (R_s_facts_pile_state v0 q4 q6.2 z29) a1 a2 q30 h34) zMX12_poorest_ok rfl rfl zK_BorrowedLivesModel_337 zV_X12_poorest rfl [25] [0] [0, 1, 2, 3, 4, 5, 6, 7, 8, 9, 10, 11, 12, 13, 14, 15, 16, 17, 18, 19, 20, 21, 22, 23, 24] rfl rfl rfl (by decide) (by decide) (by omega) (by decide) (Nat.zero_le _) (Nat.zero_le _) rfl rfl rfl rfl rfl ?_
              rintro v cc ⟨rfl, rfl⟩
              refine ⟨_, rfl, rfl, ?_⟩
              show AW Z 0 0 236 [some (.ref 0), some (.int a1), some (.int a2), some (.int ((R_state v0) (Int32.toNatClampNeg ((a1 + 28) + a2)))), some (.int q1), some (.int (if (q1 = 1) then (z13 / 2) else z13)), some (.int (if (q1 = 1) then (z13 / 2) else z13)), none] [.int q30] ([kR 0 (R_s_facts_pile_state v0 q4 q6.2 z29)] : List (List zE)).flatten
              refine AW.run hZ hRm [252, 255] 400 ?_
              show (((q30 < 0) → AW Z 0 0 255 [some (.ref 0), some (.int a1), some (.int a2), some (.int ((R_state v0) (Int32.toNatClampNeg ((a1 + 28) + a2)))), some (.int q1), some (.int (if (q1 = 1) then (z13 / 2) else z13)), some (.int (if (q1 = 1) then (z13 / 2) else z13)), some (.int q30)] [] ([kR 0 (R_s_facts_pile_state v0 q4 q6.2 z29)] : List (List zE)).flatten) ∧ (¬ (q30 < 0) → AW Z 0 0 252 [some (.ref 0), some (.int a1), some (.int a2), some (.int ((R_state v0) (Int32.toNatClampNeg ((a1 + 28) + a2)))), some (.int q1), some (.int (if (q1 = 1) then (z13 / 2) else z13)), some (.int (if (q1 = 1) then (z13 / 2) else z13)), some (.int q30)] [.int ((if (q1 = 1) then (z13 / 2) else z13) - (if (q1 = 1) then (z13 / 2) else z13)), .int q30, .int a1, .ref 0] ([kR 0 (R_s_facts_pile_state v0 q4 q6.2 z29)] : List (List zE)).flatten))
              refine ⟨fun c31 => ?_, fun c31 => ?_⟩
              · rw [if_pos c31] at hf
                cases hf
                exact AW.vret hZ hE rfl rfl rfl (Nat.le_refl 0) (Nat.le_refl 0) rfl ⟨rfl, rfl⟩
              · rw [if_neg c31] at hf
                obtain ⟨q32, h33, hf⟩ := zbind hf
                refine AW.callVc hZ hR hN (c_R_gets N (R_s_facts_pile_state v0 q4 q6.2 z29) a1 q30 ((if (q1 = 1) then (z13 / 2) else z13) - (if (q1 = 1) then (z13 / 2) else z13)) q32 h33) zMX12_gets_ok rfl rfl zK_BorrowedLivesModel_334 zV_X12_gets rfl [25] [0] [0, 1, 2, 3, 4, 5, 6, 7, 8, 9, 10, 11, 12, 13, 14, 15, 16, 17, 18, 19, 20, 21, 22, 23, 24] rfl rfl rfl (by decide) (by decide) (by omega) (by decide) (Nat.zero_le _) (Nat.zero_le _) rfl rfl rfl rfl rfl ?_
                rintro v cc ⟨rfl, rfl⟩
                refine ⟨_, rfl, rfl, ?_⟩
                show AW Z 0 0 255 [some (.ref 0), some (.int a1), some (.int a2), some (.int ((R_state v0) (Int32.toNatClampNeg ((a1 + 28) + a2)))), some (.int q1), some (.int (if (q1 = 1) then (z13 / 2) else z13)), some (.int (if (q1 = 1) then (z13 / 2) else z13)), some (.int q30)] [] ([kR 0 (R_s_facts_pile_state v0 q4 q6.2 q32)] : List (List zE)).flatten
                cases hf
                exact AW.vret hZ hE rfl rfl rfl (Nat.le_refl 0) (Nat.le_refl 0) rfl ⟨rfl, rfl⟩
        · rw [if_neg c18] at hf
          obtain ⟨b45, hf⟩ := zneed hf
          refine ⟨b45, ?_⟩
          obtain ⟨b44, hf⟩ := zneed hf
          refine ⟨b44, ?_⟩
          replace hf := zlet_gen hf
          generalize ((upd z16 (Int32.toNatClampNeg ((a1 + 10) + a2)) ((z16 (Int32.toNatClampNeg ((a1 + 10) + a2))) - 0)) : (Nat → Int32)) = z38 at hf ⊢
          as_aux_lemma =>
            refine AW.run hZ hRm [233] 400 ?_
            show AW Z 0 0 233 [some (.ref 0), some (.int a1), some (.int a2), some (.int ((R_state v0) (Int32.toNatClampNeg ((a1 + 28) + a2)))), some (.int q1), some (.int (if (q1 = 1) then (z13 / 2) else z13)), some (.int 0), none] [.int a2, .int a1, .ref 0] ([kR 0 (R_s_facts_pile_state v0 q4 q6.2 z38)] : List (List zE)).flatten
            obtain ⟨q39, h43, hf⟩ := zbind hf
            refine AW.callVc hZ hR hN (c_R_poorest N (R_s_facts_pile_state v0 q4 q6.2 z38) a1 a2 q39 h43) zMX12_poorest_ok rfl rfl zK_BorrowedLivesModel_337 zV_X12_poorest rfl [25] [0] [0, 1, 2, 3, 4, 5, 6, 7, 8, 9, 10, 11, 12, 13, 14, 15, 16, 17, 18, 19, 20, 21, 22, 23, 24] rfl rfl rfl (by decide) (by decide) (by omega) (by decide) (Nat.zero_le _) (Nat.zero_le _) rfl rfl rfl rfl rfl ?_
            rintro v cc ⟨rfl, rfl⟩
            refine ⟨_, rfl, rfl, ?_⟩
            show AW Z 0 0 236 [some (.ref 0), some (.int a1), some (.int a2), some (.int ((R_state v0) (Int32.toNatClampNeg ((a1 + 28) + a2)))), some (.int q1), some (.int (if (q1 = 1) then (z13 / 2) else z13)), some (.int 0), none] [.int q39] ([kR 0 (R_s_facts_pile_state v0 q4 q6.2 z38)] : List (List zE)).flatten
            refine AW.run hZ hRm [252, 255] 400 ?_
            show (((q39 < 0) → AW Z 0 0 255 [some (.ref 0), some (.int a1), some (.int a2), some (.int ((R_state v0) (Int32.toNatClampNeg ((a1 + 28) + a2)))), some (.int q1), some (.int (if (q1 = 1) then (z13 / 2) else z13)), some (.int 0), some (.int q39)] [] ([kR 0 (R_s_facts_pile_state v0 q4 q6.2 z38)] : List (List zE)).flatten) ∧ (¬ (q39 < 0) → AW Z 0 0 252 [some (.ref 0), some (.int a1), some (.int a2), some (.int ((R_state v0) (Int32.toNatClampNeg ((a1 + 28) + a2)))), some (.int q1), some (.int (if (q1 = 1) then (z13 / 2) else z13)), some (.int 0), some (.int q39)] [.int ((if (q1 = 1) then (z13 / 2) else z13) - 0), .int q39, .int a1, .ref 0] ([kR 0 (R_s_facts_pile_state v0 q4 q6.2 z38)] : List (List zE)).flatten))
            refine ⟨fun c40 => ?_, fun c40 => ?_⟩
            · rw [if_pos c40] at hf
              cases hf
              exact AW.vret hZ hE rfl rfl rfl (Nat.le_refl 0) (Nat.le_refl 0) rfl ⟨rfl, rfl⟩
            · rw [if_neg c40] at hf
              obtain ⟨q41, h42, hf⟩ := zbind hf
              refine AW.callVc hZ hR hN (c_R_gets N (R_s_facts_pile_state v0 q4 q6.2 z38) a1 q39 ((if (q1 = 1) then (z13 / 2) else z13) - 0) q41 h42) zMX12_gets_ok rfl rfl zK_BorrowedLivesModel_334 zV_X12_gets rfl [25] [0] [0, 1, 2, 3, 4, 5, 6, 7, 8, 9, 10, 11, 12, 13, 14, 15, 16, 17, 18, 19, 20, 21, 22, 23, 24] rfl rfl rfl (by decide) (by decide) (by omega) (by decide) (Nat.zero_le _) (Nat.zero_le _) rfl rfl rfl rfl rfl ?_
              rintro v cc ⟨rfl, rfl⟩
              refine ⟨_, rfl, rfl, ?_⟩
              show AW Z 0 0 255 [some (.ref 0), some (.int a1), some (.int a2), some (.int ((R_state v0) (Int32.toNatClampNeg ((a1 + 28) + a2)))), some (.int q1), some (.int (if (q1 = 1) then (z13 / 2) else z13)), some (.int 0), some (.int q39)] [] ([kR 0 (R_s_facts_pile_state v0 q4 q6.2 q41)] : List (List zE)).flatten
              cases hf
              exact AW.vret hZ hE rfl rfl rfl (Nat.le_refl 0) (Nat.le_refl 0) rfl ⟨rfl, rfl⟩
      · rw [if_pos c17] at hf
        obtain ⟨q46, h47, hf⟩ := zbind hf
        refine AW.callVc hZ hR hN (c_R_gets N (R_s_facts_pile_state v0 q4 q6.2 z16) a1 ((R_state v0) (Int32.toNatClampNeg ((a1 + 28) + a2))) (if (q1 = 1) then (z13 / 2) else z13) q46 h47) zMX12_gets_ok rfl rfl zK_BorrowedLivesModel_334 zV_X12_gets rfl [25] [0] [0, 1, 2, 3, 4, 5, 6, 7, 8, 9, 10, 11, 12, 13, 14, 15, 16, 17, 18, 19, 20, 21, 22, 23, 24] rfl rfl rfl (by decide) (by decide) (by omega) (by decide) (Nat.zero_le _) (Nat.zero_le _) rfl rfl rfl rfl rfl ?_
        rintro v cc ⟨rfl, rfl⟩
        refine ⟨_, rfl, rfl, ?_⟩
        show AW Z 0 0 169 [some (.ref 0), some (.int a1), some (.int a2), some (.int ((R_state v0) (Int32.toNatClampNeg ((a1 + 28) + a2)))), some (.int q1), some (.int (if (q1 = 1) then (z13 / 2) else z13)), none, none] [] ([kR 0 (R_s_facts_pile_state v0 q4 q6.2 q46)] : List (List zE)).flatten
        cases hf
        exact AW.vret hZ hE rfl rfl rfl (Nat.le_refl 0) (Nat.le_refl 0) rfl ⟨rfl, rfl⟩
  · rw [if_neg c5] at hf
    refine ⟨(by decide), ?_⟩
    suffices H51 : AW Z 0 0 97 [some (.ref 0), some (.int a1), some (.int a2), some (.int ((R_state v0) (Int32.toNatClampNeg ((a1 + 28) + a2)))), some (.int q1), none, none, none] [.int (if (0 ≤ ((q4 (Int32.toNatClampNeg 3)) * 2)) then (if (((q4 (Int32.toNatClampNeg 3)) * 2) ≤ (R_signed v0)) then ((q4 (Int32.toNatClampNeg 3)) * 2) else (R_signed v0)) else 0)] ([kR 0 (R_facts_s v0 q4)] : List (List zE)).flatten from by
      refine AW.run hZ hRm [97] 400 ?_
      show (((0 ≤ ((q4 (Int32.toNatClampNeg 3)) * 2)) → (((((q4 (Int32.toNatClampNeg 3)) * 2) ≤ (R_signed v0)) → AW Z 0 0 97 [some (.ref 0), some (.int a1), some (.int a2), some (.int ((R_state v0) (Int32.toNatClampNeg ((a1 + 28) + a2)))), some (.int q1), some (.int ((q4 (Int32.toNatClampNeg 3)) * 2)), none, none] [.int ((q4 (Int32.toNatClampNeg 3)) * 2)] ([kR 0 (R_facts_s v0 q4)] : List (List zE)).flatten) ∧ (¬ (((q4 (Int32.toNatClampNeg 3)) * 2) ≤ (R_signed v0)) → AW Z 0 0 97 [some (.ref 0), some (.int a1), some (.int a2), some (.int ((R_state v0) (Int32.toNatClampNeg ((a1 + 28) + a2)))), some (.int q1), some (.int ((q4 (Int32.toNatClampNeg 3)) * 2)), none, none] [.int (R_signed v0)] ([kR 0 (R_facts_s v0 q4)] : List (List zE)).flatten))) ∧ (¬ (0 ≤ ((q4 (Int32.toNatClampNeg 3)) * 2)) → AW Z 0 0 97 [some (.ref 0), some (.int a1), some (.int a2), some (.int ((R_state v0) (Int32.toNatClampNeg ((a1 + 28) + a2)))), some (.int q1), some (.int ((q4 (Int32.toNatClampNeg 3)) * 2)), none, none] [.int 0] ([kR 0 (R_facts_s v0 q4)] : List (List zE)).flatten))
      refine ⟨fun c52 => ?_, fun c52 => ?_⟩
      · refine ⟨fun c53 => ?_, fun c53 => ?_⟩
        · refine AW.forget [true, true, true, true, true, false, false, false] ?_
          show AW Z 0 0 97 [some (.ref 0), some (.int a1), some (.int a2), some (.int ((R_state v0) (Int32.toNatClampNeg ((a1 + 28) + a2)))), some (.int q1), none, none, none] [.int ((q4 (Int32.toNatClampNeg 3)) * 2)] ([kR 0 (R_facts_s v0 q4)] : List (List zE)).flatten
          simpa only [if_pos c52, if_pos c53] using H51
        · refine AW.forget [true, true, true, true, true, false, false, false] ?_
          show AW Z 0 0 97 [some (.ref 0), some (.int a1), some (.int a2), some (.int ((R_state v0) (Int32.toNatClampNeg ((a1 + 28) + a2)))), some (.int q1), none, none, none] [.int (R_signed v0)] ([kR 0 (R_facts_s v0 q4)] : List (List zE)).flatten
          simpa only [if_pos c52, if_neg c53] using H51
      · refine AW.forget [true, true, true, true, true, false, false, false] ?_
        show AW Z 0 0 97 [some (.ref 0), some (.int a1), some (.int a2), some (.int ((R_state v0) (Int32.toNatClampNeg ((a1 + 28) + a2)))), some (.int q1), none, none, none] [.int 0] ([kR 0 (R_facts_s v0 q4)] : List (List zE)).flatten
        simpa only [if_neg c52] using H51
    replace hf := zlet_gen hf
    generalize ((if (0 ≤ ((q4 (Int32.toNatClampNeg 3)) * 2)) then (if (((q4 (Int32.toNatClampNeg 3)) * 2) ≤ (R_signed v0)) then ((q4 (Int32.toNatClampNeg 3)) * 2) else (R_signed v0)) else 0) : Int32) = z54 at hf ⊢
    refine AW.run hZ hRm [107] 400 ?_
    show (¬ ((0 : Int32) < 0 ∨ 5 ≤ Int32.toNatClampNeg 0) ∧ AW Z 0 0 107 [some (.ref 0), some (.int a1), some (.int a2), some (.int ((R_state v0) (Int32.toNatClampNeg ((a1 + 28) + a2)))), some (.int q1), some (.int z54), none, none] [.int (q4 (Int32.toNatClampNeg 0)), .int z54] ([kR 0 (R_facts_s v0 q4)] : List (List zE)).flatten)
    refine ⟨(by decide), ?_⟩
    suffices H55 : AW Z 0 0 121 [some (.ref 0), some (.int a1), some (.int a2), some (.int ((R_state v0) (Int32.toNatClampNeg ((a1 + 28) + a2)))), some (.int q1), none, none, none] [.int (if (z54 ≤ (q4 (Int32.toNatClampNeg 0))) then z54 else (q4 (Int32.toNatClampNeg 0)))] ([kR 0 (R_facts_s v0 q4)] : List (List zE)).flatten from by
      refine AW.run hZ hRm [121] 400 ?_
      show (((z54 ≤ (q4 (Int32.toNatClampNeg 0))) → AW Z 0 0 121 [some (.ref 0), some (.int a1), some (.int a2), some (.int ((R_state v0) (Int32.toNatClampNeg ((a1 + 28) + a2)))), some (.int q1), some (.int z54), none, none] [.int z54] ([kR 0 (R_facts_s v0 q4)] : List (List zE)).flatten) ∧ (¬ (z54 ≤ (q4 (Int32.toNatClampNeg 0))) → (¬ ((0 : Int32) < 0 ∨ 5 ≤ Int32.toNatClampNeg 0) ∧ AW Z 0 0 121 [some (.ref 0), some (.int a1), some (.int a2), some (.int ((R_state v0) (Int32.toNatClampNeg ((a1 + 28) + a2)))), some (.int q1), some (.int z54), none, none] [.int (q4 (Int32.toNatClampNeg 0))] ([kR 0 (R_facts_s v0 q4)] : List (List zE)).flatten)))
      refine ⟨fun c56 => ?_, fun c56 => ?_⟩
      · refine AW.forget [true, true, true, true, true, false, false, false] ?_
        show AW Z 0 0 121 [some (.ref 0), some (.int a1), some (.int a2), some (.int ((R_state v0) (Int32.toNatClampNeg ((a1 + 28) + a2)))), some (.int q1), none, none, none] [.int z54] ([kR 0 (R_facts_s v0 q4)] : List (List zE)).flatten
        simpa only [if_pos c56] using H55
      · refine ⟨(by decide), ?_⟩
        refine AW.forget [true, true, true, true, true, false, false, false] ?_
        show AW Z 0 0 121 [some (.ref 0), some (.int a1), some (.int a2), some (.int ((R_state v0) (Int32.toNatClampNeg ((a1 + 28) + a2)))), some (.int q1), none, none, none] [.int (q4 (Int32.toNatClampNeg 0))] ([kR 0 (R_facts_s v0 q4)] : List (List zE)).flatten
        simpa only [if_neg c56] using H55
    replace hf := zlet_gen hf
    generalize ((if (z54 ≤ (q4 (Int32.toNatClampNeg 0))) then z54 else (q4 (Int32.toNatClampNeg 0))) : Int32) = z57 at hf ⊢
    refine AW.run hZ hRm [126] 400 ?_
    show AW Z 0 0 126 [some (.ref 0), some (.int a1), some (.int a2), some (.int ((R_state v0) (Int32.toNatClampNeg ((a1 + 28) + a2)))), some (.int q1), some (.int z57), none, none] [.int 1, .int q1] ([kR 0 (R_facts_s v0 q4)] : List (List zE)).flatten
    suffices H58 : AW Z 0 0 138 [some (.ref 0), some (.int a1), some (.int a2), some (.int ((R_state v0) (Int32.toNatClampNeg ((a1 + 28) + a2)))), some (.int q1), none, none, none] [.int (if (q1 = 1) then (z57 / 2) else z57)] ([kR 0 (R_facts_s v0 q4)] : List (List zE)).flatten from by
      refine AW.run hZ hRm [138] 400 ?_
      show ((¬ (q1 = 1) → AW Z 0 0 138 [some (.ref 0), some (.int a1), some (.int a2), some (.int ((R_state v0) (Int32.toNatClampNeg ((a1 + 28) + a2)))), some (.int q1), some (.int z57), none, none] [.int z57] ([kR 0 (R_facts_s v0 q4)] : List (List zE)).flatten) ∧ ((q1 = 1) → (¬ ((2 : Int32) = 0) ∧ AW Z 0 0 138 [some (.ref 0), some (.int a1), some (.int a2), some (.int ((R_state v0) (Int32.toNatClampNeg ((a1 + 28) + a2)))), some (.int q1), some (.int z57), none, none] [.int (z57 / 2)] ([kR 0 (R_facts_s v0 q4)] : List (List zE)).flatten)))
      refine ⟨fun c59 => ?_, fun c59 => ?_⟩
      · refine AW.forget [true, true, true, true, true, false, false, false] ?_
        show AW Z 0 0 138 [some (.ref 0), some (.int a1), some (.int a2), some (.int ((R_state v0) (Int32.toNatClampNeg ((a1 + 28) + a2)))), some (.int q1), none, none, none] [.int z57] ([kR 0 (R_facts_s v0 q4)] : List (List zE)).flatten
        simpa only [if_neg c59] using H58
      · refine ⟨(by decide), ?_⟩
        refine AW.forget [true, true, true, true, true, false, false, false] ?_
        show AW Z 0 0 138 [some (.ref 0), some (.int a1), some (.int a2), some (.int ((R_state v0) (Int32.toNatClampNeg ((a1 + 28) + a2)))), some (.int q1), none, none, none] [.int (z57 / 2)] ([kR 0 (R_facts_s v0 q4)] : List (List zE)).flatten
        simpa only [if_pos c59] using H58
    refine AW.run hZ hRm [155] 400 ?_
    show (¬ (((a1 + 4) + a2) < 0 ∨ 1656 ≤ Int32.toNatClampNeg ((a1 + 4) + a2)) ∧ (¬ (((a1 + 4) + a2) < 0 ∨ 1656 ≤ Int32.toNatClampNeg ((a1 + 4) + a2)) ∧ AW Z 0 0 155 [some (.ref 0), some (.int a1), some (.int a2), some (.int ((R_state v0) (Int32.toNatClampNeg ((a1 + 28) + a2)))), some (.int q1), some (.int (if (q1 = 1) then (z57 / 2) else z57)), none, none] [] ([kR 0 (R_s_facts_state v0 q4 (upd (R_state v0) (Int32.toNatClampNeg ((a1 + 4) + a2)) (((R_state v0) (Int32.toNatClampNeg ((a1 + 4) + a2))) - (if (q1 = 1) then (z57 / 2) else z57))))] : List (List zE)).flatten))
    obtain ⟨b93, hf⟩ := zneed hf
    refine ⟨b93, ?_⟩
    obtain ⟨b92, hf⟩ := zneed hf
    refine ⟨b92, ?_⟩
    replace hf := zlet_gen hf
    generalize ((upd (R_state v0) (Int32.toNatClampNeg ((a1 + 4) + a2)) (((R_state v0) (Int32.toNatClampNeg ((a1 + 4) + a2))) - (if (q1 = 1) then (z57 / 2) else z57))) : (Nat → Int32)) = z60 at hf ⊢
    as_aux_lemma =>
      refine AW.run hZ hRm [166, 230] 400 ?_
      show ((¬ (q1 = 2) → (((q1 = 3) → (¬ (((a1 + 10) + a2) < 0 ∨ 1656 ≤ Int32.toNatClampNeg ((a1 + 10) + a2)) ∧ ((((z60 (Int32.toNatClampNeg ((a1 + 10) + a2))) ≤ ((if (q1 = 1) then (z57 / 2) else z57) : Int32)) → (¬ (((a1 + 10) + a2) < 0 ∨ 1656 ≤ Int32.toNatClampNeg ((a1 + 10) + a2)) ∧ (¬ (((a1 + 10) + a2) < 0 ∨ 1656 ≤ Int32.toNatClampNeg ((a1 + 10) + a2)) ∧ (¬ (((a1 + 10) + a2) < 0 ∨ 1656 ≤ Int32.toNatClampNeg ((a1 + 10) + a2)) ∧ AW Z 0 0 230 [some (.ref 0), some (.int a1), some (.int a2), some (.int ((R_state v0) (Int32.toNatClampNeg ((a1 + 28) + a2)))), some (.int q1), some (.int (if (q1 = 1) then (z57 / 2) else z57)), some (.int (z60 (Int32.toNatClampNeg ((a1 + 10) + a2)))), none] [] ([kR 0 (R_s_facts_state v0 q4 (upd z60 (Int32.toNatClampNeg ((a1 + 10) + a2)) ((z60 (Int32.toNatClampNeg ((a1 + 10) + a2))) - (z60 (Int32.toNatClampNeg ((a1 + 10) + a2))))))] : List (List zE)).flatten)))) ∧ (¬ ((z60 (Int32.toNatClampNeg ((a1 + 10) + a2))) ≤ ((if (q1 = 1) then (z57 / 2) else z57) : Int32)) → (¬ (((a1 + 10) + a2) < 0 ∨ 1656 ≤ Int32.toNatClampNeg ((a1 + 10) + a2)) ∧ (¬ (((a1 + 10) + a2) < 0 ∨ 1656 ≤ Int32.toNatClampNeg ((a1 + 10) + a2)) ∧ AW Z 0 0 230 [some (.ref 0), some (.int a1), some (.int a2), some (.int ((R_state v0) (Int32.toNatClampNeg ((a1 + 28) + a2)))), some (.int q1), some (.int (if (q1 = 1) then (z57 / 2) else z57)), some (.int (if (q1 = 1) then (z57 / 2) else z57)), none] [] ([kR 0 (R_s_facts_state v0 q4 (upd z60 (Int32.toNatClampNeg ((a1 + 10) + a2)) ((z60 (Int32.toNatClampNeg ((a1 + 10) + a2))) - (if (q1 = 1) then (z57 / 2) else z57))))] : List (List zE)).flatten)))))) ∧ (¬ (q1 = 3) → (¬ (((a1 + 10) + a2) < 0 ∨ 1656 ≤ Int32.toNatClampNeg ((a1 + 10) + a2)) ∧ (¬ (((a1 + 10) + a2) < 0 ∨ 1656 ≤ Int32.toNatClampNeg ((a1 + 10) + a2)) ∧ AW Z 0 0 230 [some (.ref 0), some (.int a1), some (.int a2), some (.int ((R_state v0) (Int32.toNatClampNeg ((a1 + 28) + a2)))), some (.int q1), some (.int (if (q1 = 1) then (z57 / 2) else z57)), some (.int 0), none] [] ([kR 0 (R_s_facts_state v0 q4 (upd z60 (Int32.toNatClampNeg ((a1 + 10) + a2)) ((z60 (Int32.toNatClampNeg ((a1 + 10) + a2))) - 0)))] : List (List zE)).flatten))))) ∧ ((q1 = 2) → AW Z 0 0 166 [some (.ref 0), some (.int a1), some (.int a2), some (.int ((R_state v0) (Int32.toNatClampNeg ((a1 + 28) + a2)))), some (.int q1), some (.int (if (q1 = 1) then (z57 / 2) else z57)), none, none] [.int (if (q1 = 1) then (z57 / 2) else z57), .int ((R_state v0) (Int32.toNatClampNeg ((a1 + 28) + a2))), .int a1, .ref 0] ([kR 0 (R_s_facts_state v0 q4 z60)] : List (List zE)).flatten))
      refine ⟨fun c61 => ?_, fun c61 => ?_⟩
      · rw [if_neg c61] at hf
        refine ⟨fun c62 => ?_, fun c62 => ?_⟩
        · rw [if_pos c62] at hf
          obtain ⟨b81, hf⟩ := zneed hf
          refine ⟨b81, ?_⟩
          refine ⟨fun c63 => ?_, fun c63 => ?_⟩
          · rw [if_pos c63] at hf
            obtain ⟨b72, hf⟩ := zneed hf
            refine ⟨b72, ?_⟩
            obtain ⟨b71, hf⟩ := zneed hf
            refine ⟨b71, ?_⟩
            obtain ⟨b70, hf⟩ := zneed hf
            refine ⟨b70, ?_⟩
            replace hf := zlet_gen hf
            generalize ((upd z60 (Int32.toNatClampNeg ((a1 + 10) + a2)) ((z60 (Int32.toNatClampNeg ((a1 + 10) + a2))) - (z60 (Int32.toNatClampNeg ((a1 + 10) + a2))))) : (Nat → Int32)) = z64 at hf ⊢
            as_aux_lemma =>
              refine AW.run hZ hRm [233] 400 ?_
              show AW Z 0 0 233 [some (.ref 0), some (.int a1), some (.int a2), some (.int ((R_state v0) (Int32.toNatClampNeg ((a1 + 28) + a2)))), some (.int q1), some (.int (if (q1 = 1) then (z57 / 2) else z57)), some (.int (z60 (Int32.toNatClampNeg ((a1 + 10) + a2)))), none] [.int a2, .int a1, .ref 0] ([kR 0 (R_s_facts_state v0 q4 z64)] : List (List zE)).flatten
              obtain ⟨q65, h69, hf⟩ := zbind hf
              refine AW.callVc hZ hR hN (c_R_poorest N (R_s_facts_state v0 q4 z64) a1 a2 q65 h69) zMX12_poorest_ok rfl rfl zK_BorrowedLivesModel_337 zV_X12_poorest rfl [25] [0] [0, 1, 2, 3, 4, 5, 6, 7, 8, 9, 10, 11, 12, 13, 14, 15, 16, 17, 18, 19, 20, 21, 22, 23, 24] rfl rfl rfl (by decide) (by decide) (by omega) (by decide) (Nat.zero_le _) (Nat.zero_le _) rfl rfl rfl rfl rfl ?_
              rintro v cc ⟨rfl, rfl⟩
              refine ⟨_, rfl, rfl, ?_⟩
              show AW Z 0 0 236 [some (.ref 0), some (.int a1), some (.int a2), some (.int ((R_state v0) (Int32.toNatClampNeg ((a1 + 28) + a2)))), some (.int q1), some (.int (if (q1 = 1) then (z57 / 2) else z57)), some (.int (z60 (Int32.toNatClampNeg ((a1 + 10) + a2)))), none] [.int q65] ([kR 0 (R_s_facts_state v0 q4 z64)] : List (List zE)).flatten
              refine AW.run hZ hRm [252, 255] 400 ?_
              show (((q65 < 0) → AW Z 0 0 255 [some (.ref 0), some (.int a1), some (.int a2), some (.int ((R_state v0) (Int32.toNatClampNeg ((a1 + 28) + a2)))), some (.int q1), some (.int (if (q1 = 1) then (z57 / 2) else z57)), some (.int (z60 (Int32.toNatClampNeg ((a1 + 10) + a2)))), some (.int q65)] [] ([kR 0 (R_s_facts_state v0 q4 z64)] : List (List zE)).flatten) ∧ (¬ (q65 < 0) → AW Z 0 0 252 [some (.ref 0), some (.int a1), some (.int a2), some (.int ((R_state v0) (Int32.toNatClampNeg ((a1 + 28) + a2)))), some (.int q1), some (.int (if (q1 = 1) then (z57 / 2) else z57)), some (.int (z60 (Int32.toNatClampNeg ((a1 + 10) + a2)))), some (.int q65)] [.int ((if (q1 = 1) then (z57 / 2) else z57) - (z60 (Int32.toNatClampNeg ((a1 + 10) + a2)))), .int q65, .int a1, .ref 0] ([kR 0 (R_s_facts_state v0 q4 z64)] : List (List zE)).flatten))
              refine ⟨fun c66 => ?_, fun c66 => ?_⟩
              · rw [if_pos c66] at hf
                cases hf
                exact AW.vret hZ hE rfl rfl rfl (Nat.le_refl 0) (Nat.le_refl 0) rfl ⟨rfl, rfl⟩
              · rw [if_neg c66] at hf
                obtain ⟨q67, h68, hf⟩ := zbind hf
                refine AW.callVc hZ hR hN (c_R_gets N (R_s_facts_state v0 q4 z64) a1 q65 ((if (q1 = 1) then (z57 / 2) else z57) - (z60 (Int32.toNatClampNeg ((a1 + 10) + a2)))) q67 h68) zMX12_gets_ok rfl rfl zK_BorrowedLivesModel_334 zV_X12_gets rfl [25] [0] [0, 1, 2, 3, 4, 5, 6, 7, 8, 9, 10, 11, 12, 13, 14, 15, 16, 17, 18, 19, 20, 21, 22, 23, 24] rfl rfl rfl (by decide) (by decide) (by omega) (by decide) (Nat.zero_le _) (Nat.zero_le _) rfl rfl rfl rfl rfl ?_
                rintro v cc ⟨rfl, rfl⟩
                refine ⟨_, rfl, rfl, ?_⟩
                show AW Z 0 0 255 [some (.ref 0), some (.int a1), some (.int a2), some (.int ((R_state v0) (Int32.toNatClampNeg ((a1 + 28) + a2)))), some (.int q1), some (.int (if (q1 = 1) then (z57 / 2) else z57)), some (.int (z60 (Int32.toNatClampNeg ((a1 + 10) + a2)))), some (.int q65)] [] ([kR 0 (R_s_facts_state v0 q4 q67)] : List (List zE)).flatten
                cases hf
                exact AW.vret hZ hE rfl rfl rfl (Nat.le_refl 0) (Nat.le_refl 0) rfl ⟨rfl, rfl⟩
          · rw [if_neg c63] at hf
            obtain ⟨b80, hf⟩ := zneed hf
            refine ⟨b80, ?_⟩
            obtain ⟨b79, hf⟩ := zneed hf
            refine ⟨b79, ?_⟩
            replace hf := zlet_gen hf
            generalize ((upd z60 (Int32.toNatClampNeg ((a1 + 10) + a2)) ((z60 (Int32.toNatClampNeg ((a1 + 10) + a2))) - (if (q1 = 1) then (z57 / 2) else z57))) : (Nat → Int32)) = z73 at hf ⊢
            as_aux_lemma =>
              refine AW.run hZ hRm [233] 400 ?_
              show AW Z 0 0 233 [some (.ref 0), some (.int a1), some (.int a2), some (.int ((R_state v0) (Int32.toNatClampNeg ((a1 + 28) + a2)))), some (.int q1), some (.int (if (q1 = 1) then (z57 / 2) else z57)), some (.int (if (q1 = 1) then (z57 / 2) else z57)), none] [.int a2, .int a1, .ref 0] ([kR 0 (R_s_facts_state v0 q4 z73)] : List (List zE)).flatten
              obtain ⟨q74, h78, hf⟩ := zbind hf
              refine AW.callVc hZ hR hN (c_R_poorest N (R_s_facts_state v0 q4 z73) a1 a2 q74 h78) zMX12_poorest_ok rfl rfl zK_BorrowedLivesModel_337 zV_X12_poorest rfl [25] [0] [0, 1, 2, 3, 4, 5, 6, 7, 8, 9, 10, 11, 12, 13, 14, 15, 16, 17, 18, 19, 20, 21, 22, 23, 24] rfl rfl rfl (by decide) (by decide) (by omega) (by decide) (Nat.zero_le _) (Nat.zero_le _) rfl rfl rfl rfl rfl ?_
              rintro v cc ⟨rfl, rfl⟩
              refine ⟨_, rfl, rfl, ?_⟩
              show AW Z 0 0 236 [some (.ref 0), some (.int a1), some (.int a2), some (.int ((R_state v0) (Int32.toNatClampNeg ((a1 + 28) + a2)))), some (.int q1), some (.int (if (q1 = 1) then (z57 / 2) else z57)), some (.int (if (q1 = 1) then (z57 / 2) else z57)), none] [.int q74] ([kR 0 (R_s_facts_state v0 q4 z73)] : List (List zE)).flatten
              refine AW.run hZ hRm [252, 255] 400 ?_
              show (((q74 < 0) → AW Z 0 0 255 [some (.ref 0), some (.int a1), some (.int a2), some (.int ((R_state v0) (Int32.toNatClampNeg ((a1 + 28) + a2)))), some (.int q1), some (.int (if (q1 = 1) then (z57 / 2) else z57)), some (.int (if (q1 = 1) then (z57 / 2) else z57)), some (.int q74)] [] ([kR 0 (R_s_facts_state v0 q4 z73)] : List (List zE)).flatten) ∧ (¬ (q74 < 0) → AW Z 0 0 252 [some (.ref 0), some (.int a1), some (.int a2), some (.int ((R_state v0) (Int32.toNatClampNeg ((a1 + 28) + a2)))), some (.int q1), some (.int (if (q1 = 1) then (z57 / 2) else z57)), some (.int (if (q1 = 1) then (z57 / 2) else z57)), some (.int q74)] [.int ((if (q1 = 1) then (z57 / 2) else z57) - (if (q1 = 1) then (z57 / 2) else z57)), .int q74, .int a1, .ref 0] ([kR 0 (R_s_facts_state v0 q4 z73)] : List (List zE)).flatten))
              refine ⟨fun c75 => ?_, fun c75 => ?_⟩
              · rw [if_pos c75] at hf
                cases hf
                exact AW.vret hZ hE rfl rfl rfl (Nat.le_refl 0) (Nat.le_refl 0) rfl ⟨rfl, rfl⟩
              · rw [if_neg c75] at hf
                obtain ⟨q76, h77, hf⟩ := zbind hf
                refine AW.callVc hZ hR hN (c_R_gets N (R_s_facts_state v0 q4 z73) a1 q74 ((if (q1 = 1) then (z57 / 2) else z57) - (if (q1 = 1) then (z57 / 2) else z57)) q76 h77) zMX12_gets_ok rfl rfl zK_BorrowedLivesModel_334 zV_X12_gets rfl [25] [0] [0, 1, 2, 3, 4, 5, 6, 7, 8, 9, 10, 11, 12, 13, 14, 15, 16, 17, 18, 19, 20, 21, 22, 23, 24] rfl rfl rfl (by decide) (by decide) (by omega) (by decide) (Nat.zero_le _) (Nat.zero_le _) rfl rfl rfl rfl rfl ?_
                rintro v cc ⟨rfl, rfl⟩
                refine ⟨_, rfl, rfl, ?_⟩
                show AW Z 0 0 255 [some (.ref 0), some (.int a1), some (.int a2), some (.int ((R_state v0) (Int32.toNatClampNeg ((a1 + 28) + a2)))), some (.int q1), some (.int (if (q1 = 1) then (z57 / 2) else z57)), some (.int (if (q1 = 1) then (z57 / 2) else z57)), some (.int q74)] [] ([kR 0 (R_s_facts_state v0 q4 q76)] : List (List zE)).flatten
                cases hf
                exact AW.vret hZ hE rfl rfl rfl (Nat.le_refl 0) (Nat.le_refl 0) rfl ⟨rfl, rfl⟩
        · rw [if_neg c62] at hf
          obtain ⟨b89, hf⟩ := zneed hf
          refine ⟨b89, ?_⟩
          obtain ⟨b88, hf⟩ := zneed hf
          refine ⟨b88, ?_⟩
          replace hf := zlet_gen hf
          generalize ((upd z60 (Int32.toNatClampNeg ((a1 + 10) + a2)) ((z60 (Int32.toNatClampNeg ((a1 + 10) + a2))) - 0)) : (Nat → Int32)) = z82 at hf ⊢
          as_aux_lemma =>
            refine AW.run hZ hRm [233] 400 ?_
            show AW Z 0 0 233 [some (.ref 0), some (.int a1), some (.int a2), some (.int ((R_state v0) (Int32.toNatClampNeg ((a1 + 28) + a2)))), some (.int q1), some (.int (if (q1 = 1) then (z57 / 2) else z57)), some (.int 0), none] [.int a2, .int a1, .ref 0] ([kR 0 (R_s_facts_state v0 q4 z82)] : List (List zE)).flatten
            obtain ⟨q83, h87, hf⟩ := zbind hf
            refine AW.callVc hZ hR hN (c_R_poorest N (R_s_facts_state v0 q4 z82) a1 a2 q83 h87) zMX12_poorest_ok rfl rfl zK_BorrowedLivesModel_337 zV_X12_poorest rfl [25] [0] [0, 1, 2, 3, 4, 5, 6, 7, 8, 9, 10, 11, 12, 13, 14, 15, 16, 17, 18, 19, 20, 21, 22, 23, 24] rfl rfl rfl (by decide) (by decide) (by omega) (by decide) (Nat.zero_le _) (Nat.zero_le _) rfl rfl rfl rfl rfl ?_
            rintro v cc ⟨rfl, rfl⟩
            refine ⟨_, rfl, rfl, ?_⟩
            show AW Z 0 0 236 [some (.ref 0), some (.int a1), some (.int a2), some (.int ((R_state v0) (Int32.toNatClampNeg ((a1 + 28) + a2)))), some (.int q1), some (.int (if (q1 = 1) then (z57 / 2) else z57)), some (.int 0), none] [.int q83] ([kR 0 (R_s_facts_state v0 q4 z82)] : List (List zE)).flatten
            refine AW.run hZ hRm [252, 255] 400 ?_
            show (((q83 < 0) → AW Z 0 0 255 [some (.ref 0), some (.int a1), some (.int a2), some (.int ((R_state v0) (Int32.toNatClampNeg ((a1 + 28) + a2)))), some (.int q1), some (.int (if (q1 = 1) then (z57 / 2) else z57)), some (.int 0), some (.int q83)] [] ([kR 0 (R_s_facts_state v0 q4 z82)] : List (List zE)).flatten) ∧ (¬ (q83 < 0) → AW Z 0 0 252 [some (.ref 0), some (.int a1), some (.int a2), some (.int ((R_state v0) (Int32.toNatClampNeg ((a1 + 28) + a2)))), some (.int q1), some (.int (if (q1 = 1) then (z57 / 2) else z57)), some (.int 0), some (.int q83)] [.int ((if (q1 = 1) then (z57 / 2) else z57) - 0), .int q83, .int a1, .ref 0] ([kR 0 (R_s_facts_state v0 q4 z82)] : List (List zE)).flatten))
            refine ⟨fun c84 => ?_, fun c84 => ?_⟩
            · rw [if_pos c84] at hf
              cases hf
              exact AW.vret hZ hE rfl rfl rfl (Nat.le_refl 0) (Nat.le_refl 0) rfl ⟨rfl, rfl⟩
            · rw [if_neg c84] at hf
              obtain ⟨q85, h86, hf⟩ := zbind hf
              refine AW.callVc hZ hR hN (c_R_gets N (R_s_facts_state v0 q4 z82) a1 q83 ((if (q1 = 1) then (z57 / 2) else z57) - 0) q85 h86) zMX12_gets_ok rfl rfl zK_BorrowedLivesModel_334 zV_X12_gets rfl [25] [0] [0, 1, 2, 3, 4, 5, 6, 7, 8, 9, 10, 11, 12, 13, 14, 15, 16, 17, 18, 19, 20, 21, 22, 23, 24] rfl rfl rfl (by decide) (by decide) (by omega) (by decide) (Nat.zero_le _) (Nat.zero_le _) rfl rfl rfl rfl rfl ?_
              rintro v cc ⟨rfl, rfl⟩
              refine ⟨_, rfl, rfl, ?_⟩
              show AW Z 0 0 255 [some (.ref 0), some (.int a1), some (.int a2), some (.int ((R_state v0) (Int32.toNatClampNeg ((a1 + 28) + a2)))), some (.int q1), some (.int (if (q1 = 1) then (z57 / 2) else z57)), some (.int 0), some (.int q83)] [] ([kR 0 (R_s_facts_state v0 q4 q85)] : List (List zE)).flatten
              cases hf
              exact AW.vret hZ hE rfl rfl rfl (Nat.le_refl 0) (Nat.le_refl 0) rfl ⟨rfl, rfl⟩
      · rw [if_pos c61] at hf
        obtain ⟨q90, h91, hf⟩ := zbind hf
        refine AW.callVc hZ hR hN (c_R_gets N (R_s_facts_state v0 q4 z60) a1 ((R_state v0) (Int32.toNatClampNeg ((a1 + 28) + a2))) (if (q1 = 1) then (z57 / 2) else z57) q90 h91) zMX12_gets_ok rfl rfl zK_BorrowedLivesModel_334 zV_X12_gets rfl [25] [0] [0, 1, 2, 3, 4, 5, 6, 7, 8, 9, 10, 11, 12, 13, 14, 15, 16, 17, 18, 19, 20, 21, 22, 23, 24] rfl rfl rfl (by decide) (by decide) (by omega) (by decide) (Nat.zero_le _) (Nat.zero_le _) rfl rfl rfl rfl rfl ?_
        rintro v cc ⟨rfl, rfl⟩
        refine ⟨_, rfl, rfl, ?_⟩
        show AW Z 0 0 169 [some (.ref 0), some (.int a1), some (.int a2), some (.int ((R_state v0) (Int32.toNatClampNeg ((a1 + 28) + a2)))), some (.int q1), some (.int (if (q1 = 1) then (z57 / 2) else z57)), none, none] [] ([kR 0 (R_s_facts_state v0 q4 q90)] : List (List zE)).flatten
        cases hf
        exact AW.vret hZ hE rfl rfl rfl (Nat.le_refl 0) (Nat.le_refl 0) rfl ⟨rfl, rfl⟩
