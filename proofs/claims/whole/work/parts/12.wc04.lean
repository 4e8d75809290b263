def f_Lives_mend (N : Nat) (v0 : VLives) (v1 : VTown) (v2 : VLaws) (a1 : Int32) : Option ((Nat → Int32) × (Nat → Int32) × (Nat → Int32)) := (if (a1 < 0 ∨ 6 ≤ Int32.toNatClampNeg a1) then none else ((f_Town_kindOf N v1 v2 ((Lives_self v0) (Int32.toNatClampNeg a1))).bind (fun q1 => (if (q1 = 2) then (if (a1 < 0 ∨ 6 ≤ Int32.toNatClampNeg a1) then none else (if (a1 < 0 ∨ 6 ≤ Int32.toNatClampNeg a1) then none else (if (a1 < 0 ∨ 6 ≤ Int32.toNatClampNeg a1) then none else ((f_Town_skillOf N v1 v2 ((Lives_self v0) (Int32.toNatClampNeg a1))).bind (fun q15 => ((f_Laws_setFacts N v2 ((Lives_purse v0) (Int32.toNatClampNeg a1)) ((Lives_debt v0) (Int32.toNatClampNeg a1)) ((Lives_home v0) (Int32.toNatClampNeg a1)) q15 q1).bind (fun q16 => ((f_Laws_valueOf N (Laws_facts_s v2 q16) 1).bind (fun q17 => (if (a1 < 0 ∨ 6 ≤ Int32.toNatClampNeg a1) then none else (if (a1 < 0 ∨ 6 ≤ Int32.toNatClampNeg a1) then none else (some ((upd (Lives_home v0) (Int32.toNatClampNeg a1) (if 0 < (if (((Lives_home v0) (Int32.toNatClampNeg a1)) + (if (-3) < (if q17.1 < 3 then q17.1 else 3) then (if q17.1 < 3 then q17.1 else 3) else (-3))) < 9 then (((Lives_home v0) (Int32.toNatClampNeg a1)) + (if (-3) < (if q17.1 < 3 then q17.1 else 3) then (if q17.1 < 3 then q17.1 else 3) else (-3))) else 9) then (if (((Lives_home v0) (Int32.toNatClampNeg a1)) + (if (-3) < (if q17.1 < 3 then q17.1 else 3) then (if q17.1 < 3 then q17.1 else 3) else (-3))) < 9 then (((Lives_home v0) (Int32.toNatClampNeg a1)) + (if (-3) < (if q17.1 < 3 then q17.1 else 3) then (if q17.1 < 3 then q17.1 else 3) else (-3))) else 9) else 0)), q16, q17.2))))))))))))) else ((f_Lives_openMoney N v0 v1 v2 a1).bind (fun q3 => (if (a1 < 0 ∨ 6 ≤ Int32.toNatClampNeg a1) then none else (if (a1 < 0 ∨ 6 ≤ Int32.toNatClampNeg a1) then none else ((f_Town_skillOf N v1 v2 ((Lives_self v0) (Int32.toNatClampNeg a1))).bind (fun q4 => ((f_Laws_setFacts N v2 q3 ((Lives_debt v0) (Int32.toNatClampNeg a1)) ((Lives_home v0) (Int32.toNatClampNeg a1)) q4 q1).bind (fun q5 => ((f_Laws_valueOf N (Laws_facts_s v2 q5) 1).bind (fun q6 => (if (a1 < 0 ∨ 6 ≤ Int32.toNatClampNeg a1) then none else (if (a1 < 0 ∨ 6 ≤ Int32.toNatClampNeg a1) then none else (some ((upd (Lives_home v0) (Int32.toNatClampNeg a1) (if 0 < (if (((Lives_home v0) (Int32.toNatClampNeg a1)) + (if (-3) < (if q6.1 < 3 then q6.1 else 3) then (if q6.1 < 3 then q6.1 else 3) else (-3))) < 9 then (((Lives_home v0) (Int32.toNatClampNeg a1)) + (if (-3) < (if q6.1 < 3 then q6.1 else 3) then (if q6.1 < 3 then q6.1 else 3) else (-3))) else 9) then (if (((Lives_home v0) (Int32.toNatClampNeg a1)) + (if (-3) < (if q6.1 < 3 then q6.1 else 3) then (if q6.1 < 3 then q6.1 else 3) else (-3))) < 9 then (((Lives_home v0) (Int32.toNatClampNeg a1)) + (if (-3) < (if q6.1 < 3 then q6.1 else 3) then (if q6.1 < 3 then q6.1 else 3) else (-3))) else 9) else 0)), q5, q6.2))))))))))))))))))
set_option maxRecDepth 20000 in
set_option maxHeartbeats 4000000 in
theorem c_Lives_mend (N : Nat) (v0 : VLives) (v1 : VTown) (v2 : VLaws) (a1 : Int32) (R : (Nat → Int32) × (Nat → Int32) × (Nat → Int32)) (hf : f_Lives_mend N v0 v1 v2 a1 = some R) : Ct zMX3_mend 3 0 0 0 [.ref 0, .int a1] ([kLives 0 8 v0, kTown 8 16 v1, kLaws 16 v2] : List (List zE)).flatten (fun v cc => v = none ∧ cc = ([kLives 0 8 (Lives_home_s v0 R.1), kTown 8 16 v1, kLaws 16 (Laws_s_facts_stack v2 R.2.1 R.2.2)] : List (List zE)).flatten) := by
  refine Ct.of zMX3_mend_ok (by decide) (Nat.le_of_ble_eq_true rfl) ?_
  intro Z hZ hR hN hE
  have hRm : zRoom Z 0 0 := zRoom0 Z
  unfold f_Lives_mend at hf
  show AW Z 0 0 0 [some (.ref 0), some (.int a1), none, none, none, none] [] ([kLives 0 8 v0, kTown 8 16 v1, kLaws 16 v2] : List (List zE)).flatten
  refine AW.run hZ hRm [12] 400 ?_
  show (¬ (a1 < 0 ∨ 6 ≤ Int32.toNatClampNeg a1) ∧ AW Z 0 0 12 [some (.ref 0), some (.int a1), some (.int ((Lives_self v0) (Int32.toNatClampNeg a1))), none, none, none] [.int ((Lives_self v0) (Int32.toNatClampNeg a1)), .ref 8] ([kLives 0 8 v0, kTown 8 16 v1, kLaws 16 v2] : List (List zE)).flatten)
  obtain ⟨b27, hf⟩ := zneed hf
  refine ⟨b27, ?_⟩
  obtain ⟨q1, h26, hf⟩ := zbind hf
  refine AW.callVc hZ hR hN (c_Town_kindOf N v1 v2 ((Lives_self v0) (Int32.toNatClampNeg a1)) q1 h26) zMX8_kindOf_ok rfl rfl zK_BorrowedLives_Lives_120 zV_X8_kindOf rfl [8, 8, 6] [1, 2] [8, 9, 10, 11, 12, 13, 14, 15, 16, 17, 18, 19, 20, 21] rfl rfl rfl (by decide) (by decide) (by omega) (by decide) (Nat.zero_le _) (Nat.zero_le _) rfl rfl rfl rfl rfl ?_
  rintro v cc ⟨rfl, rfl⟩
  refine ⟨_, rfl, rfl, ?_⟩
  show AW Z 0 0 15 [some (.ref 0), some (.int a1), some (.int ((Lives_self v0) (Int32.toNatClampNeg a1))), none, none, none] [.int q1] ([kLives 0 8 v0, kTown 8 16 v1, kLaws 16 v2] : List (List zE)).flatten
  refine AW.run hZ hRm [32, 63] 400 ?_
  show ((¬ (q1 = 2) → AW Z 0 0 32 [some (.ref 0), some (.int a1), some (.int ((Lives_self v0) (Int32.toNatClampNeg a1))), some (.int q1), none, none] [.int a1, .ref 0] ([kLives 0 8 v0, kTown 8 16 v1, kLaws 16 v2] : List (List zE)).flatten) ∧ ((q1 = 2) → (¬ (a1 < 0 ∨ 6 ≤ Int32.toNatClampNeg a1) ∧ (¬ (a1 < 0 ∨ 6 ≤ Int32.toNatClampNeg a1) ∧ (¬ (a1 < 0 ∨ 6 ≤ Int32.toNatClampNeg a1) ∧ AW Z 0 0 63 [some (.ref 0), some (.int a1), some (.int ((Lives_self v0) (Int32.toNatClampNeg a1))), some (.int q1), some (.int ((Lives_purse v0) (Int32.toNatClampNeg a1))), none] [.int ((Lives_self v0) (Int32.toNatClampNeg a1)), .ref 8, .int ((Lives_home v0) (Int32.toNatClampNeg a1)), .int ((Lives_debt v0) (Int32.toNatClampNeg a1)), .int ((Lives_purse v0) (Int32.toNatClampNeg a1)), .ref 16] ([kLives 0 8 v0, kTown 8 16 v1, kLaws 16 v2] : List (List zE)).flatten)))))
  refine ⟨fun c2 => ?_, fun c2 => ?_⟩
  · rw [if_neg c2] at hf
    obtain ⟨q3, h14, hf⟩ := zbind hf
    refine AW.callVc hZ hR hN (c_Lives_openMoney N v0 v1 v2 a1 q3 h14) zMX3_openMoney_ok rfl rfl zK_BorrowedLives_Lives_123 zV_X3_openMoney rfl [8, 8, 6] [0, 1, 2] [0, 1, 2, 3, 4, 5, 6, 7, 8, 9, 10, 11, 12, 13, 14, 15, 16, 17, 18, 19, 20, 21] rfl rfl rfl (by decide) (by decide) (by omega) (by decide) (Nat.zero_le _) (Nat.zero_le _) rfl rfl rfl rfl rfl ?_
    rintro v cc ⟨rfl, rfl⟩
    refine ⟨_, rfl, rfl, ?_⟩
    show AW Z 0 0 35 [some (.ref 0), some (.int a1), some (.int ((Lives_self v0) (Int32.toNatClampNeg a1))), some (.int q1), none, none] [.int q3] ([kLives 0 8 v0, kTown 8 16 v1, kLaws 16 v2] : List (List zE)).flatten
    refine AW.run hZ hRm [63] 400 ?_
    show (¬ (a1 < 0 ∨ 6 ≤ Int32.toNatClampNeg a1) ∧ (¬ (a1 < 0 ∨ 6 ≤ Int32.toNatClampNeg a1) ∧ AW Z 0 0 63 [some (.ref 0), some (.int a1), some (.int ((Lives_self v0) (Int32.toNatClampNeg a1))), some (.int q1), some (.int q3), none] [.int ((Lives_self v0) (Int32.toNatClampNeg a1)), .ref 8, .int ((Lives_home v0) (Int32.toNatClampNeg a1)), .int ((Lives_debt v0) (Int32.toNatClampNeg a1)), .int q3, .ref 16] ([kLives 0 8 v0, kTown 8 16 v1, kLaws 16 v2] : List (List zE)).flatten))
    obtain ⟨b13, hf⟩ := zneed hf
    refine ⟨b13, ?_⟩
    obtain ⟨b12, hf⟩ := zneed hf
    refine ⟨b12, ?_⟩
    obtain ⟨q4, h11, hf⟩ := zbind hf
    refine AW.callVc hZ hR hN (c_Town_skillOf N v1 v2 ((Lives_self v0) (Int32.toNatClampNeg a1)) q4 h11) zMX8_skillOf_ok rfl rfl zK_BorrowedLives_Lives_130 zV_X8_skillOf rfl [8, 8, 6] [1, 2] [8, 9, 10, 11, 12, 13, 14, 15, 16, 17, 18, 19, 20, 21] rfl rfl rfl (by decide) (by decide) (by omega) (by decide) (Nat.zero_le _) (Nat.zero_le _) rfl rfl rfl rfl rfl ?_
    rintro v cc ⟨rfl, rfl⟩
    refine ⟨_, rfl, rfl, ?_⟩
    show AW Z 0 0 66 [some (.ref 0), some (.int a1), some (.int ((Lives_self v0) (Int32.toNatClampNeg a1))), some (.int q1), some (.int q3), none] [.int q4, .int ((Lives_home v0) (Int32.toNatClampNeg a1)), .int ((Lives_debt v0) (Int32.toNatClampNeg a1)), .int q3, .ref 16] ([kLives 0 8 v0, kTown 8 16 v1, kLaws 16 v2] : List (List zE)).flatten
    refine AW.run hZ hRm [67] 400 ?_
    show AW Z 0 0 67 [some (.ref 0), some (.int a1), some (.int ((Lives_self v0) (Int32.toNatClampNeg a1))), some (.int q1), some (.int q3), none] [.int q1, .int q4, .int ((Lives_home v0) (Int32.toNatClampNeg a1)), .int ((Lives_debt v0) (Int32.toNatClampNeg a1)), .int q3, .ref 16] ([kLives 0 8 v0, kTown 8 16 v1, kLaws 16 v2] : List (List zE)).flatten
    obtain ⟨q5, h10, hf⟩ := zbind hf
    refine AW.callVc hZ hR hN (c_Laws_setFacts N v2 q3 ((Lives_debt v0) (Int32.toNatClampNeg a1)) ((Lives_home v0) (Int32.toNatClampNeg a1)) q4 q1 q5 h10) zMX2_setFacts_ok rfl rfl zK_BorrowedLives_Lives_133 zV_X2_setFacts rfl [8, 8, 6] [2] [16, 17, 18, 19, 20, 21] rfl rfl rfl (by decide) (by decide) (by omega) (by decide) (Nat.zero_le _) (Nat.zero_le _) rfl rfl rfl rfl rfl ?_
    rintro v cc ⟨rfl, rfl⟩
    refine ⟨_, rfl, rfl, ?_⟩
    show AW Z 0 0 70 [some (.ref 0), some (.int a1), some (.int ((Lives_self v0) (Int32.toNatClampNeg a1))), some (.int q1), some (.int q3), none] [] ([kLives 0 8 v0, kTown 8 16 v1, kLaws 16 (Laws_facts_s v2 q5)] : List (List zE)).flatten
    refine AW.run hZ hRm [81] 400 ?_
    show AW Z 0 0 81 [some (.ref 0), some (.int a1), some (.int ((Lives_self v0) (Int32.toNatClampNeg a1))), some (.int q1), some (.int q3), none] [.int 1, .ref 16, .int 3, .int (-3)] ([kLives 0 8 v0, kTown 8 16 v1, kLaws 16 (Laws_facts_s v2 q5)] : List (List zE)).flatten
    obtain ⟨q6, h9, hf⟩ := zbind hf
    refine AW.callVc hZ hR hN (c_Laws_valueOf N (Laws_facts_s v2 q5) 1 q6 h9) zMX2_valueOf_ok rfl rfl zK_BorrowedLives_Lives_139 zV_X2_valueOf rfl [8, 8, 6] [2] [16, 17, 18, 19, 20, 21] rfl rfl rfl (by decide) (by decide) (by omega) (by decide) (Nat.zero_le _) (Nat.zero_le _) rfl rfl rfl rfl rfl ?_
    rintro v cc ⟨rfl, rfl⟩
    refine ⟨_, rfl, rfl, ?_⟩
    show AW Z 0 0 84 [some (.ref 0), some (.int a1), some (.int ((Lives_self v0) (Int32.toNatClampNeg a1))), some (.int q1), some (.int q3), none] [.int q6.1, .int 3, .int (-3)] ([kLives 0 8 v0, kTown 8 16 v1, kLaws 16 (Laws_s_facts_stack v2 q5 q6.2)] : List (List zE)).flatten
    refine AW.run hZ hRm [116] 400 ?_
    show (¬ (a1 < 0 ∨ 6 ≤ Int32.toNatClampNeg a1) ∧ (¬ (a1 < 0 ∨ 6 ≤ Int32.toNatClampNeg a1) ∧ AW Z 0 0 116 [some (.ref 0), some (.int a1), some (.int ((Lives_self v0) (Int32.toNatClampNeg a1))), some (.int q1), some (.int q3), some (.int (if (-3) < (if q6.1 < 3 then q6.1 else 3) then (if q6.1 < 3 then q6.1 else 3) else (-3)))] [] ([kLives 0 8 (Lives_home_s v0 (upd (Lives_home v0) (Int32.toNatClampNeg a1) (if 0 < (if (((Lives_home v0) (Int32.toNatClampNeg a1)) + (if (-3) < (if q6.1 < 3 then q6.1 else 3) then (if q6.1 < 3 then q6.1 else 3) else (-3))) < 9 then (((Lives_home v0) (Int32.toNatClampNeg a1)) + (if (-3) < (if q6.1 < 3 then q6.1 else 3) then (if q6.1 < 3 then q6.1 else 3) else (-3))) else 9) then (if (((Lives_home v0) (Int32.toNatClampNeg a1)) + (if (-3) < (if q6.1 < 3 then q6.1 else 3) then (if q6.1 < 3 then q6.1 else 3) else (-3))) < 9 then (((Lives_home v0) (Int32.toNatClampNeg a1)) + (if (-3) < (if q6.1 < 3 then q6.1 else 3) then (if q6.1 < 3 then q6.1 else 3) else (-3))) else 9) else 0))), kTown 8 16 v1, kLaws 16 (Laws_s_facts_stack v2 q5 q6.2)] : List (List zE)).flatten))
    obtain ⟨b8, hf⟩ := zneed hf
    refine ⟨b8, ?_⟩
    obtain ⟨b7, hf⟩ := zneed hf
    refine ⟨b7, ?_⟩
    cases hf
    exact AW.vret hZ hE rfl rfl rfl (Nat.le_refl 0) (Nat.le_refl 0) rfl ⟨rfl, rfl⟩
  · rw [if_pos c2] at hf
    obtain ⟨b25, hf⟩ := zneed hf
    refine ⟨b25, ?_⟩
    obtain ⟨b24, hf⟩ := zneed hf
    refine ⟨b24, ?_⟩
    obtain ⟨b23, hf⟩ := zneed hf
    refine ⟨b23, ?_⟩
    obtain ⟨q15, h22, hf⟩ := zbind hf
    refine AW.callVc hZ hR hN (c_Town_skillOf N v1 v2 ((Lives_self v0) (Int32.toNatClampNeg a1)) q15 h22) zMX8_skillOf_ok rfl rfl zK_BorrowedLives_Lives_130 zV_X8_skillOf rfl [8, 8, 6] [1, 2] [8, 9, 10, 11, 12, 13, 14, 15, 16, 17, 18, 19, 20, 21] rfl rfl rfl (by decide) (by decide) (by omega) (by decide) (Nat.zero_le _) (Nat.zero_le _) rfl rfl rfl rfl rfl ?_
    rintro v cc ⟨rfl, rfl⟩
    refine ⟨_, rfl, rfl, ?_⟩
    show AW Z 0 0 66 [some (.ref 0), some (.int a1), some (.int ((Lives_self v0) (Int32.toNatClampNeg a1))), some (.int q1), some (.int ((Lives_purse v0) (Int32.toNatClampNeg a1))), none] [.int q15, .int ((Lives_home v0) (Int32.toNatClampNeg a1)), .int ((Lives_debt v0) (Int32.toNatClampNeg a1)), .int ((Lives_purse v0) (Int32.toNatClampNeg a1)), .ref 16] ([kLives 0 8 v0, kTown 8 16 v1, kLaws 16 v2] : List (List zE)).flatten
    refine AW.run hZ hRm [67] 400 ?_
    show AW Z 0 0 67 [some (.ref 0), some (.int a1), some (.int ((Lives_self v0) (Int32.toNatClampNeg a1))), some (.int q1), some (.int ((Lives_purse v0) (Int32.toNatClampNeg a1))), none] [.int q1, .int q15, .int ((Lives_home v0) (Int32.toNatClampNeg a1)), .int ((Lives_debt v0) (Int32.toNatClampNeg a1)), .int ((Lives_purse v0) (Int32.toNatClampNeg a1)), .ref 16] ([kLives 0 8 v0, kTown 8 16 v1, kLaws 16 v2] : List (List zE)).flatten
    obtain ⟨q16, h21, hf⟩ := zbind hf
    refine AW.callVc hZ hR hN (c_Laws_setFacts N v2 ((Lives_purse v0) (Int32.toNatClampNeg a1)) ((Lives_debt v0) (Int32.toNatClampNeg a1)) ((Lives_home v0) (Int32.toNatClampNeg a1)) q15 q1 q16 h21) zMX2_setFacts_ok rfl rfl zK_BorrowedLives_Lives_133 zV_X2_setFacts rfl [8, 8, 6] [2] [16, 17, 18, 19, 20, 21] rfl rfl rfl (by decide) (by decide) (by omega) (by decide) (Nat.zero_le _) (Nat.zero_le _) rfl rfl rfl rfl rfl ?_
    rintro v cc ⟨rfl, rfl⟩
    refine ⟨_, rfl, rfl, ?_⟩
    show AW Z 0 0 70 [some (.ref 0), some (.int a1), some (.int ((Lives_self v0) (Int32.toNatClampNeg a1))), some (.int q1), some (.int ((Lives_purse v0) (Int32.toNatClampNeg a1))), none] [] ([kLives 0 8 v0, kTown 8 16 v1, kLaws 16 (Laws_facts_s v2 q16)] : List (List zE)).flatten
    refine AW.run hZ hRm [81] 400 ?_
    show AW Z 0 0 81 [some (.ref 0), some (.int a1), some (.int ((Lives_self v0) (Int32.toNatClampNeg a1))), some (.int q1), some (.int ((Lives_purse v0) (Int32.toNatClampNeg a1))), none] [.int 1, .ref 16, .int 3, .int (-3)] ([kLives 0 8 v0, kTown 8 16 v1, kLaws 16 (Laws_facts_s v2 q16)] : List (List zE)).flatten
    obtain ⟨q17, h20, hf⟩ := zbind hf
    refine AW.callVc hZ hR hN (c_Laws_valueOf N (Laws_facts_s v2 q16) 1 q17 h20) zMX2_valueOf_ok rfl rfl zK_BorrowedLives_Lives_139 zV_X2_valueOf rfl [8, 8, 6] [2] [16, 17, 18, 19, 20, 21] rfl rfl rfl (by decide) (by decide) (by omega) (by decide) (Nat.zero_le _) (Nat.zero_le _) rfl rfl rfl rfl rfl ?_
    rintro v cc ⟨rfl, rfl⟩
    refine ⟨_, rfl, rfl, ?_⟩
    show AW Z 0 0 84 [some (.ref 0), some (.int a1), some (.int ((Lives_self v0) (Int32.toNatClampNeg a1))), some (.int q1), some (.int ((Lives_purse v0) (Int32.toNatClampNeg a1))), none] [.int q17.1, .int 3, .int (-3)] ([kLives 0 8 v0, kTown 8 16 v1, kLaws 16 (Laws_s_facts_stack v2 q16 q17.2)] : List (List zE)).flatten
    refine AW.run hZ hRm [116] 400 ?_
    show (¬ (a1 < 0 ∨ 6 ≤ Int32.toNatClampNeg a1) ∧ (¬ (a1 < 0 ∨ 6 ≤ Int32.toNatClampNeg a1) ∧ AW Z 0 0 116 [some (.ref 0), some (.int a1), some (.int ((Lives_self v0) (Int32.toNatClampNeg a1))), some (.int q1), some (.int ((Lives_purse v0) (Int32.toNatClampNeg a1))), some (.int (if (-3) < (if q17.1 < 3 then q17.1 else 3) then (if q17.1 < 3 then q17.1 else 3) else (-3)))] [] ([kLives 0 8 (Lives_home_s v0 (upd (Lives_home v0) (Int32.toNatClampNeg a1) (if 0 < (if (((Lives_home v0) (Int32.toNatClampNeg a1)) + (if (-3) < (if q17.1 < 3 then q17.1 else 3) then (if q17.1 < 3 then q17.1 else 3) else (-3))) < 9 then (((Lives_home v0) (Int32.toNatClampNeg a1)) + (if (-3) < (if q17.1 < 3 then q17.1 else 3) then (if q17.1 < 3 then q17.1 else 3) else (-3))) else 9) then (if (((Lives_home v0) (Int32.toNatClampNeg a1)) + (if (-3) < (if q17.1 < 3 then q17.1 else 3) then (if q17.1 < 3 then q17.1 else 3) else (-3))) < 9 then (((Lives_home v0) (Int32.toNatClampNeg a1)) + (if (-3) < (if q17.1 < 3 then q17.1 else 3) then (if q17.1 < 3 then q17.1 else 3) else (-3))) else 9) else 0))), kTown 8 16 v1, kLaws 16 (Laws_s_facts_stack v2 q16 q17.2)] : List (List zE)).flatten))
    obtain ⟨b19, hf⟩ := zneed hf
    refine ⟨b19, ?_⟩
    obtain ⟨b18, hf⟩ := zneed hf
    refine ⟨b18, ?_⟩
    cases hf
    exact AW.vret hZ hE rfl rfl rfl (Nat.le_refl 0) (Nat.le_refl 0) rfl ⟨rfl, rfl⟩
def f_Lives_passDays_L10 (N : Nat) : Nat → VLives → VTown → VLaws → Int32 → Int32 → Int32 → Int32 → (Nat → Int32) → (Nat → Int32) → (Nat → Int32) → (Nat → Int32) → (Nat → Int32) → Option ((Nat → Int32) × (Nat → Int32) × (Nat → Int32) × (Nat → Int32) × (Nat → Int32))
  | 0, _, _, _, _, _, _, _, _, _, _, _, _ => none
  | fuel + 1, v0, v1, v2, y1, y2, y3, x4, m_purse0, m_debt1, m_home2, m_facts3, m_stack4 => (if ((Town_people v1) ≤ x4) then (some (m_purse0, m_debt1, m_home2, m_facts3, m_stack4)) else (if (6 ≤ x4) then (some (m_purse0, m_debt1, m_home2, m_facts3, m_stack4)) else ((f_Lives_spend N (Lives_s_purse_debt_home v0 m_purse0 m_debt1 m_home2) v1 (Laws_s_facts_stack v2 m_facts3 m_stack4) x4 y2).bind (fun q4 => ((f_Lives_mend N (Lives_s_purse_debt_home v0 q4.1 q4.2.1 m_home2) v1 (Laws_s_facts_stack v2 q4.2.2.1 q4.2.2.2) x4).bind (fun q5 => (f_Lives_passDays_L10 N fuel v0 v1 v2 y1 y2 y3 (x4 + 1) q4.1 q4.2.1 q5.1 q5.2.1 q5.2.2)))))))
def f_Lives_passDays_L2 (N : Nat) : Nat → VLives → VTown → VLaws → Int32 → Int32 → Int32 → (Nat → Int32) → (Nat → Int32) → (Nat → Int32) → Int32 → (Nat → Int32) → (Nat → Int32) → Option ((Nat → Int32) × (Nat → Int32) × (Nat → Int32) × Int32 × (Nat → Int32) × (Nat → Int32))
  | 0, _, _, _, _, _, _, _, _, _, _, _, _ => none
  | fuel + 1, v0, v1, v2, y1, y2, x3, m_purse0, m_debt1, m_home2, m_days3, m_facts4, m_stack5 => (if (y1 ≤ x3) then (some (m_purse0, m_debt1, m_home2, m_days3, m_facts4, m_stack5)) else ((f_Lives_passDays_L10 N N (Lives_s_purse_debt_home_days v0 m_purse0 m_debt1 m_home2 m_days3) v1 (Laws_s_facts_stack v2 m_facts4 m_stack5) y1 y2 x3 0 m_purse0 m_debt1 m_home2 m_facts4 m_stack5).bind (fun q8 => (f_Lives_passDays_L2 N fuel v0 v1 v2 y1 y2 (x3 + 1) q8.1 q8.2.1 q8.2.2.1 (m_days3 + 1) q8.2.2.2.1 q8.2.2.2.2))))
def f_Lives_passDays (N : Nat) (v0 : VLives) (v1 : VTown) (v2 : VLaws) (a1 : Int32) (a2 : Int32) : Option ((Nat → Int32) × (Nat → Int32) × (Nat → Int32) × Int32 × (Nat → Int32) × (Nat → Int32)) := ((f_Lives_passDays_L2 N N v0 v1 v2 a1 a2 0 (Lives_purse v0) (Lives_debt v0) (Lives_home v0) (Lives_days v0) (Laws_facts v2) (Laws_stack v2)).bind (fun q10 => (some (q10.1, q10.2.1, q10.2.2.1, q10.2.2.2.1, q10.2.2.2.2.1, q10.2.2.2.2.2))))
set_option maxRecDepth 20000 in
set_option maxHeartbeats 4000000 in
theorem c_Lives_passDays_L10 {Z : zCtx} {D n0w nf mcw msw : Nat} (hZ : zOk Z zMX3_passDays) (hR : zCan Z D mcw msw) (hDd : 4 ≤ D) (hN : zNew Z n0w nf) (hRm : zRoom Z 0 0) (N : Nat) : ∀ (fuel : Nat) (v0 : VLives) (v1 : VTown) (v2 : VLaws) (y1 : Int32) (y2 : Int32) (y3 : Int32) (x4 : Int32) (m_purse0 : (Nat → Int32)) (m_debt1 : (Nat → Int32)) (m_home2 : (Nat → Int32)) (m_facts3 : (Nat → Int32)) (m_stack4 : (Nat → Int32)) (q : ((Nat → Int32) × (Nat → Int32) × (Nat → Int32) × (Nat → Int32) × (Nat → Int32))), f_Lives_passDays_L10 N fuel v0 v1 v2 y1 y2 y3 x4 m_purse0 m_debt1 m_home2 m_facts3 m_stack4 = some q → (AW Z 0 0 48 [some (.ref 0), some (.int y1), some (.int y2), some (.int y3), none] [] ([kLives 0 8 (Lives_s_purse_debt_home v0 q.1 q.2.1 q.2.2.1), kTown 8 16 v1, kLaws 16 (Laws_s_facts_stack v2 q.2.2.2.1 q.2.2.2.2)] : List (List zE)).flatten) → AW Z 0 0 10 [some (.ref 0), some (.int y1), some (.int y2), some (.int y3), some (.int x4)] [] ([kLives 0 8 (Lives_s_purse_debt_home v0 m_purse0 m_debt1 m_home2), kTown 8 16 v1, kLaws 16 (Laws_s_facts_stack v2 m_facts3 m_stack4)] : List (List zE)).flatten := by
  intro fuel
  induction fuel with
  | zero =>
    intro v0 v1 v2 y1 y2 y3 x4 m_purse0 m_debt1 m_home2 m_facts3 m_stack4 q hf hk0
    simp [f_Lives_passDays_L10] at hf
  | succ fuel ih =>
    intro v0 v1 v2 y1 y2 y3 x4 m_purse0 m_debt1 m_home2 m_facts3 m_stack4 q hf hk0
    rw [f_Lives_passDays_L10] at hf
    refine AW.run hZ hRm [33, 48] 400 ?_
    show ((((Town_people v1) ≤ x4) → AW Z 0 0 48 [some (.ref 0), some (.int y1), some (.int y2), some (.int y3), some (.int x4)] [] ([kLives 0 8 (Lives_s_purse_debt_home v0 m_purse0 m_debt1 m_home2), kTown 8 16 v1, kLaws 16 (Laws_s_facts_stack v2 m_facts3 m_stack4)] : List (List zE)).flatten) ∧ (¬ ((Town_people v1) ≤ x4) → (((6 ≤ x4) → AW Z 0 0 48 [some (.ref 0), some (.int y1), some (.int y2), some (.int y3), some (.int x4)] [] ([kLives 0 8 (Lives_s_purse_debt_home v0 m_purse0 m_debt1 m_home2), kTown 8 16 v1, kLaws 16 (Laws_s_facts_stack v2 m_facts3 m_stack4)] : List (List zE)).flatten) ∧ (¬ (6 ≤ x4) → AW Z 0 0 33 [some (.ref 0), some (.int y1), some (.int y2), some (.int y3), some (.int x4)] [.int y2, .int x4, .ref 0] ([kLives 0 8 (Lives_s_purse_debt_home v0 m_purse0 m_debt1 m_home2), kTown 8 16 v1, kLaws 16 (Laws_s_facts_stack v2 m_facts3 m_stack4)] : List (List zE)).flatten))))
    refine ⟨fun c2 => ?_, fun c2 => ?_⟩
    · rw [if_pos c2] at hf
      cases hf
      refine AW.forget [true, true, true, true, false] ?_
      show AW Z 0 0 48 [some (.ref 0), some (.int y1), some (.int y2), some (.int y3), none] [] ([kLives 0 8 (Lives_s_purse_debt_home v0 m_purse0 m_debt1 m_home2), kTown 8 16 v1, kLaws 16 (Laws_s_facts_stack v2 m_facts3 m_stack4)] : List (List zE)).flatten
      exact hk0
    · rw [if_neg c2] at hf
      refine ⟨fun c3 => ?_, fun c3 => ?_⟩
      · rw [if_pos c3] at hf
        cases hf
        refine AW.forget [true, true, true, true, false] ?_
        show AW Z 0 0 48 [some (.ref 0), some (.int y1), some (.int y2), some (.int y3), none] [] ([kLives 0 8 (Lives_s_purse_debt_home v0 m_purse0 m_debt1 m_home2), kTown 8 16 v1, kLaws 16 (Laws_s_facts_stack v2 m_facts3 m_stack4)] : List (List zE)).flatten
        exact hk0
      · rw [if_neg c3] at hf
        obtain ⟨q4, h7, hf⟩ := zbind hf
        refine AW.callVc hZ hR hN (c_Lives_spend N (Lives_s_purse_debt_home v0 m_purse0 m_debt1 m_home2) v1 (Laws_s_facts_stack v2 m_facts3 m_stack4) x4 y2 q4 h7) zMX3_spend_ok rfl rfl zK_BorrowedLives_Lives_113 zV_X3_spend rfl [8, 8, 6] [0, 1, 2] [0, 1, 2, 3, 4, 5, 6, 7, 8, 9, 10, 11, 12, 13, 14, 15, 16, 17, 18, 19, 20, 21] rfl rfl rfl (by decide) (by decide) (by omega) (by decide) (Nat.zero_le _) (Nat.zero_le _) rfl rfl rfl rfl rfl ?_
        rintro v cc ⟨rfl, rfl⟩
        refine ⟨_, rfl, rfl, ?_⟩
        show AW Z 0 0 36 [some (.ref 0), some (.int y1), some (.int y2), some (.int y3), some (.int x4)] [] ([kLives 0 8 (Lives_s_purse_debt_home v0 q4.1 q4.2.1 m_home2), kTown 8 16 v1, kLaws 16 (Laws_s_facts_stack v2 q4.2.2.1 q4.2.2.2)] : List (List zE)).flatten
        refine AW.run hZ hRm [39] 400 ?_
        show AW Z 0 0 39 [some (.ref 0), some (.int y1), some (.int y2), some (.int y3), some (.int x4)] [.int x4, .ref 0] ([kLives 0 8 (Lives_s_purse_debt_home v0 q4.1 q4.2.1 m_home2), kTown 8 16 v1, kLaws 16 (Laws_s_facts_stack v2 q4.2.2.1 q4.2.2.2)] : List (List zE)).flatten
        obtain ⟨q5, h6, hf⟩ := zbind hf
        refine AW.callVc hZ hR hN (c_Lives_mend N (Lives_s_purse_debt_home v0 q4.1 q4.2.1 m_home2) v1 (Laws_s_facts_stack v2 q4.2.2.1 q4.2.2.2) x4 q5 h6) zMX3_mend_ok rfl rfl zK_BorrowedLives_Lives_116 zV_X3_mend rfl [8, 8, 6] [0, 1, 2] [0, 1, 2, 3, 4, 5, 6, 7, 8, 9, 10, 11, 12, 13, 14, 15, 16, 17, 18, 19, 20, 21] rfl rfl rfl (by decide) (by decide) (by omega) (by decide) (Nat.zero_le _) (Nat.zero_le _) rfl rfl rfl rfl rfl ?_
        rintro v cc ⟨rfl, rfl⟩
        refine ⟨_, rfl, rfl, ?_⟩
        show AW Z 0 0 42 [some (.ref 0), some (.int y1), some (.int y2), some (.int y3), some (.int x4)] [] ([kLives 0 8 (Lives_s_purse_debt_home v0 q4.1 q4.2.1 q5.1), kTown 8 16 v1, kLaws 16 (Laws_s_facts_stack v2 q5.2.1 q5.2.2)] : List (List zE)).flatten
        refine AW.run hZ hRm [10] 400 ?_
        show AW Z 0 0 10 [some (.ref 0), some (.int y1), some (.int y2), some (.int y3), some (.int (x4 + 1))] [] ([kLives 0 8 (Lives_s_purse_debt_home v0 q4.1 q4.2.1 q5.1), kTown 8 16 v1, kLaws 16 (Laws_s_facts_stack v2 q5.2.1 q5.2.2)] : List (List zE)).flatten
        exact ih v0 v1 v2 y1 y2 y3 (x4 + 1) q4.1 q4.2.1 q5.1 q5.2.1 q5.2.2 q hf hk0
set_option maxRecDepth 20000 in
set_option maxHeartbeats 4000000 in
theorem c_Lives_passDays_L2 {Z : zCtx} {D n0w nf mcw msw : Nat} (hZ : zOk Z zMX3_passDays) (hR : zCan Z D mcw msw) (hDd : 4 ≤ D) (hN : zNew Z n0w nf) (hRm : zRoom Z 0 0) (N : Nat) : ∀ (fuel : Nat) (v0 : VLives) (v1 : VTown) (v2 : VLaws) (y1 : Int32) (y2 : Int32) (x3 : Int32) (m_purse0 : (Nat → Int32)) (m_debt1 : (Nat → Int32)) (m_home2 : (Nat → Int32)) (m_days3 : Int32) (m_facts4 : (Nat → Int32)) (m_stack5 : (Nat → Int32)) (q : ((Nat → Int32) × (Nat → Int32) × (Nat → Int32) × Int32 × (Nat → Int32) × (Nat → Int32))), f_Lives_passDays_L2 N fuel v0 v1 v2 y1 y2 x3 m_purse0 m_debt1 m_home2 m_days3 m_facts4 m_stack5 = some q → (AW Z 0 0 64 [none, none, none, none, none] [] ([kLives 0 8 (Lives_s_purse_debt_home_days v0 q.1 q.2.1 q.2.2.1 q.2.2.2.1), kTown 8 16 v1, kLaws 16 (Laws_s_facts_stack v2 q.2.2.2.2.1 q.2.2.2.2.2)] : List (List zE)).flatten) → AW Z 0 0 2 [some (.ref 0), some (.int y1), some (.int y2), some (.int x3), none] [] ([kLives 0 8 (Lives_s_purse_debt_home_days v0 m_purse0 m_debt1 m_home2 m_days3), kTown 8 16 v1, kLaws 16 (Laws_s_facts_stack v2 m_facts4 m_stack5)] : List (List zE)).flatten := by
  intro fuel
  induction fuel with
  | zero =>
    intro v0 v1 v2 y1 y2 x3 m_purse0 m_debt1 m_home2 m_days3 m_facts4 m_stack5 q hf hk0
    simp [f_Lives_passDays_L2] at hf
  | succ fuel ih =>
    intro v0 v1 v2 y1 y2 x3 m_purse0 m_debt1 m_home2 m_days3 m_facts4 m_stack5 q hf hk0
    rw [f_Lives_passDays_L2] at hf
    refine AW.run hZ hRm [10, 64] 400 ?_
    show (((y1 ≤ x3) → AW Z 0 0 64 [some (.ref 0), some (.int y1), some (.int y2), some (.int x3), none] [] ([kLives 0 8 (Lives_s_purse_debt_home_days v0 m_purse0 m_debt1 m_home2 m_days3), kTown 8 16 v1, kLaws 16 (Laws_s_facts_stack v2 m_facts4 m_stack5)] : List (List zE)).flatten) ∧ (¬ (y1 ≤ x3) → AW Z 0 0 10 [some (.ref 0), some (.int y1), some (.int y2), some (.int x3), some (.int 0)] [] ([kLives 0 8 (Lives_s_purse_debt_home_days v0 m_purse0 m_debt1 m_home2 m_days3), kTown 8 16 v1, kLaws 16 (Laws_s_facts_stack v2 m_facts4 m_stack5)] : List (List zE)).flatten))
    refine ⟨fun c1 => ?_, fun c1 => ?_⟩
    · rw [if_pos c1] at hf
      cases hf
      refine AW.forget [false, false, false, false, false] ?_
      show AW Z 0 0 64 [none, none, none, none, none] [] ([kLives 0 8 (Lives_s_purse_debt_home_days v0 m_purse0 m_debt1 m_home2 m_days3), kTown 8 16 v1, kLaws 16 (Laws_s_facts_stack v2 m_facts4 m_stack5)] : List (List zE)).flatten
      exact hk0
    · rw [if_neg c1] at hf
      obtain ⟨q8, h9, hf⟩ := zbind hf
      refine c_Lives_passDays_L10 hZ hR (by omega) hN hRm N N (Lives_s_purse_debt_home_days v0 m_purse0 m_debt1 m_home2 m_days3) v1 (Laws_s_facts_stack v2 m_facts4 m_stack5) y1 y2 x3 0 m_purse0 m_debt1 m_home2 m_facts4 m_stack5 q8 h9 ?_
      show AW Z 0 0 48 [some (.ref 0), some (.int y1), some (.int y2), some (.int x3), none] [] ([kLives 0 8 (Lives_s_purse_debt_home_days v0 q8.1 q8.2.1 q8.2.2.1 m_days3), kTown 8 16 v1, kLaws 16 (Laws_s_facts_stack v2 q8.2.2.2.1 q8.2.2.2.2)] : List (List zE)).flatten
      refine AW.run hZ hRm [2] 400 ?_
      show AW Z 0 0 2 [some (.ref 0), some (.int y1), some (.int y2), some (.int (x3 + 1)), none] [] ([kLives 0 8 (Lives_s_purse_debt_home_days v0 q8.1 q8.2.1 q8.2.2.1 (m_days3 + 1)), kTown 8 16 v1, kLaws 16 (Laws_s_facts_stack v2 q8.2.2.2.1 q8.2.2.2.2)] : List (List zE)).flatten
      exact ih v0 v1 v2 y1 y2 (x3 + 1) q8.1 q8.2.1 q8.2.2.1 (m_days3 + 1) q8.2.2.2.1 q8.2.2.2.2 q hf hk0
set_option maxRecDepth 20000 in
set_option maxHeartbeats 4000000 in
theorem c_Lives_passDays (N : Nat) (v0 : VLives) (v1 : VTown) (v2 : VLaws) (a1 : Int32) (a2 : Int32) (R : (Nat → Int32) × (Nat → Int32) × (Nat → Int32) × Int32 × (Nat → Int32) × (Nat → Int32)) (hf : f_Lives_passDays N v0 v1 v2 a1 a2 = some R) : Ct zMX3_passDays 4 0 0 0 [.ref 0, .int a1, .int a2] ([kLives 0 8 v0, kTown 8 16 v1, kLaws 16 v2] : List (List zE)).flatten (fun v cc => v = none ∧ cc = ([kLives 0 8 (Lives_s_purse_debt_home_days v0 R.1 R.2.1 R.2.2.1 R.2.2.2.1), kTown 8 16 v1, kLaws 16 (Laws_s_facts_stack v2 R.2.2.2.2.1 R.2.2.2.2.2)] : List (List zE)).flatten) := by
  refine Ct.of zMX3_passDays_ok (by decide) (Nat.le_of_ble_eq_true rfl) ?_
  intro Z hZ hR hN hE
  have hRm : zRoom Z 0 0 := zRoom0 Z
  unfold f_Lives_passDays at hf
  show AW Z 0 0 0 [some (.ref 0), some (.int a1), some (.int a2), none, none] [] ([kLives 0 8 v0, kTown 8 16 v1, kLaws 16 v2] : List (List zE)).flatten
  refine AW.run hZ hRm [2] 400 ?_
  show AW Z 0 0 2 [some (.ref 0), some (.int a1), some (.int a2), some (.int 0), none] [] ([kLives 0 8 v0, kTown 8 16 v1, kLaws 16 v2] : List (List zE)).flatten
  obtain ⟨q10, h11, hf⟩ := zbind hf
  refine c_Lives_passDays_L2 hZ hR (by omega) hN hRm N N v0 v1 v2 a1 a2 0 (Lives_purse v0) (Lives_debt v0) (Lives_home v0) (Lives_days v0) (Laws_facts v2) (Laws_stack v2) q10 h11 ?_
  show AW Z 0 0 64 [none, none, none, none, none] [] ([kLives 0 8 (Lives_s_purse_debt_home_days v0 q10.1 q10.2.1 q10.2.2.1 q10.2.2.2.1), kTown 8 16 v1, kLaws 16 (Laws_s_facts_stack v2 q10.2.2.2.2.1 q10.2.2.2.2.2)] : List (List zE)).flatten
  cases hf
  exact AW.vret hZ hE rfl rfl rfl (Nat.le_refl 0) (Nat.le_refl 0) rfl ⟨rfl, rfl⟩
def f_Lives_harmOf (N : Nat) (v0 : VLives) (v1 : VTown) (v2 : VLaws) (a1 : Int32) : Option (Int32) := (if ((Lives_away v0) = 0) then (some 0) else ((f_Town_has N v1 v2 a1).bind (fun q2 => (if (q2 = 0) then (some 0) else (if (a1 < 0 ∨ 6 ≤ Int32.toNatClampNeg a1) then none else (if (a1 < 0 ∨ 6 ≤ Int32.toNatClampNeg a1) then none else (if (a1 < 0 ∨ 6 ≤ Int32.toNatClampNeg a1) then none else (if (a1 < 0 ∨ 6 ≤ Int32.toNatClampNeg a1) then none else (if (a1 < 0 ∨ 6 ≤ Int32.toNatClampNeg a1) then none else (some ((if 0 < (((Lives_worthThen v0) (Int32.toNatClampNeg a1)) - (((Lives_purse v0) (Int32.toNatClampNeg a1)) - ((Lives_debt v0) (Int32.toNatClampNeg a1)))) then (((Lives_worthThen v0) (Int32.toNatClampNeg a1)) - (((Lives_purse v0) (Int32.toNatClampNeg a1)) - ((Lives_debt v0) (Int32.toNatClampNeg a1)))) else 0) + (5 * (if 0 < (((Lives_homeThen v0) (Int32.toNatClampNeg a1)) - ((Lives_home v0) (Int32.toNatClampNeg a1))) then (((Lives_homeThen v0) (Int32.toNatClampNeg a1)) - ((Lives_home v0) (Int32.toNatClampNeg a1))) else 0)))))))))))))
set_option maxRecDepth 20000 in
set_option maxHeartbeats 4000000 in
theorem c_Lives_harmOf (N : Nat) (v0 : VLives) (v1 : VTown) (v2 : VLaws) (a1 : Int32) (R : Int32) (hf : f_Lives_harmOf N v0 v1 v2 a1 = some R) : Ct zMX3_harmOf 2 0 0 0 [.ref 0, .int a1] ([kLives 0 8 v0, kTown 8 16 v1, kLaws 16 v2] : List (List zE)).flatten (fun v cc => v = some (.int R) ∧ cc = ([kLives 0 8 v0, kTown 8 16 v1, kLaws 16 v2] : List (List zE)).flatten) := by
  refine Ct.of zMX3_harmOf_ok (by decide) (Nat.le_of_ble_eq_true rfl) ?_
  intro Z hZ hR hN hE
  have hRm : zRoom Z 0 0 := zRoom0 Z
  unfold f_Lives_harmOf at hf
  show AW Z 0 0 0 [some (.ref 0), some (.int a1)] [] ([kLives 0 8 v0, kTown 8 16 v1, kLaws 16 v2] : List (List zE)).flatten
  refine AW.run hZ hRm [12, 19] 400 ?_
  show ((((Lives_away v0) = 0) → AW Z 0 0 19 [some (.ref 0), some (.int a1)] [.int 0] ([kLives 0 8 v0, kTown 8 16 v1, kLaws 16 v2] : List (List zE)).flatten) ∧ (¬ ((Lives_away v0) = 0) → AW Z 0 0 12 [some (.ref 0), some (.int a1)] [.int a1, .ref 8] ([kLives 0 8 v0, kTown 8 16 v1, kLaws 16 v2] : List (List zE)).flatten))
  refine ⟨fun c1 => ?_, fun c1 => ?_⟩
  · rw [if_pos c1] at hf
    cases hf
    exact AW.iret hZ hE rfl rfl rfl rfl (Nat.le_refl 0) (Nat.le_refl 0) rfl ⟨rfl, rfl⟩
  · rw [if_neg c1] at hf
    obtain ⟨q2, h9, hf⟩ := zbind hf
    refine AW.callVc hZ hR hN (c_Town_has N v1 v2 a1 q2 h9) zMX8_has_ok rfl rfl zK_BorrowedLives_Lives_70 zV_X8_has rfl [8, 8, 6] [1, 2] [8, 9, 10, 11, 12, 13, 14, 15, 16, 17, 18, 19, 20, 21] rfl rfl rfl (by decide) (by decide) (by omega) (by decide) (Nat.zero_le _) (Nat.zero_le _) rfl rfl rfl rfl rfl ?_
    rintro v cc ⟨rfl, rfl⟩
    refine ⟨_, rfl, rfl, ?_⟩
    show AW Z 0 0 15 [some (.ref 0), some (.int a1)] [.int q2] ([kLives 0 8 v0, kTown 8 16 v1, kLaws 16 v2] : List (List zE)).flatten
    refine AW.run hZ hRm [19, 64] 400 ?_
    show ((¬ (q2 = 0) → (¬ (a1 < 0 ∨ 6 ≤ Int32.toNatClampNeg a1) ∧ (¬ (a1 < 0 ∨ 6 ≤ Int32.toNatClampNeg a1) ∧ (¬ (a1 < 0 ∨ 6 ≤ Int32.toNatClampNeg a1) ∧ (¬ (a1 < 0 ∨ 6 ≤ Int32.toNatClampNeg a1) ∧ (¬ (a1 < 0 ∨ 6 ≤ Int32.toNatClampNeg a1) ∧ AW Z 0 0 64 [some (.ref 0), some (.int a1)] [.int ((if 0 < (((Lives_worthThen v0) (Int32.toNatClampNeg a1)) - (((Lives_purse v0) (Int32.toNatClampNeg a1)) - ((Lives_debt v0) (Int32.toNatClampNeg a1)))) then (((Lives_worthThen v0) (Int32.toNatClampNeg a1)) - (((Lives_purse v0) (Int32.toNatClampNeg a1)) - ((Lives_debt v0) (Int32.toNatClampNeg a1)))) else 0) + (5 * (if 0 < (((Lives_homeThen v0) (Int32.toNatClampNeg a1)) - ((Lives_home v0) (Int32.toNatClampNeg a1))) then (((Lives_homeThen v0) (Int32.toNatClampNeg a1)) - ((Lives_home v0) (Int32.toNatClampNeg a1))) else 0)))] ([kLives 0 8 v0, kTown 8 16 v1, kLaws 16 v2] : List (List zE)).flatten)))))) ∧ ((q2 = 0) → AW Z 0 0 19 [some (.ref 0), some (.int a1)] [.int 0] ([kLives 0 8 v0, kTown 8 16 v1, kLaws 16 v2] : List (List zE)).flatten))
    refine ⟨fun c3 => ?_, fun c3 => ?_⟩
    · rw [if_neg c3] at hf
      obtain ⟨b8, hf⟩ := zneed hf
      refine ⟨b8, ?_⟩
      obtain ⟨b7, hf⟩ := zneed hf
      refine ⟨b7, ?_⟩
      obtain ⟨b6, hf⟩ := zneed hf
      refine ⟨b6, ?_⟩
      obtain ⟨b5, hf⟩ := zneed hf
      refine ⟨b5, ?_⟩
      obtain ⟨b4, hf⟩ := zneed hf
      refine ⟨b4, ?_⟩
      cases hf
      exact AW.iret hZ hE rfl rfl rfl rfl (Nat.le_refl 0) (Nat.le_refl 0) rfl ⟨rfl, rfl⟩
    · rw [if_pos c3] at hf
      cases hf
      exact AW.iret hZ hE rfl rfl rfl rfl (Nat.le_refl 0) (Nat.le_refl 0) rfl ⟨rfl, rfl⟩
def f_Lives_harmOfAll_L4 (N : Nat) : Nat → VLives → VTown → VLaws → Int32 → Int32 → Option (Int32)
  | 0, _, _, _, _, _ => none
  | fuel + 1, v0, v1, v2, x1, x2 => (if ((Town_people v1) ≤ x2) then (some x1) else ((f_Lives_harmOf N v0 v1 v2 x2).bind (fun q2 => (f_Lives_harmOfAll_L4 N fuel v0 v1 v2 (x1 + q2) (x2 + 1)))))
def f_Lives_harmOfAll (N : Nat) (v0 : VLives) (v1 : VTown) (v2 : VLaws) : Option (Int32) := ((f_Lives_harmOfAll_L4 N N v0 v1 v2 0 0).bind (fun q4 => (some q4)))
set_option maxRecDepth 20000 in
set_option maxHeartbeats 4000000 in
theorem c_Lives_harmOfAll_L4 {Z : zCtx} {D n0w nf mcw msw : Nat} (hZ : zOk Z zMX3_harmOfAll) (hR : zCan Z D mcw msw) (hDd : 3 ≤ D) (hN : zNew Z n0w nf) (hRm : zRoom Z 0 0) (N : Nat) : ∀ (fuel : Nat) (v0 : VLives) (v1 : VTown) (v2 : VLaws) (x1 : Int32) (x2 : Int32) (q : (Int32)), f_Lives_harmOfAll_L4 N fuel v0 v1 v2 x1 x2 = some q → (AW Z 0 0 29 [none, some (.int q), none] [] ([kLives 0 8 v0, kTown 8 16 v1, kLaws 16 v2] : List (List zE)).flatten) → AW Z 0 0 4 [some (.ref 0), some (.int x1), some (.int x2)] [] ([kLives 0 8 v0, kTown 8 16 v1, kLaws 16 v2] : List (List zE)).flatten := by
  intro fuel
  induction fuel with
  | zero =>
    intro v0 v1 v2 x1 x2 q hf hk0
    simp [f_Lives_harmOfAll_L4] at hf
  | succ fuel ih =>
    intro v0 v1 v2 x1 x2 q hf hk0
    rw [f_Lives_harmOfAll_L4] at hf
    refine AW.run hZ hRm [18, 29] 400 ?_
    show ((((Town_people v1) ≤ x2) → AW Z 0 0 29 [some (.ref 0), some (.int x1), some (.int x2)] [] ([kLives 0 8 v0, kTown 8 16 v1, kLaws 16 v2] : List (List zE)).flatten) ∧ (¬ ((Town_people v1) ≤ x2) → AW Z 0 0 18 [some (.ref 0), some (.int x1), some (.int x2)] [.int x2, .ref 0, .int x1] ([kLives 0 8 v0, kTown 8 16 v1, kLaws 16 v2] : List (List zE)).flatten))
    refine ⟨fun c1 => ?_, fun c1 => ?_⟩
    · rw [if_pos c1] at hf
      cases hf
      refine AW.forget [false, true, false] ?_
      show AW Z 0 0 29 [none, some (.int x1), none] [] ([kLives 0 8 v0, kTown 8 16 v1, kLaws 16 v2] : List (List zE)).flatten
      exact hk0
    · rw [if_neg c1] at hf
      obtain ⟨q2, h3, hf⟩ := zbind hf
      refine AW.callVc hZ hR hN (c_Lives_harmOf N v0 v1 v2 x2 q2 h3) zMX3_harmOf_ok rfl rfl zK_BorrowedLives_Lives_160 zV_X3_harmOf rfl [8, 8, 6] [0, 1, 2] [0, 1, 2, 3, 4, 5, 6, 7, 8, 9, 10, 11, 12, 13, 14, 15, 16, 17, 18, 19, 20, 21] rfl rfl rfl (by decide) (by decide) (by omega) (by decide) (Nat.zero_le _) (Nat.zero_le _) rfl rfl rfl rfl rfl ?_
      rintro v cc ⟨rfl, rfl⟩
      refine ⟨_, rfl, rfl, ?_⟩
      show AW Z 0 0 21 [some (.ref 0), some (.int x1), some (.int x2)] [.int q2, .int x1] ([kLives 0 8 v0, kTown 8 16 v1, kLaws 16 v2] : List (List zE)).flatten
      refine AW.run hZ hRm [4] 400 ?_
      show AW Z 0 0 4 [some (.ref 0), some (.int (x1 + q2)), some (.int (x2 + 1))] [] ([kLives 0 8 v0, kTown 8 16 v1, kLaws 16 v2] : List (List zE)).flatten
      exact ih v0 v1 v2 (x1 + q2) (x2 + 1) q hf hk0
set_option maxRecDepth 20000 in
set_option maxHeartbeats 4000000 in
theorem c_Lives_harmOfAll (N : Nat) (v0 : VLives) (v1 : VTown) (v2 : VLaws) (R : Int32) (hf : f_Lives_harmOfAll N v0 v1 v2 = some R) : Ct zMX3_harmOfAll 3 0 0 0 [.ref 0] ([kLives 0 8 v0, kTown 8 16 v1, kLaws 16 v2] : List (List zE)).flatten (fun v cc => v = some (.int R) ∧ cc = ([kLives 0 8 v0, kTown 8 16 v1, kLaws 16 v2] : List (List zE)).flatten) := by
  refine Ct.of zMX3_harmOfAll_ok (by decide) (Nat.le_of_ble_eq_true rfl) ?_
  intro Z hZ hR hN hE
  have hRm : zRoom Z 0 0 := zRoom0 Z
  unfold f_Lives_harmOfAll at hf
  show AW Z 0 0 0 [some (.ref 0), none, none] [] ([kLives 0 8 v0, kTown 8 16 v1, kLaws 16 v2] : List (List zE)).flatten
  refine AW.run hZ hRm [4] 400 ?_
  show AW Z 0 0 4 [some (.ref 0), some (.int 0), some (.int 0)] [] ([kLives 0 8 v0, kTown 8 16 v1, kLaws 16 v2] : List (List zE)).flatten
  obtain ⟨q4, h5, hf⟩ := zbind hf
  refine c_Lives_harmOfAll_L4 hZ hR (by omega) hN hRm N N v0 v1 v2 0 0 q4 h5 ?_
  show AW Z 0 0 29 [none, some (.int q4), none] [] ([kLives 0 8 v0, kTown 8 16 v1, kLaws 16 v2] : List (List zE)).flatten
  refine AW.run hZ hRm [30] 400 ?_
  show AW Z 0 0 30 [none, some (.int q4), none] [.int q4] ([kLives 0 8 v0, kTown 8 16 v1, kLaws 16 v2] : List (List zE)).flatten
  cases hf
  exact AW.iret hZ hE rfl rfl rfl rfl (Nat.le_refl 0) (Nat.le_refl 0) rfl ⟨rfl, rfl⟩
