def f_Year_readFrom_L11 (N : Nat) : Nat → VYear → VTape → VTown → VLaws → Int32 → Int32 → (Nat → Int32) → (Nat → Int32) → (Nat → Int32) → Int32 → Int32 → Option (Int32 × (Nat → Int32) × (Nat → Int32) × (Nat → Int32) × Int32 × Int32)
  | 0, _, _, _, _, _, _, _, _, _, _, _ => none
  | fuel + 1, v0, v1, v2, v3, x3, m_lines0, m_words1, m_first2, m_second3, m_at4, m_fault5 => (if (40 < x3) then (some (m_lines0, m_words1, m_first2, m_second3, m_at4, m_fault5)) else ((f_Tape_goesOn N (Tape_s_at_fault v1 m_at4 m_fault5)).bind (fun q3 => (if (q3 = 0) then (some (m_lines0, m_words1, m_first2, m_second3, m_at4, m_fault5)) else ((f_Year_readLine N (Year_s_lines_words_first_second v0 m_lines0 m_words1 m_first2 m_second3) (Tape_s_at_fault v1 m_at4 m_fault5) v2 v3).bind (fun q5 => (f_Year_readFrom_L11 N fuel v0 v1 v2 v3 (x3 + 1) q5.1 q5.2.1 q5.2.2.1 q5.2.2.2.1 q5.2.2.2.2.1 q5.2.2.2.2.2)))))))
def f_Year_readFrom (N : Nat) (v0 : VYear) (v1 : VTape) (v2 : VTown) (v3 : VLaws) : Option (Int32 × Int32 × (Nat → Int32) × (Nat → Int32) × (Nat → Int32) × Int32 × (Nat → Int32) × (Nat → Int32) × (Nat → Int64) × Int32 × Int32 × Int32) := ((f_Tape_takeAll N v1).bind (fun q1 => ((f_Year_readFrom_L11 N N (Year_lines_s v0 0) (Tape_s_length_tokens_places_values_tokenCount_at_fault v1 q1.1 q1.2.1 q1.2.2.1 q1.2.2.2.1 q1.2.2.2.2.1 q1.2.2.2.2.2.1 q1.2.2.2.2.2.2) v2 v3 0 0 (Year_words v0) (Year_first v0) (Year_second v0) q1.2.2.2.2.2.1 q1.2.2.2.2.2.2).bind (fun q8 => (some (q8.2.2.2.2.2, q8.1, q8.2.1, q8.2.2.1, q8.2.2.2.1, q1.1, q1.2.1, q1.2.2.1, q1.2.2.2.1, q1.2.2.2.2.1, q8.2.2.2.2.1, q8.2.2.2.2.2))))))
set_option maxRecDepth 20000 in
set_option maxHeartbeats 4000000 in
theorem c_Year_readFrom_L11 {Z : zCtx} {D n0w nf mcw msw : Nat} (hZ : zOk Z zMX10_readFrom) (hR : zCan Z D mcw msw) (hDd : 14 ≤ D) (hN : zNew Z n0w nf) (hRm : zRoom Z 0 0) (N : Nat) : ∀ (fuel : Nat) (v0 : VYear) (v1 : VTape) (v2 : VTown) (v3 : VLaws) (x3 : Int32) (m_lines0 : Int32) (m_words1 : (Nat → Int32)) (m_first2 : (Nat → Int32)) (m_second3 : (Nat → Int32)) (m_at4 : Int32) (m_fault5 : Int32) (q : (Int32 × (Nat → Int32) × (Nat → Int32) × (Nat → Int32) × Int32 × Int32)), f_Year_readFrom_L11 N fuel v0 v1 v2 v3 x3 m_lines0 m_words1 m_first2 m_second3 m_at4 m_fault5 = some q → (AW Z 0 0 36 [none, some (.ref 4), none, none] [] ([kYear 0 (Year_s_lines_words_first_second v0 q.1 q.2.1 q.2.2.1 q.2.2.2.1), kTape 4 (Tape_s_at_fault v1 q.2.2.2.2.1 q.2.2.2.2.2), kTown 9 17 v2, kLaws 17 v3] : List (List zE)).flatten) → AW Z 0 0 11 [some (.ref 0), some (.ref 4), some (.ref 9), some (.int x3)] [] ([kYear 0 (Year_s_lines_words_first_second v0 m_lines0 m_words1 m_first2 m_second3), kTape 4 (Tape_s_at_fault v1 m_at4 m_fault5), kTown 9 17 v2, kLaws 17 v3] : List (List zE)).flatten := by
  intro fuel
  induction fuel with
  | zero =>
    intro v0 v1 v2 v3 x3 m_lines0 m_words1 m_first2 m_second3 m_at4 m_fault5 q hf hk0
    simp [f_Year_readFrom_L11] at hf
  | succ fuel ih =>
    intro v0 v1 v2 v3 x3 m_lines0 m_words1 m_first2 m_second3 m_at4 m_fault5 q hf hk0
    rw [f_Year_readFrom_L11] at hf
    refine AW.run hZ hRm [18, 36] 400 ?_
    show (((40 < x3) → AW Z 0 0 36 [some (.ref 0), some (.ref 4), some (.ref 9), some (.int x3)] [] ([kYear 0 (Year_s_lines_words_first_second v0 m_lines0 m_words1 m_first2 m_second3), kTape 4 (Tape_s_at_fault v1 m_at4 m_fault5), kTown 9 17 v2, kLaws 17 v3] : List (List zE)).flatten) ∧ (¬ (40 < x3) → AW Z 0 0 18 [some (.ref 0), some (.ref 4), some (.ref 9), some (.int x3)] [.ref 4] ([kYear 0 (Year_s_lines_words_first_second v0 m_lines0 m_words1 m_first2 m_second3), kTape 4 (Tape_s_at_fault v1 m_at4 m_fault5), kTown 9 17 v2, kLaws 17 v3] : List (List zE)).flatten))
    refine ⟨fun c2 => ?_, fun c2 => ?_⟩
    · rw [if_pos c2] at hf
      cases hf
      refine AW.forget [false, true, false, false] ?_
      show AW Z 0 0 36 [none, some (.ref 4), none, none] [] ([kYear 0 (Year_s_lines_words_first_second v0 m_lines0 m_words1 m_first2 m_second3), kTape 4 (Tape_s_at_fault v1 m_at4 m_fault5), kTown 9 17 v2, kLaws 17 v3] : List (List zE)).flatten
      exact hk0
    · rw [if_neg c2] at hf
      obtain ⟨q3, h7, hf⟩ := zbind hf
      refine AW.callVc hZ hR hN (c_Tape_goesOn N (Tape_s_at_fault v1 m_at4 m_fault5) q3 h7) zMX7_goesOn_ok rfl rfl zK_BorrowedLives_Year_36 zV_X7_goesOn rfl [4, 5, 8, 6] [1] [4, 5, 6, 7, 8] rfl rfl rfl (by decide) (by decide) (by omega) (by decide) (Nat.zero_le _) (Nat.zero_le _) rfl rfl rfl rfl rfl ?_
      rintro v cc ⟨rfl, rfl⟩
      refine ⟨_, rfl, rfl, ?_⟩
      show AW Z 0 0 21 [some (.ref 0), some (.ref 4), some (.ref 9), some (.int x3)] [.int q3] ([kYear 0 (Year_s_lines_words_first_second v0 m_lines0 m_words1 m_first2 m_second3), kTape 4 (Tape_s_at_fault v1 m_at4 m_fault5), kTown 9 17 v2, kLaws 17 v3] : List (List zE)).flatten
      refine AW.run hZ hRm [27, 36] 400 ?_
      show (((q3 = 0) → AW Z 0 0 36 [some (.ref 0), some (.ref 4), some (.ref 9), some (.int x3)] [] ([kYear 0 (Year_s_lines_words_first_second v0 m_lines0 m_words1 m_first2 m_second3), kTape 4 (Tape_s_at_fault v1 m_at4 m_fault5), kTown 9 17 v2, kLaws 17 v3] : List (List zE)).flatten) ∧ (¬ (q3 = 0) → AW Z 0 0 27 [some (.ref 0), some (.ref 4), some (.ref 9), some (.int x3)] [.ref 9, .ref 4, .ref 0] ([kYear 0 (Year_s_lines_words_first_second v0 m_lines0 m_words1 m_first2 m_second3), kTape 4 (Tape_s_at_fault v1 m_at4 m_fault5), kTown 9 17 v2, kLaws 17 v3] : List (List zE)).flatten))
      refine ⟨fun c4 => ?_, fun c4 => ?_⟩
      · rw [if_pos c4] at hf
        cases hf
        refine AW.forget [false, true, false, false] ?_
        show AW Z 0 0 36 [none, some (.ref 4), none, none] [] ([kYear 0 (Year_s_lines_words_first_second v0 m_lines0 m_words1 m_first2 m_second3), kTape 4 (Tape_s_at_fault v1 m_at4 m_fault5), kTown 9 17 v2, kLaws 17 v3] : List (List zE)).flatten
        exact hk0
      · rw [if_neg c4] at hf
        obtain ⟨q5, h6, hf⟩ := zbind hf
        refine AW.callVc hZ hR hN (c_Year_readLine N (Year_s_lines_words_first_second v0 m_lines0 m_words1 m_first2 m_second3) (Tape_s_at_fault v1 m_at4 m_fault5) v2 v3 q5 h6) zMX10_readLine_ok rfl rfl zK_BorrowedLives_Year_40 zV_X10_readLine rfl [4, 5, 8, 6] [0, 1, 2, 3] [0, 1, 2, 3, 4, 5, 6, 7, 8, 9, 10, 11, 12, 13, 14, 15, 16, 17, 18, 19, 20, 21, 22] rfl rfl rfl (by decide) (by decide) (by omega) (by decide) (Nat.zero_le _) (Nat.zero_le _) rfl rfl rfl rfl rfl ?_
        rintro v cc ⟨rfl, rfl⟩
        refine ⟨_, rfl, rfl, ?_⟩
        show AW Z 0 0 30 [some (.ref 0), some (.ref 4), some (.ref 9), some (.int x3)] [] ([kYear 0 (Year_s_lines_words_first_second v0 q5.1 q5.2.1 q5.2.2.1 q5.2.2.2.1), kTape 4 (Tape_s_at_fault v1 q5.2.2.2.2.1 q5.2.2.2.2.2), kTown 9 17 v2, kLaws 17 v3] : List (List zE)).flatten
        refine AW.run hZ hRm [11] 400 ?_
        show AW Z 0 0 11 [some (.ref 0), some (.ref 4), some (.ref 9), some (.int (x3 + 1))] [] ([kYear 0 (Year_s_lines_words_first_second v0 q5.1 q5.2.1 q5.2.2.1 q5.2.2.2.1), kTape 4 (Tape_s_at_fault v1 q5.2.2.2.2.1 q5.2.2.2.2.2), kTown 9 17 v2, kLaws 17 v3] : List (List zE)).flatten
        exact ih v0 v1 v2 v3 (x3 + 1) q5.1 q5.2.1 q5.2.2.1 q5.2.2.2.1 q5.2.2.2.2.1 q5.2.2.2.2.2 q hf hk0
set_option maxRecDepth 20000 in
set_option maxHeartbeats 4000000 in
theorem c_Year_readFrom (N : Nat) (v0 : VYear) (v1 : VTape) (v2 : VTown) (v3 : VLaws) (R : Int32 × Int32 × (Nat → Int32) × (Nat → Int32) × (Nat → Int32) × Int32 × (Nat → Int32) × (Nat → Int32) × (Nat → Int64) × Int32 × Int32 × Int32) (hf : f_Year_readFrom N v0 v1 v2 v3 = some R) : Ct zMX10_readFrom 14 0 0 0 [.ref 0, .ref 4, .ref 9] ([kYear 0 v0, kTape 4 v1, kTown 9 17 v2, kLaws 17 v3] : List (List zE)).flatten (fun v cc => v = some (.int R.1) ∧ cc = ([kYear 0 (Year_s_lines_words_first_second v0 R.2.1 R.2.2.1 R.2.2.2.1 R.2.2.2.2.1), kTape 4 (Tape_s_length_tokens_places_values_tokenCount_at_fault v1 R.2.2.2.2.2.1 R.2.2.2.2.2.2.1 R.2.2.2.2.2.2.2.1 R.2.2.2.2.2.2.2.2.1 R.2.2.2.2.2.2.2.2.2.1 R.2.2.2.2.2.2.2.2.2.2.1 R.2.2.2.2.2.2.2.2.2.2.2), kTown 9 17 v2, kLaws 17 v3] : List (List zE)).flatten) := by
  refine Ct.of zMX10_readFrom_ok (by decide) (Nat.le_of_ble_eq_true rfl) ?_
  intro Z hZ hR hN hE
  have hRm : zRoom Z 0 0 := zRoom0 Z
  unfold f_Year_readFrom at hf
  show AW Z 0 0 0 [some (.ref 0), some (.ref 4), some (.ref 9), none] [] ([kYear 0 v0, kTape 4 v1, kTown 9 17 v2, kLaws 17 v3] : List (List zE)).flatten
  refine AW.run hZ hRm [6] 400 ?_
  show AW Z 0 0 6 [some (.ref 0), some (.ref 4), some (.ref 9), none] [.ref 4] ([kYear 0 (Year_lines_s v0 0), kTape 4 v1, kTown 9 17 v2, kLaws 17 v3] : List (List zE)).flatten
  obtain ⟨q1, h10, hf⟩ := zbind hf
  refine AW.callVc hZ hR hN (c_Tape_takeAll N v1 q1 h10) zMX7_takeAll_ok rfl rfl zK_BorrowedLives_Year_31 zV_X7_takeAll rfl [4, 5, 8, 6] [1] [4, 5, 6, 7, 8] rfl rfl rfl (by decide) (by decide) (by omega) (by decide) (Nat.zero_le _) (Nat.zero_le _) rfl rfl rfl rfl rfl ?_
  rintro v cc ⟨rfl, rfl⟩
  refine ⟨_, rfl, rfl, ?_⟩
  show AW Z 0 0 9 [some (.ref 0), some (.ref 4), some (.ref 9), none] [] ([kYear 0 (Year_lines_s v0 0), kTape 4 (Tape_s_length_tokens_places_values_tokenCount_at_fault v1 q1.1 q1.2.1 q1.2.2.1 q1.2.2.2.1 q1.2.2.2.2.1 q1.2.2.2.2.2.1 q1.2.2.2.2.2.2), kTown 9 17 v2, kLaws 17 v3] : List (List zE)).flatten
  refine AW.run hZ hRm [11] 400 ?_
  show AW Z 0 0 11 [some (.ref 0), some (.ref 4), some (.ref 9), some (.int 0)] [] ([kYear 0 (Year_lines_s v0 0), kTape 4 (Tape_s_length_tokens_places_values_tokenCount_at_fault v1 q1.1 q1.2.1 q1.2.2.1 q1.2.2.2.1 q1.2.2.2.2.1 q1.2.2.2.2.2.1 q1.2.2.2.2.2.2), kTown 9 17 v2, kLaws 17 v3] : List (List zE)).flatten
  obtain ⟨q8, h9, hf⟩ := zbind hf
  refine c_Year_readFrom_L11 hZ hR (by omega) hN hRm N N (Year_lines_s v0 0) (Tape_s_length_tokens_places_values_tokenCount_at_fault v1 q1.1 q1.2.1 q1.2.2.1 q1.2.2.2.1 q1.2.2.2.2.1 q1.2.2.2.2.2.1 q1.2.2.2.2.2.2) v2 v3 0 0 (Year_words v0) (Year_first v0) (Year_second v0) q1.2.2.2.2.2.1 q1.2.2.2.2.2.2 q8 h9 ?_
  show AW Z 0 0 36 [none, some (.ref 4), none, none] [] ([kYear 0 (Year_s_lines_words_first_second v0 q8.1 q8.2.1 q8.2.2.1 q8.2.2.2.1), kTape 4 (Tape_s_length_tokens_places_values_tokenCount_at_fault v1 q1.1 q1.2.1 q1.2.2.1 q1.2.2.2.1 q1.2.2.2.2.1 q8.2.2.2.2.1 q8.2.2.2.2.2), kTown 9 17 v2, kLaws 17 v3] : List (List zE)).flatten
  refine AW.run hZ hRm [40] 400 ?_
  show AW Z 0 0 40 [none, some (.ref 4), none, none] [.int q8.2.2.2.2.2] ([kYear 0 (Year_s_lines_words_first_second v0 q8.1 q8.2.1 q8.2.2.1 q8.2.2.2.1), kTape 4 (Tape_s_length_tokens_places_values_tokenCount_at_fault v1 q1.1 q1.2.1 q1.2.2.1 q1.2.2.2.1 q1.2.2.2.2.1 q8.2.2.2.2.1 q8.2.2.2.2.2), kTown 9 17 v2, kLaws 17 v3] : List (List zE)).flatten
  cases hf
  exact AW.iret hZ hE rfl rfl rfl rfl (Nat.le_refl 0) (Nat.le_refl 0) rfl ⟨rfl, rfl⟩
def f_Year_doLine (N : Nat) (v0 : VYear) (v1 : VLives) (v2 : VTown) (v3 : VLaws) (v4 : VLots) (a1 : Int32) : Option (Int32 × (Nat → Int32) × (Nat → Int32) × (Nat → Int32) × (Nat → Int32) × (Nat → Int32) × (Nat → Int32) × (Nat → Int32) × Int32 × Int32 × Int32 × Int32 × (Nat → Int32) × (Nat → Int32)) := (if (a1 < 0 ∨ 40 ≤ Int32.toNatClampNeg a1) then none else (if (((Year_words v0) (Int32.toNatClampNeg a1)) = 139) then (if (a1 < 0 ∨ 40 ≤ Int32.toNatClampNeg a1) then none else (if (a1 < 0 ∨ 40 ≤ Int32.toNatClampNeg a1) then none else ((f_Lives_hideCoins N v1 v2 v3 ((Year_first v0) (Int32.toNatClampNeg a1)) ((Year_second v0) (Int32.toNatClampNeg a1))).bind (fun q20 => (if (q20.1 = 0 ∨ q20.1 = 1) then (some (q20.1, (Lives_purse v1), (Lives_debt v1), (Lives_home v1), q20.2, (Lives_self v1), (Lives_worthThen v1), (Lives_homeThen v1), (Lives_away v1), (Lives_days v1), (Lives_homes v1), (Lives_harm v1), (Laws_facts v3), (Laws_stack v3))) else none))))) else (if (((Year_words v0) (Int32.toNatClampNeg a1)) = 140) then (if (a1 < 0 ∨ 40 ≤ Int32.toNatClampNeg a1) then none else ((f_Lives_drawLot N v1 v2 v3 v4 ((Year_first v0) (Int32.toNatClampNeg a1))).bind (fun q15 => (if (q15.1 = (-1)) then (some (0, (Lives_purse v1), (Lives_debt v1), (Lives_home v1), (Lives_hidden v1), q15.2.1, q15.2.2.1, q15.2.2.2.1, q15.2.2.2.2.1, q15.2.2.2.2.2, (Lives_homes v1), (Lives_harm v1), (Laws_facts v3), (Laws_stack v3))) else (some (1, (Lives_purse v1), (Lives_debt v1), (Lives_home v1), (Lives_hidden v1), q15.2.1, q15.2.2.1, q15.2.2.2.1, q15.2.2.2.2.1, q15.2.2.2.2.2, (Lives_homes v1), (Lives_harm v1), (Laws_facts v3), (Laws_stack v3))))))) else (if (((Year_words v0) (Int32.toNatClampNeg a1)) = 141) then (if (a1 < 0 ∨ 40 ≤ Int32.toNatClampNeg a1) then none else (if (a1 < 0 ∨ 40 ≤ Int32.toNatClampNeg a1) then none else ((f_Lives_changeLives N v1 v2 v3 ((Year_first v0) (Int32.toNatClampNeg a1)) ((Year_second v0) (Int32.toNatClampNeg a1))).bind (fun q9 => (if (q9.1 = 0 ∨ q9.1 = 1) then (some (q9.1, (Lives_purse v1), (Lives_debt v1), (Lives_home v1), (Lives_hidden v1), q9.2, (Lives_worthThen v1), (Lives_homeThen v1), (Lives_away v1), (Lives_days v1), (Lives_homes v1), (Lives_harm v1), (Laws_facts v3), (Laws_stack v3))) else none))))) else (if (((Year_words v0) (Int32.toNatClampNeg a1)) = 142) then ((f_Lives_nextDay N v1 v2 v3).bind (fun q5 => (if (q5.1 = 0 ∨ q5.1 = 1) then (some (q5.1, q5.2.1, q5.2.2.1, q5.2.2.2.1, (Lives_hidden v1), (Lives_self v1), (Lives_worthThen v1), (Lives_homeThen v1), (Lives_away v1), q5.2.2.2.2.1, (Lives_homes v1), (Lives_harm v1), q5.2.2.2.2.2.1, q5.2.2.2.2.2.2)) else none))) else ((f_Lives_goHome N v1 v2 v3).bind (fun q1 => (if (q1.1 = (-1)) then (some (0, (Lives_purse v1), (Lives_debt v1), (Lives_home v1), q1.2.1, q1.2.2.1, (Lives_worthThen v1), (Lives_homeThen v1), q1.2.2.2.1, q1.2.2.2.2.1, q1.2.2.2.2.2.1, q1.2.2.2.2.2.2, (Laws_facts v3), (Laws_stack v3))) else (some (1, (Lives_purse v1), (Lives_debt v1), (Lives_home v1), q1.2.1, q1.2.2.1, (Lives_worthThen v1), (Lives_homeThen v1), q1.2.2.2.1, q1.2.2.2.2.1, q1.2.2.2.2.2.1, q1.2.2.2.2.2.2, (Laws_facts v3), (Laws_stack v3)))))))))))
set_option maxRecDepth 20000 in
set_option maxHeartbeats 4000000 in
theorem c_Year_doLine (N : Nat) (v0 : VYear) (v1 : VLives) (v2 : VTown) (v3 : VLaws) (v4 : VLots) (a1 : Int32) (R : Int32 × (Nat → Int32) × (Nat → Int32) × (Nat → Int32) × (Nat → Int32) × (Nat → Int32) × (Nat → Int32) × (Nat → Int32) × Int32 × Int32 × Int32 × Int32 × (Nat → Int32) × (Nat → Int32)) (hf : f_Year_doLine N v0 v1 v2 v3 v4 a1 = some R) : Ct zMX10_doLine 6 0 0 0 [.ref 0, .int a1, .ref 4, .ref 26] ([kYear 0 v0, kLives 4 12 v1, kTown 12 20 v2, kLaws 20 v3, kLots 26 v4] : List (List zE)).flatten (fun v cc => v = some (.int R.1) ∧ cc = ([kYear 0 v0, kLives 4 12 (Lives_s_purse_debt_home_hidden_self_worthThen_homeThen_away_days_homes_harm v1 R.2.1 R.2.2.1 R.2.2.2.1 R.2.2.2.2.1 R.2.2.2.2.2.1 R.2.2.2.2.2.2.1 R.2.2.2.2.2.2.2.1 R.2.2.2.2.2.2.2.2.1 R.2.2.2.2.2.2.2.2.2.1 R.2.2.2.2.2.2.2.2.2.2.1 R.2.2.2.2.2.2.2.2.2.2.2.1), kTown 12 20 v2, kLaws 20 (Laws_s_facts_stack v3 R.2.2.2.2.2.2.2.2.2.2.2.2.1 R.2.2.2.2.2.2.2.2.2.2.2.2.2), kLots 26 v4] : List (List zE)).flatten) := by
  refine Ct.of zMX10_doLine_ok (by decide) (Nat.le_of_ble_eq_true rfl) ?_
  intro Z hZ hR hN hE
  have hRm : zRoom Z 0 0 := zRoom0 Z
  unfold f_Year_doLine at hf
  show AW Z 0 0 0 [some (.ref 0), some (.int a1), some (.ref 4), some (.ref 26)] [] ([kYear 0 v0, kLives 4 12 v1, kTown 12 20 v2, kLaws 20 v3, kLots 26 v4] : List (List zE)).flatten
  refine AW.run hZ hRm [49, 61, 87, 92, 97] 400 ?_
  show (¬ (a1 < 0 ∨ 40 ≤ Int32.toNatClampNeg a1) ∧ ((((Year_words v0) (Int32.toNatClampNeg a1)) = 139 → (¬ (a1 < 0 ∨ 40 ≤ Int32.toNatClampNeg a1) ∧ (¬ (a1 < 0 ∨ 40 ≤ Int32.toNatClampNeg a1) ∧ AW Z 0 0 49 [some (.ref 0), some (.int a1), some (.ref 4), some (.ref 26)] [.int ((Year_second v0) (Int32.toNatClampNeg a1)), .int ((Year_first v0) (Int32.toNatClampNeg a1)), .ref 4] ([kYear 0 v0, kLives 4 12 v1, kTown 12 20 v2, kLaws 20 v3, kLots 26 v4] : List (List zE)).flatten))) ∧ (¬ ((Year_words v0) (Int32.toNatClampNeg a1)) = 139 → ((((Year_words v0) (Int32.toNatClampNeg a1)) = 140 → (¬ (a1 < 0 ∨ 40 ≤ Int32.toNatClampNeg a1) ∧ AW Z 0 0 61 [some (.ref 0), some (.int a1), some (.ref 4), some (.ref 26)] [.int ((Year_first v0) (Int32.toNatClampNeg a1)), .ref 26, .ref 4] ([kYear 0 v0, kLives 4 12 v1, kTown 12 20 v2, kLaws 20 v3, kLots 26 v4] : List (List zE)).flatten)) ∧ (¬ ((Year_words v0) (Int32.toNatClampNeg a1)) = 140 → ((((Year_words v0) (Int32.toNatClampNeg a1)) = 141 → (¬ (a1 < 0 ∨ 40 ≤ Int32.toNatClampNeg a1) ∧ (¬ (a1 < 0 ∨ 40 ≤ Int32.toNatClampNeg a1) ∧ AW Z 0 0 87 [some (.ref 0), some (.int a1), some (.ref 4), some (.ref 26)] [.int ((Year_second v0) (Int32.toNatClampNeg a1)), .int ((Year_first v0) (Int32.toNatClampNeg a1)), .ref 4] ([kYear 0 v0, kLives 4 12 v1, kTown 12 20 v2, kLaws 20 v3, kLots 26 v4] : List (List zE)).flatten))) ∧ (¬ ((Year_words v0) (Int32.toNatClampNeg a1)) = 141 → ((((Year_words v0) (Int32.toNatClampNeg a1)) = 142 → AW Z 0 0 92 [some (.ref 0), some (.int a1), some (.ref 4), some (.ref 26)] [.ref 4] ([kYear 0 v0, kLives 4 12 v1, kTown 12 20 v2, kLaws 20 v3, kLots 26 v4] : List (List zE)).flatten) ∧ (¬ ((Year_words v0) (Int32.toNatClampNeg a1)) = 142 → AW Z 0 0 97 [some (.ref 0), some (.int a1), some (.ref 4), some (.ref 26)] [.ref 4] ([kYear 0 v0, kLives 4 12 v1, kTown 12 20 v2, kLaws 20 v3, kLots 26 v4] : List (List zE)).flatten)))))))))
  obtain ⟨b25, hf⟩ := zneed hf
  refine ⟨b25, ?_⟩
  refine ⟨fun c19 => ?_, fun c19 => ?_⟩
  · rw [if_pos c19] at hf
    obtain ⟨b24, hf⟩ := zneed hf
    refine ⟨b24, ?_⟩
    obtain ⟨b23, hf⟩ := zneed hf
    refine ⟨b23, ?_⟩
    obtain ⟨q20, h22, hf⟩ := zbind hf
    refine AW.callVc hZ hR hN (c_Lives_hideCoins N v1 v2 v3 ((Year_first v0) (Int32.toNatClampNeg a1)) ((Year_second v0) (Int32.toNatClampNeg a1)) q20 h22) zMX3_hideCoins_ok rfl rfl zK_BorrowedLives_Year_95 zV_X3_hideCoins rfl [4, 8, 8, 6, 3] [1, 2, 3] [4, 5, 6, 7, 8, 9, 10, 11, 12, 13, 14, 15, 16, 17, 18, 19, 20, 21, 22, 23, 24, 25] rfl rfl rfl (by decide) (by decide) (by omega) (by decide) (Nat.zero_le _) (Nat.zero_le _) rfl rfl rfl rfl rfl ?_
    rintro v cc ⟨rfl, rfl⟩
    refine ⟨_, rfl, rfl, ?_⟩
    show AW Z 0 0 52 [some (.ref 0), some (.int a1), some (.ref 4), some (.ref 26)] [.int q20.1] ([kYear 0 v0, kLives 4 12 (Lives_hidden_s v1 q20.2), kTown 12 20 v2, kLaws 20 v3, kLots 26 v4] : List (List zE)).flatten
    obtain ⟨b21, hf⟩ := zneedP hf
    cases hf
    exact AW.iret hZ hE rfl rfl rfl (znarZ b21) (Nat.le_refl 0) (Nat.le_refl 0) rfl ⟨rfl, rfl⟩
  · rw [if_neg c19] at hf
    refine ⟨fun c14 => ?_, fun c14 => ?_⟩
    · rw [if_pos c14] at hf
      obtain ⟨b18, hf⟩ := zneed hf
      refine ⟨b18, ?_⟩
      obtain ⟨q15, h17, hf⟩ := zbind hf
      refine AW.callVc hZ hR hN (c_Lives_drawLot N v1 v2 v3 v4 ((Year_first v0) (Int32.toNatClampNeg a1)) q15 h17) zMX3_drawLot_ok rfl rfl zK_BorrowedLives_Year_99 zV_X3_drawLot rfl [4, 8, 8, 6, 3] [1, 2, 3, 4] [4, 5, 6, 7, 8, 9, 10, 11, 12, 13, 14, 15, 16, 17, 18, 19, 20, 21, 22, 23, 24, 25, 26, 27, 28] rfl rfl rfl (by decide) (by decide) (by omega) (by decide) (Nat.zero_le _) (Nat.zero_le _) rfl rfl rfl rfl rfl ?_
      rintro v cc ⟨rfl, rfl⟩
      refine ⟨_, rfl, rfl, ?_⟩
      show AW Z 0 0 64 [some (.ref 0), some (.int a1), some (.ref 4), some (.ref 26)] [.int q15.1] ([kYear 0 v0, kLives 4 12 (Lives_s_self_worthThen_homeThen_away_days v1 q15.2.1 q15.2.2.1 q15.2.2.2.1 q15.2.2.2.2.1 q15.2.2.2.2.2), kTown 12 20 v2, kLaws 20 v3, kLots 26 v4] : List (List zE)).flatten
      refine AW.run hZ hRm [73] 400 ?_
      show (((q15.1 = (-1)) → AW Z 0 0 73 [some (.ref 0), some (.int a1), some (.ref 4), some (.ref 26)] [.int 0] ([kYear 0 v0, kLives 4 12 (Lives_s_self_worthThen_homeThen_away_days v1 q15.2.1 q15.2.2.1 q15.2.2.2.1 q15.2.2.2.2.1 q15.2.2.2.2.2), kTown 12 20 v2, kLaws 20 v3, kLots 26 v4] : List (List zE)).flatten) ∧ (¬ (q15.1 = (-1)) → AW Z 0 0 73 [some (.ref 0), some (.int a1), some (.ref 4), some (.ref 26)] [.int 1] ([kYear 0 v0, kLives 4 12 (Lives_s_self_worthThen_homeThen_away_days v1 q15.2.1 q15.2.2.1 q15.2.2.2.1 q15.2.2.2.2.1 q15.2.2.2.2.2), kTown 12 20 v2, kLaws 20 v3, kLots 26 v4] : List (List zE)).flatten))
      refine ⟨fun c16 => ?_, fun c16 => ?_⟩
      · rw [if_pos c16] at hf
        cases hf
        exact AW.iret hZ hE rfl rfl rfl rfl (Nat.le_refl 0) (Nat.le_refl 0) rfl ⟨rfl, rfl⟩
      · rw [if_neg c16] at hf
        cases hf
        exact AW.iret hZ hE rfl rfl rfl rfl (Nat.le_refl 0) (Nat.le_refl 0) rfl ⟨rfl, rfl⟩
    · rw [if_neg c14] at hf
      refine ⟨fun c8 => ?_, fun c8 => ?_⟩
      · rw [if_pos c8] at hf
        obtain ⟨b13, hf⟩ := zneed hf
        refine ⟨b13, ?_⟩
        obtain ⟨b12, hf⟩ := zneed hf
        refine ⟨b12, ?_⟩
        obtain ⟨q9, h11, hf⟩ := zbind hf
        refine AW.callVc hZ hR hN (c_Lives_changeLives N v1 v2 v3 ((Year_first v0) (Int32.toNatClampNeg a1)) ((Year_second v0) (Int32.toNatClampNeg a1)) q9 h11) zMX3_changeLives_ok rfl rfl zK_BorrowedLives_Year_103 zV_X3_changeLives rfl [4, 8, 8, 6, 3] [1, 2, 3] [4, 5, 6, 7, 8, 9, 10, 11, 12, 13, 14, 15, 16, 17, 18, 19, 20, 21, 22, 23, 24, 25] rfl rfl rfl (by decide) (by decide) (by omega) (by decide) (Nat.zero_le _) (Nat.zero_le _) rfl rfl rfl rfl rfl ?_
        rintro v cc ⟨rfl, rfl⟩
        refine ⟨_, rfl, rfl, ?_⟩
        show AW Z 0 0 90 [some (.ref 0), some (.int a1), some (.ref 4), some (.ref 26)] [.int q9.1] ([kYear 0 v0, kLives 4 12 (Lives_self_s v1 q9.2), kTown 12 20 v2, kLaws 20 v3, kLots 26 v4] : List (List zE)).flatten
        obtain ⟨b10, hf⟩ := zneedP hf
        cases hf
        exact AW.iret hZ hE rfl rfl rfl (znarZ b10) (Nat.le_refl 0) (Nat.le_refl 0) rfl ⟨rfl, rfl⟩
      · rw [if_neg c8] at hf
        refine ⟨fun c4 => ?_, fun c4 => ?_⟩
        · rw [if_pos c4] at hf
          obtain ⟨q5, h7, hf⟩ := zbind hf
          refine AW.callVc hZ hR hN (c_Lives_nextDay N v1 v2 v3 q5 h7) zMX3_nextDay_ok rfl rfl zK_BorrowedLives_Year_106 zV_X3_nextDay rfl [4, 8, 8, 6, 3] [1, 2, 3] [4, 5, 6, 7, 8, 9, 10, 11, 12, 13, 14, 15, 16, 17, 18, 19, 20, 21, 22, 23, 24, 25] rfl rfl rfl (by decide) (by decide) (by omega) (by decide) (Nat.zero_le _) (Nat.zero_le _) rfl rfl rfl rfl rfl ?_
          rintro v cc ⟨rfl, rfl⟩
          refine ⟨_, rfl, rfl, ?_⟩
          show AW Z 0 0 95 [some (.ref 0), some (.int a1), some (.ref 4), some (.ref 26)] [.int q5.1] ([kYear 0 v0, kLives 4 12 (Lives_s_purse_debt_home_days v1 q5.2.1 q5.2.2.1 q5.2.2.2.1 q5.2.2.2.2.1), kTown 12 20 v2, kLaws 20 (Laws_s_facts_stack v3 q5.2.2.2.2.2.1 q5.2.2.2.2.2.2), kLots 26 v4] : List (List zE)).flatten
          obtain ⟨b6, hf⟩ := zneedP hf
          cases hf
          exact AW.iret hZ hE rfl rfl rfl (znarZ b6) (Nat.le_refl 0) (Nat.le_refl 0) rfl ⟨rfl, rfl⟩
        · rw [if_neg c4] at hf
          obtain ⟨q1, h3, hf⟩ := zbind hf
          refine AW.callVc hZ hR hN (c_Lives_goHome N v1 v2 v3 q1 h3) zMX3_goHome_ok rfl rfl zK_BorrowedLives_Year_109 zV_X3_goHome rfl [4, 8, 8, 6, 3] [1, 2, 3] [4, 5, 6, 7, 8, 9, 10, 11, 12, 13, 14, 15, 16, 17, 18, 19, 20, 21, 22, 23, 24, 25] rfl rfl rfl (by decide) (by decide) (by omega) (by decide) (Nat.zero_le _) (Nat.zero_le _) rfl rfl rfl rfl rfl ?_
          rintro v cc ⟨rfl, rfl⟩
          refine ⟨_, rfl, rfl, ?_⟩
          show AW Z 0 0 100 [some (.ref 0), some (.int a1), some (.ref 4), some (.ref 26)] [.int q1.1] ([kYear 0 v0, kLives 4 12 (Lives_s_hidden_self_away_days_homes_harm v1 q1.2.1 q1.2.2.1 q1.2.2.2.1 q1.2.2.2.2.1 q1.2.2.2.2.2.1 q1.2.2.2.2.2.2), kTown 12 20 v2, kLaws 20 v3, kLots 26 v4] : List (List zE)).flatten
          refine AW.run hZ hRm [109] 400 ?_
          show (((q1.1 = (-1)) → AW Z 0 0 109 [some (.ref 0), some (.int a1), some (.ref 4), some (.ref 26)] [.int 0] ([kYear 0 v0, kLives 4 12 (Lives_s_hidden_self_away_days_homes_harm v1 q1.2.1 q1.2.2.1 q1.2.2.2.1 q1.2.2.2.2.1 q1.2.2.2.2.2.1 q1.2.2.2.2.2.2), kTown 12 20 v2, kLaws 20 v3, kLots 26 v4] : List (List zE)).flatten) ∧ (¬ (q1.1 = (-1)) → AW Z 0 0 109 [some (.ref 0), some (.int a1), some (.ref 4), some (.ref 26)] [.int 1] ([kYear 0 v0, kLives 4 12 (Lives_s_hidden_self_away_days_homes_harm v1 q1.2.1 q1.2.2.1 q1.2.2.2.1 q1.2.2.2.2.1 q1.2.2.2.2.2.1 q1.2.2.2.2.2.2), kTown 12 20 v2, kLaws 20 v3, kLots 26 v4] : List (List zE)).flatten))
          refine ⟨fun c2 => ?_, fun c2 => ?_⟩
          · rw [if_pos c2] at hf
            cases hf
            exact AW.iret hZ hE rfl rfl rfl rfl (Nat.le_refl 0) (Nat.le_refl 0) rfl ⟨rfl, rfl⟩
          · rw [if_neg c2] at hf
            cases hf
            exact AW.iret hZ hE rfl rfl rfl rfl (Nat.le_refl 0) (Nat.le_refl 0) rfl ⟨rfl, rfl⟩
def f_Year_judge_L9 (N : Nat) : Nat → VYear → VLives → VTown → VLaws → VLots → Int32 → Int32 → (Nat → Int32) → (Nat → Int32) → (Nat → Int32) → (Nat → Int32) → (Nat → Int32) → (Nat → Int32) → (Nat → Int32) → Int32 → Int32 → Int32 → Int32 → (Nat → Int32) → (Nat → Int32) → Option (Int32 × (Nat → Int32) × (Nat → Int32) × (Nat → Int32) × (Nat → Int32) × (Nat → Int32) × (Nat → Int32) × (Nat → Int32) × Int32 × Int32 × Int32 × Int32 × (Nat → Int32) × (Nat → Int32))
  | 0, _, _, _, _, _, _, _, _, _, _, _, _, _, _, _, _, _, _, _, _ => none
  | fuel + 1, v0, v1, v2, v3, v4, x3, x4, m_purse0, m_debt1, m_home2, m_hidden3, m_self4, m_worthThen5, m_homeThen6, m_away7, m_days8, m_homes9, m_harm10, m_facts11, m_stack12 => (if ((Year_lines v0) ≤ x4) then (some (x3, m_purse0, m_debt1, m_home2, m_hidden3, m_self4, m_worthThen5, m_homeThen6, m_away7, m_days8, m_homes9, m_harm10, m_facts11, m_stack12)) else (if (40 ≤ x4) then (some (x3, m_purse0, m_debt1, m_home2, m_hidden3, m_self4, m_worthThen5, m_homeThen6, m_away7, m_days8, m_homes9, m_harm10, m_facts11, m_stack12)) else ((f_Year_doLine N v0 (Lives_s_purse_debt_home_hidden_self_worthThen_homeThen_away_days_homes_harm v1 m_purse0 m_debt1 m_home2 m_hidden3 m_self4 m_worthThen5 m_homeThen6 m_away7 m_days8 m_homes9 m_harm10) v2 (Laws_s_facts_stack v3 m_facts11 m_stack12) v4 x4).bind (fun q4 => (zlet ((if (q4.1 = 0) then (if (x3 = (-1)) then x4 else x3) else x3) : Int32) (fun z8 => (f_Year_judge_L9 N fuel v0 v1 v2 v3 v4 z8 (x4 + 1) q4.2.1 q4.2.2.1 q4.2.2.2.1 q4.2.2.2.2.1 q4.2.2.2.2.2.1 q4.2.2.2.2.2.2.1 q4.2.2.2.2.2.2.2.1 q4.2.2.2.2.2.2.2.2.1 q4.2.2.2.2.2.2.2.2.2.1 q4.2.2.2.2.2.2.2.2.2.2.1 q4.2.2.2.2.2.2.2.2.2.2.2.1 q4.2.2.2.2.2.2.2.2.2.2.2.2.1 q4.2.2.2.2.2.2.2.2.2.2.2.2.2)))))))
def f_Year_judge (N : Nat) (v0 : VYear) (v1 : VLives) (v2 : VTown) (v3 : VLaws) (v4 : VLots) : Option (Int32 × (Nat → Int32) × (Nat → Int32) × (Nat → Int32) × (Nat → Int32) × (Nat → Int32) × (Nat → Int32) × (Nat → Int32) × Int32 × Int32 × Int32 × Int32 × (Nat → Int32) × (Nat → Int32)) := ((f_Lives_begin N v1 v2 v3).bind (fun q1 => ((f_Year_judge_L9 N N v0 (Lives_s_purse_debt_home_hidden_self_away_days_homes_harm v1 q1.1 q1.2.1 q1.2.2.1 q1.2.2.2.1 q1.2.2.2.2.1 q1.2.2.2.2.2.1 q1.2.2.2.2.2.2.1 q1.2.2.2.2.2.2.2.1 q1.2.2.2.2.2.2.2.2) v2 v3 v4 (-1) 0 q1.1 q1.2.1 q1.2.2.1 q1.2.2.2.1 q1.2.2.2.2.1 (Lives_worthThen v1) (Lives_homeThen v1) q1.2.2.2.2.2.1 q1.2.2.2.2.2.2.1 q1.2.2.2.2.2.2.2.1 q1.2.2.2.2.2.2.2.2 (Laws_facts v3) (Laws_stack v3)).bind (fun q10 => (some (q10.1, q10.2.1, q10.2.2.1, q10.2.2.2.1, q10.2.2.2.2.1, q10.2.2.2.2.2.1, q10.2.2.2.2.2.2.1, q10.2.2.2.2.2.2.2.1, q10.2.2.2.2.2.2.2.2.1, q10.2.2.2.2.2.2.2.2.2.1, q10.2.2.2.2.2.2.2.2.2.2.1, q10.2.2.2.2.2.2.2.2.2.2.2.1, q10.2.2.2.2.2.2.2.2.2.2.2.2.1, q10.2.2.2.2.2.2.2.2.2.2.2.2.2))))))
set_option maxRecDepth 20000 in
set_option maxHeartbeats 4000000 in
theorem c_Year_judge_L9 {Z : zCtx} {D n0w nf mcw msw : Nat} (hZ : zOk Z zMX10_judge) (hR : zCan Z D mcw msw) (hDd : 7 ≤ D) (hN : zNew Z n0w nf) (hRm : zRoom Z 0 0) (N : Nat) : ∀ (fuel : Nat) (v0 : VYear) (v1 : VLives) (v2 : VTown) (v3 : VLaws) (v4 : VLots) (x3 : Int32) (x4 : Int32) (m_purse0 : (Nat → Int32)) (m_debt1 : (Nat → Int32)) (m_home2 : (Nat → Int32)) (m_hidden3 : (Nat → Int32)) (m_self4 : (Nat → Int32)) (m_worthThen5 : (Nat → Int32)) (m_homeThen6 : (Nat → Int32)) (m_away7 : Int32) (m_days8 : Int32) (m_homes9 : Int32) (m_harm10 : Int32) (m_facts11 : (Nat → Int32)) (m_stack12 : (Nat → Int32)) (q : (Int32 × (Nat → Int32) × (Nat → Int32) × (Nat → Int32) × (Nat → Int32) × (Nat → Int32) × (Nat → Int32) × (Nat → Int32) × Int32 × Int32 × Int32 × Int32 × (Nat → Int32) × (Nat → Int32))), f_Year_judge_L9 N fuel v0 v1 v2 v3 v4 x3 x4 m_purse0 m_debt1 m_home2 m_hidden3 m_self4 m_worthThen5 m_homeThen6 m_away7 m_days8 m_homes9 m_harm10 m_facts11 m_stack12 = some q → (AW Z 0 0 50 [none, none, none, some (.int q.1), none] [] ([kYear 0 v0, kLives 4 12 (Lives_s_purse_debt_home_hidden_self_worthThen_homeThen_away_days_homes_harm v1 q.2.1 q.2.2.1 q.2.2.2.1 q.2.2.2.2.1 q.2.2.2.2.2.1 q.2.2.2.2.2.2.1 q.2.2.2.2.2.2.2.1 q.2.2.2.2.2.2.2.2.1 q.2.2.2.2.2.2.2.2.2.1 q.2.2.2.2.2.2.2.2.2.2.1 q.2.2.2.2.2.2.2.2.2.2.2.1), kTown 12 20 v2, kLaws 20 (Laws_s_facts_stack v3 q.2.2.2.2.2.2.2.2.2.2.2.2.1 q.2.2.2.2.2.2.2.2.2.2.2.2.2), kLots 26 v4] : List (List zE)).flatten) → AW Z 0 0 9 [some (.ref 0), some (.ref 4), some (.ref 26), some (.int x3), some (.int x4)] [] ([kYear 0 v0, kLives 4 12 (Lives_s_purse_debt_home_hidden_self_worthThen_homeThen_away_days_homes_harm v1 m_purse0 m_debt1 m_home2 m_hidden3 m_self4 m_worthThen5 m_homeThen6 m_away7 m_days8 m_homes9 m_harm10), kTown 12 20 v2, kLaws 20 (Laws_s_facts_stack v3 m_facts11 m_stack12), kLots 26 v4] : List (List zE)).flatten := by
  intro fuel
  induction fuel with
  | zero =>
    intro v0 v1 v2 v3 v4 x3 x4 m_purse0 m_debt1 m_home2 m_hidden3 m_self4 m_worthThen5 m_homeThen6 m_away7 m_days8 m_homes9 m_harm10 m_facts11 m_stack12 q hf hk0
    simp [f_Year_judge_L9] at hf
  | succ fuel ih =>
    intro v0 v1 v2 v3 v4 x3 x4 m_purse0 m_debt1 m_home2 m_hidden3 m_self4 m_worthThen5 m_homeThen6 m_away7 m_days8 m_homes9 m_harm10 m_facts11 m_stack12 q hf hk0
    rw [f_Year_judge_L9] at hf
    refine AW.run hZ hRm [30, 50] 400 ?_
    show ((((Year_lines v0) ≤ x4) → AW Z 0 0 50 [some (.ref 0), some (.ref 4), some (.ref 26), some (.int x3), some (.int x4)] [] ([kYear 0 v0, kLives 4 12 (Lives_s_purse_debt_home_hidden_self_worthThen_homeThen_away_days_homes_harm v1 m_purse0 m_debt1 m_home2 m_hidden3 m_self4 m_worthThen5 m_homeThen6 m_away7 m_days8 m_homes9 m_harm10), kTown 12 20 v2, kLaws 20 (Laws_s_facts_stack v3 m_facts11 m_stack12), kLots 26 v4] : List (List zE)).flatten) ∧ (¬ ((Year_lines v0) ≤ x4) → (((40 ≤ x4) → AW Z 0 0 50 [some (.ref 0), some (.ref 4), some (.ref 26), some (.int x3), some (.int x4)] [] ([kYear 0 v0, kLives 4 12 (Lives_s_purse_debt_home_hidden_self_worthThen_homeThen_away_days_homes_harm v1 m_purse0 m_debt1 m_home2 m_hidden3 m_self4 m_worthThen5 m_homeThen6 m_away7 m_days8 m_homes9 m_harm10), kTown 12 20 v2, kLaws 20 (Laws_s_facts_stack v3 m_facts11 m_stack12), kLots 26 v4] : List (List zE)).flatten) ∧ (¬ (40 ≤ x4) → AW Z 0 0 30 [some (.ref 0), some (.ref 4), some (.ref 26), some (.int x3), some (.int x4)] [.ref 26, .ref 4, .int x4, .ref 0] ([kYear 0 v0, kLives 4 12 (Lives_s_purse_debt_home_hidden_self_worthThen_homeThen_away_days_homes_harm v1 m_purse0 m_debt1 m_home2 m_hidden3 m_self4 m_worthThen5 m_homeThen6 m_away7 m_days8 m_homes9 m_harm10), kTown 12 20 v2, kLaws 20 (Laws_s_facts_stack v3 m_facts11 m_stack12), kLots 26 v4] : List (List zE)).flatten))))
    refine ⟨fun c2 => ?_, fun c2 => ?_⟩
    · rw [if_pos c2] at hf
      cases hf
      refine AW.forget [false, false, false, true, false] ?_
      show AW Z 0 0 50 [none, none, none, some (.int x3), none] [] ([kYear 0 v0, kLives 4 12 (Lives_s_purse_debt_home_hidden_self_worthThen_homeThen_away_days_homes_harm v1 m_purse0 m_debt1 m_home2 m_hidden3 m_self4 m_worthThen5 m_homeThen6 m_away7 m_days8 m_homes9 m_harm10), kTown 12 20 v2, kLaws 20 (Laws_s_facts_stack v3 m_facts11 m_stack12), kLots 26 v4] : List (List zE)).flatten
      exact hk0
    · rw [if_neg c2] at hf
      refine ⟨fun c3 => ?_, fun c3 => ?_⟩
      · rw [if_pos c3] at hf
        cases hf
        refine AW.forget [false, false, false, true, false] ?_
        show AW Z 0 0 50 [none, none, none, some (.int x3), none] [] ([kYear 0 v0, kLives 4 12 (Lives_s_purse_debt_home_hidden_self_worthThen_homeThen_away_days_homes_harm v1 m_purse0 m_debt1 m_home2 m_hidden3 m_self4 m_worthThen5 m_homeThen6 m_away7 m_days8 m_homes9 m_harm10), kTown 12 20 v2, kLaws 20 (Laws_s_facts_stack v3 m_facts11 m_stack12), kLots 26 v4] : List (List zE)).flatten
        exact hk0
      · rw [if_neg c3] at hf
        obtain ⟨q4, h9, hf⟩ := zbind hf
        refine AW.callVc hZ hR hN (c_Year_doLine N v0 (Lives_s_purse_debt_home_hidden_self_worthThen_homeThen_away_days_homes_harm v1 m_purse0 m_debt1 m_home2 m_hidden3 m_self4 m_worthThen5 m_homeThen6 m_away7 m_days8 m_homes9 m_harm10) v2 (Laws_s_facts_stack v3 m_facts11 m_stack12) v4 x4 q4 h9) zMX10_doLine_ok rfl rfl zK_BorrowedLives_Year_91 zV_X10_doLine rfl [4, 8, 8, 6, 3] [0, 1, 2, 3, 4] [0, 1, 2, 3, 4, 5, 6, 7, 8, 9, 10, 11, 12, 13, 14, 15, 16, 17, 18, 19, 20, 21, 22, 23, 24, 25, 26, 27, 28] rfl rfl rfl (by decide) (by decide) (by omega) (by decide) (Nat.zero_le _) (Nat.zero_le _) rfl rfl rfl rfl rfl ?_
        rintro v cc ⟨rfl, rfl⟩
        refine ⟨_, rfl, rfl, ?_⟩
        show AW Z 0 0 33 [some (.ref 0), some (.ref 4), some (.ref 26), some (.int x3), some (.int x4)] [.int q4.1] ([kYear 0 v0, kLives 4 12 (Lives_s_purse_debt_home_hidden_self_worthThen_homeThen_away_days_homes_harm v1 q4.2.1 q4.2.2.1 q4.2.2.2.1 q4.2.2.2.2.1 q4.2.2.2.2.2.1 q4.2.2.2.2.2.2.1 q4.2.2.2.2.2.2.2.1 q4.2.2.2.2.2.2.2.2.1 q4.2.2.2.2.2.2.2.2.2.1 q4.2.2.2.2.2.2.2.2.2.2.1 q4.2.2.2.2.2.2.2.2.2.2.2.1), kTown 12 20 v2, kLaws 20 (Laws_s_facts_stack v3 q4.2.2.2.2.2.2.2.2.2.2.2.2.1 q4.2.2.2.2.2.2.2.2.2.2.2.2.2), kLots 26 v4] : List (List zE)).flatten
        suffices H5 : AW Z 0 0 44 [some (.ref 0), some (.ref 4), some (.ref 26), some (.int (if (q4.1 = 0) then (if (x3 = (-1)) then x4 else x3) else x3)), some (.int x4)] [] ([kYear 0 v0, kLives 4 12 (Lives_s_purse_debt_home_hidden_self_worthThen_homeThen_away_days_homes_harm v1 q4.2.1 q4.2.2.1 q4.2.2.2.1 q4.2.2.2.2.1 q4.2.2.2.2.2.1 q4.2.2.2.2.2.2.1 q4.2.2.2.2.2.2.2.1 q4.2.2.2.2.2.2.2.2.1 q4.2.2.2.2.2.2.2.2.2.1 q4.2.2.2.2.2.2.2.2.2.2.1 q4.2.2.2.2.2.2.2.2.2.2.2.1), kTown 12 20 v2, kLaws 20 (Laws_s_facts_stack v3 q4.2.2.2.2.2.2.2.2.2.2.2.2.1 q4.2.2.2.2.2.2.2.2.2.2.2.2.2), kLots 26 v4] : List (List zE)).flatten from by
          refine AW.run hZ hRm [44] 400 ?_
          show ((¬ (q4.1 = 0) → AW Z 0 0 44 [some (.ref 0), some (.ref 4), some (.ref 26), some (.int x3), some (.int x4)] [] ([kYear 0 v0, kLives 4 12 (Lives_s_purse_debt_home_hidden_self_worthThen_homeThen_away_days_homes_harm v1 q4.2.1 q4.2.2.1 q4.2.2.2.1 q4.2.2.2.2.1 q4.2.2.2.2.2.1 q4.2.2.2.2.2.2.1 q4.2.2.2.2.2.2.2.1 q4.2.2.2.2.2.2.2.2.1 q4.2.2.2.2.2.2.2.2.2.1 q4.2.2.2.2.2.2.2.2.2.2.1 q4.2.2.2.2.2.2.2.2.2.2.2.1), kTown 12 20 v2, kLaws 20 (Laws_s_facts_stack v3 q4.2.2.2.2.2.2.2.2.2.2.2.2.1 q4.2.2.2.2.2.2.2.2.2.2.2.2.2), kLots 26 v4] : List (List zE)).flatten) ∧ ((q4.1 = 0) → ((¬ (x3 = (-1)) → AW Z 0 0 44 [some (.ref 0), some (.ref 4), some (.ref 26), some (.int x3), some (.int x4)] [] ([kYear 0 v0, kLives 4 12 (Lives_s_purse_debt_home_hidden_self_worthThen_homeThen_away_days_homes_harm v1 q4.2.1 q4.2.2.1 q4.2.2.2.1 q4.2.2.2.2.1 q4.2.2.2.2.2.1 q4.2.2.2.2.2.2.1 q4.2.2.2.2.2.2.2.1 q4.2.2.2.2.2.2.2.2.1 q4.2.2.2.2.2.2.2.2.2.1 q4.2.2.2.2.2.2.2.2.2.2.1 q4.2.2.2.2.2.2.2.2.2.2.2.1), kTown 12 20 v2, kLaws 20 (Laws_s_facts_stack v3 q4.2.2.2.2.2.2.2.2.2.2.2.2.1 q4.2.2.2.2.2.2.2.2.2.2.2.2.2), kLots 26 v4] : List (List zE)).flatten) ∧ ((x3 = (-1)) → AW Z 0 0 44 [some (.ref 0), some (.ref 4), some (.ref 26), some (.int x4), some (.int x4)] [] ([kYear 0 v0, kLives 4 12 (Lives_s_purse_debt_home_hidden_self_worthThen_homeThen_away_days_homes_harm v1 q4.2.1 q4.2.2.1 q4.2.2.2.1 q4.2.2.2.2.1 q4.2.2.2.2.2.1 q4.2.2.2.2.2.2.1 q4.2.2.2.2.2.2.2.1 q4.2.2.2.2.2.2.2.2.1 q4.2.2.2.2.2.2.2.2.2.1 q4.2.2.2.2.2.2.2.2.2.2.1 q4.2.2.2.2.2.2.2.2.2.2.2.1), kTown 12 20 v2, kLaws 20 (Laws_s_facts_stack v3 q4.2.2.2.2.2.2.2.2.2.2.2.2.1 q4.2.2.2.2.2.2.2.2.2.2.2.2.2), kLots 26 v4] : List (List zE)).flatten))))
          refine ⟨fun c6 => ?_, fun c6 => ?_⟩
          · simpa only [if_neg c6] using H5
          · refine ⟨fun c7 => ?_, fun c7 => ?_⟩
            · simpa only [if_pos c6, if_neg c7] using H5
            · simpa only [if_pos c6, if_pos c7] using H5
        replace hf := zlet_gen hf
        generalize ((if (q4.1 = 0) then (if (x3 = (-1)) then x4 else x3) else x3) : Int32) = z8 at hf ⊢
        refine AW.run hZ hRm [9] 400 ?_
        show AW Z 0 0 9 [some (.ref 0), some (.ref 4), some (.ref 26), some (.int z8), some (.int (x4 + 1))] [] ([kYear 0 v0, kLives 4 12 (Lives_s_purse_debt_home_hidden_self_worthThen_homeThen_away_days_homes_harm v1 q4.2.1 q4.2.2.1 q4.2.2.2.1 q4.2.2.2.2.1 q4.2.2.2.2.2.1 q4.2.2.2.2.2.2.1 q4.2.2.2.2.2.2.2.1 q4.2.2.2.2.2.2.2.2.1 q4.2.2.2.2.2.2.2.2.2.1 q4.2.2.2.2.2.2.2.2.2.2.1 q4.2.2.2.2.2.2.2.2.2.2.2.1), kTown 12 20 v2, kLaws 20 (Laws_s_facts_stack v3 q4.2.2.2.2.2.2.2.2.2.2.2.2.1 q4.2.2.2.2.2.2.2.2.2.2.2.2.2), kLots 26 v4] : List (List zE)).flatten
        exact ih v0 v1 v2 v3 v4 z8 (x4 + 1) q4.2.1 q4.2.2.1 q4.2.2.2.1 q4.2.2.2.2.1 q4.2.2.2.2.2.1 q4.2.2.2.2.2.2.1 q4.2.2.2.2.2.2.2.1 q4.2.2.2.2.2.2.2.2.1 q4.2.2.2.2.2.2.2.2.2.1 q4.2.2.2.2.2.2.2.2.2.2.1 q4.2.2.2.2.2.2.2.2.2.2.2.1 q4.2.2.2.2.2.2.2.2.2.2.2.2.1 q4.2.2.2.2.2.2.2.2.2.2.2.2.2 q hf hk0
set_option maxRecDepth 20000 in
set_option maxHeartbeats 4000000 in
theorem c_Year_judge (N : Nat) (v0 : VYear) (v1 : VLives) (v2 : VTown) (v3 : VLaws) (v4 : VLots) (R : Int32 × (Nat → Int32) × (Nat → Int32) × (Nat → Int32) × (Nat → Int32) × (Nat → Int32) × (Nat → Int32) × (Nat → Int32) × Int32 × Int32 × Int32 × Int32 × (Nat → Int32) × (Nat → Int32)) (hf : f_Year_judge N v0 v1 v2 v3 v4 = some R) : Ct zMX10_judge 7 0 0 0 [.ref 0, .ref 4, .ref 26] ([kYear 0 v0, kLives 4 12 v1, kTown 12 20 v2, kLaws 20 v3, kLots 26 v4] : List (List zE)).flatten (fun v cc => v = some (.int R.1) ∧ cc = ([kYear 0 v0, kLives 4 12 (Lives_s_purse_debt_home_hidden_self_worthThen_homeThen_away_days_homes_harm v1 R.2.1 R.2.2.1 R.2.2.2.1 R.2.2.2.2.1 R.2.2.2.2.2.1 R.2.2.2.2.2.2.1 R.2.2.2.2.2.2.2.1 R.2.2.2.2.2.2.2.2.1 R.2.2.2.2.2.2.2.2.2.1 R.2.2.2.2.2.2.2.2.2.2.1 R.2.2.2.2.2.2.2.2.2.2.2.1), kTown 12 20 v2, kLaws 20 (Laws_s_facts_stack v3 R.2.2.2.2.2.2.2.2.2.2.2.2.1 R.2.2.2.2.2.2.2.2.2.2.2.2.2), kLots 26 v4] : List (List zE)).flatten) := by
  refine Ct.of zMX10_judge_ok (by decide) (Nat.le_of_ble_eq_true rfl) ?_
  intro Z hZ hR hN hE
  have hRm : zRoom Z 0 0 := zRoom0 Z
  unfold f_Year_judge at hf
  show AW Z 0 0 0 [some (.ref 0), some (.ref 4), some (.ref 26), none, none] [] ([kYear 0 v0, kLives 4 12 v1, kTown 12 20 v2, kLaws 20 v3, kLots 26 v4] : List (List zE)).flatten
  refine AW.run hZ hRm [1] 400 ?_
  show AW Z 0 0 1 [some (.ref 0), some (.ref 4), some (.ref 26), none, none] [.ref 4] ([kYear 0 v0, kLives 4 12 v1, kTown 12 20 v2, kLaws 20 v3, kLots 26 v4] : List (List zE)).flatten
  obtain ⟨q1, h12, hf⟩ := zbind hf
  refine AW.callVc hZ hR hN (c_Lives_begin N v1 v2 v3 q1 h12) zMX3_begin_ok rfl rfl zK_BorrowedLives_Year_86 zV_X3_begin rfl [4, 8, 8, 6, 3] [1, 2, 3] [4, 5, 6, 7, 8, 9, 10, 11, 12, 13, 14, 15, 16, 17, 18, 19, 20, 21, 22, 23, 24, 25] rfl rfl rfl (by decide) (by decide) (by omega) (by decide) (Nat.zero_le _) (Nat.zero_le _) rfl rfl rfl rfl rfl ?_
  rintro v cc ⟨rfl, rfl⟩
  refine ⟨_, rfl, rfl, ?_⟩
  show AW Z 0 0 4 [some (.ref 0), some (.ref 4), some (.ref 26), none, none] [] ([kYear 0 v0, kLives 4 12 (Lives_s_purse_debt_home_hidden_self_away_days_homes_harm v1 q1.1 q1.2.1 q1.2.2.1 q1.2.2.2.1 q1.2.2.2.2.1 q1.2.2.2.2.2.1 q1.2.2.2.2.2.2.1 q1.2.2.2.2.2.2.2.1 q1.2.2.2.2.2.2.2.2), kTown 12 20 v2, kLaws 20 v3, kLots 26 v4] : List (List zE)).flatten
  refine AW.run hZ hRm [9] 400 ?_
  show AW Z 0 0 9 [some (.ref 0), some (.ref 4), some (.ref 26), some (.int (-1)), some (.int 0)] [] ([kYear 0 v0, kLives 4 12 (Lives_s_purse_debt_home_hidden_self_away_days_homes_harm v1 q1.1 q1.2.1 q1.2.2.1 q1.2.2.2.1 q1.2.2.2.2.1 q1.2.2.2.2.2.1 q1.2.2.2.2.2.2.1 q1.2.2.2.2.2.2.2.1 q1.2.2.2.2.2.2.2.2), kTown 12 20 v2, kLaws 20 v3, kLots 26 v4] : List (List zE)).flatten
  obtain ⟨q10, h11, hf⟩ := zbind hf
  refine c_Year_judge_L9 hZ hR (by omega) hN hRm N N v0 (Lives_s_purse_debt_home_hidden_self_away_days_homes_harm v1 q1.1 q1.2.1 q1.2.2.1 q1.2.2.2.1 q1.2.2.2.2.1 q1.2.2.2.2.2.1 q1.2.2.2.2.2.2.1 q1.2.2.2.2.2.2.2.1 q1.2.2.2.2.2.2.2.2) v2 v3 v4 (-1) 0 q1.1 q1.2.1 q1.2.2.1 q1.2.2.2.1 q1.2.2.2.2.1 (Lives_worthThen v1) (Lives_homeThen v1) q1.2.2.2.2.2.1 q1.2.2.2.2.2.2.1 q1.2.2.2.2.2.2.2.1 q1.2.2.2.2.2.2.2.2 (Laws_facts v3) (Laws_stack v3) q10 h11 ?_
  show AW Z 0 0 50 [none, none, none, some (.int q10.1), none] [] ([kYear 0 v0, kLives 4 12 (Lives_s_purse_debt_home_hidden_self_worthThen_homeThen_away_days_homes_harm v1 q10.2.1 q10.2.2.1 q10.2.2.2.1 q10.2.2.2.2.1 q10.2.2.2.2.2.1 q10.2.2.2.2.2.2.1 q10.2.2.2.2.2.2.2.1 q10.2.2.2.2.2.2.2.2.1 q10.2.2.2.2.2.2.2.2.2.1 q10.2.2.2.2.2.2.2.2.2.2.1 q10.2.2.2.2.2.2.2.2.2.2.2.1), kTown 12 20 v2, kLaws 20 (Laws_s_facts_stack v3 q10.2.2.2.2.2.2.2.2.2.2.2.2.1 q10.2.2.2.2.2.2.2.2.2.2.2.2.2), kLots 26 v4] : List (List zE)).flatten
  refine AW.run hZ hRm [51] 400 ?_
  show AW Z 0 0 51 [none, none, none, some (.int q10.1), none] [.int q10.1] ([kYear 0 v0, kLives 4 12 (Lives_s_purse_debt_home_hidden_self_worthThen_homeThen_away_days_homes_harm v1 q10.2.1 q10.2.2.1 q10.2.2.2.1 q10.2.2.2.2.1 q10.2.2.2.2.2.1 q10.2.2.2.2.2.2.1 q10.2.2.2.2.2.2.2.1 q10.2.2.2.2.2.2.2.2.1 q10.2.2.2.2.2.2.2.2.2.1 q10.2.2.2.2.2.2.2.2.2.2.1 q10.2.2.2.2.2.2.2.2.2.2.2.1), kTown 12 20 v2, kLaws 20 (Laws_s_facts_stack v3 q10.2.2.2.2.2.2.2.2.2.2.2.2.1 q10.2.2.2.2.2.2.2.2.2.2.2.2.2), kLots 26 v4] : List (List zE)).flatten
  cases hf
  exact AW.iret hZ hE rfl rfl rfl rfl (Nat.le_refl 0) (Nat.le_refl 0) rfl ⟨rfl, rfl⟩
