def f_Pairs_seek_L35 (N : Nat) : Nat → VPairs → VLives → VTown → VLaws → Int32 → Int32 → (Nat → Int32) → (Nat → Int32) → (Nat → Int32) → Option ((Nat → Int32) × (Nat → Int32) × (Nat → Int32))
  | 0, _, _, _, _, _, _, _, _, _ => none
  | fuel + 1, v0, v1, v2, v3, y2, x3, m_willing0, m_facts1, m_stack2 => (if ((Pairs_people v0) ≤ x3) then (some (m_willing0, m_facts1, m_stack2)) else ((f_Pairs_wouldRather N v1 v2 (Laws_s_facts_stack v3 m_facts1 m_stack2) y2 x3).bind (fun q3 => (if (q3.1 = 0) then (f_Pairs_seek_L35 N fuel v0 v1 v2 v3 y2 (x3 + 1) m_willing0 q3.2.1 q3.2.2) else ((f_Pairs_wouldRather N v1 v2 (Laws_s_facts_stack v3 q3.2.1 q3.2.2) x3 y2).bind (fun q5 => (if (q5.1 = 0) then (f_Pairs_seek_L35 N fuel v0 v1 v2 v3 y2 (x3 + 1) m_willing0 q5.2.1 q5.2.2) else (if (y2 < 0 ∨ 6 ≤ Int32.toNatClampNeg y2) then none else (if (y2 < 0 ∨ 6 ≤ Int32.toNatClampNeg y2) then none else (f_Pairs_seek_L35 N fuel v0 v1 v2 v3 y2 (x3 + 1) (upd m_willing0 (Int32.toNatClampNeg y2) ((m_willing0 (Int32.toNatClampNeg y2)) ||| (1 <<< (x3 &&& 31)))) q5.2.1 q5.2.2))))))))))
def f_Pairs_seek_L18 (N : Nat) : Nat → VPairs → VLives → VTown → VLaws → Int32 → (Nat → Int32) → (Nat → Int32) → (Nat → Int32) → Option ((Nat → Int32) × (Nat → Int32) × (Nat → Int32))
  | 0, _, _, _, _, _, _, _, _ => none
  | fuel + 1, v0, v1, v2, v3, x2, m_willing0, m_facts1, m_stack2 => (if ((Pairs_people v0) ≤ x2) then (some (m_willing0, m_facts1, m_stack2)) else (if (x2 < 0 ∨ 6 ≤ Int32.toNatClampNeg x2) then none else ((f_Pairs_seek_L35 N N (Pairs_willing_s v0 (upd m_willing0 (Int32.toNatClampNeg x2) 0)) v1 v2 (Laws_s_facts_stack v3 m_facts1 m_stack2) x2 0 (upd m_willing0 (Int32.toNatClampNeg x2) 0) m_facts1 m_stack2).bind (fun q11 => (f_Pairs_seek_L18 N fuel v0 v1 v2 v3 (x2 + 1) q11.1 q11.2.1 q11.2.2)))))
def f_Pairs_seek (N : Nat) (v0 : VPairs) (v1 : VLives) (v2 : VTown) (v3 : VLaws) : Option (Int32 × (Nat → Int32) × (Nat → Int32) × (Nat → Int32) × Int32 × (Nat → Int32) × (Nat → Int32)) := ((f_Pairs_seek_L18 N N (Pairs_people_s v0 (if 6 < (Town_people v2) then 6 else (Town_people v2))) v1 v2 v3 0 (Pairs_willing v0) (Laws_facts v3) (Laws_stack v3)).bind (fun q14 => ((f_Pairs_pairFrom 64 N (Pairs_s_people_willing_most v0 (if 6 < (Town_people v2) then 6 else (Town_people v2)) q14.1 (-1)) 0 0 0).bind (fun q16 => (some ((if 6 < (Town_people v2) then 6 else (Town_people v2)), q14.1, q16.1, q16.2.1, q16.2.2, q14.2.1, q14.2.2))))))
set_option maxRecDepth 20000 in
set_option maxHeartbeats 4000000 in
theorem c_Pairs_seek_L35 {Z : zCtx} {D n0w nf mcw msw : Nat} (hZ : zOk Z zMX5_seek) (hR : zCan Z D mcw msw) (hDd : 67 ≤ D) (hN : zNew Z n0w nf) (hRm : zRoom Z 0 0) (N : Nat) : ∀ (fuel : Nat) (v0 : VPairs) (v1 : VLives) (v2 : VTown) (v3 : VLaws) (y2 : Int32) (x3 : Int32) (m_willing0 : (Nat → Int32)) (m_facts1 : (Nat → Int32)) (m_stack2 : (Nat → Int32)) (q : ((Nat → Int32) × (Nat → Int32) × (Nat → Int32))), f_Pairs_seek_L35 N fuel v0 v1 v2 v3 y2 x3 m_willing0 m_facts1 m_stack2 = some q → (AW Z 0 0 79 [some (.ref 0), some (.ref 4), some (.int y2), none] [] ([kPairs 0 (Pairs_willing_s v0 q.1), kLives 4 12 v1, kTown 12 20 v2, kLaws 20 (Laws_s_facts_stack v3 q.2.1 q.2.2)] : List (List zE)).flatten) → AW Z 0 0 35 [some (.ref 0), some (.ref 4), some (.int y2), some (.int x3)] [] ([kPairs 0 (Pairs_willing_s v0 m_willing0), kLives 4 12 v1, kTown 12 20 v2, kLaws 20 (Laws_s_facts_stack v3 m_facts1 m_stack2)] : List (List zE)).flatten := by
  intro fuel
  induction fuel with
  | zero =>
    intro v0 v1 v2 v3 y2 x3 m_willing0 m_facts1 m_stack2 q hf hk0
    simp [f_Pairs_seek_L35] at hf
  | succ fuel ih =>
    intro v0 v1 v2 v3 y2 x3 m_willing0 m_facts1 m_stack2 q hf hk0
    rw [f_Pairs_seek_L35] at hf
    refine AW.run hZ hRm [46, 79] 400 ?_
    show ((((Pairs_people v0) ≤ x3) → AW Z 0 0 79 [some (.ref 0), some (.ref 4), some (.int y2), some (.int x3)] [] ([kPairs 0 (Pairs_willing_s v0 m_willing0), kLives 4 12 v1, kTown 12 20 v2, kLaws 20 (Laws_s_facts_stack v3 m_facts1 m_stack2)] : List (List zE)).flatten) ∧ (¬ ((Pairs_people v0) ≤ x3) → AW Z 0 0 46 [some (.ref 0), some (.ref 4), some (.int y2), some (.int x3)] [.int x3, .int y2, .ref 4] ([kPairs 0 (Pairs_willing_s v0 m_willing0), kLives 4 12 v1, kTown 12 20 v2, kLaws 20 (Laws_s_facts_stack v3 m_facts1 m_stack2)] : List (List zE)).flatten))
    refine ⟨fun c2 => ?_, fun c2 => ?_⟩
    · rw [if_pos c2] at hf
      cases hf
      refine AW.forget [true, true, true, false] ?_
      show AW Z 0 0 79 [some (.ref 0), some (.ref 4), some (.int y2), none] [] ([kPairs 0 (Pairs_willing_s v0 m_willing0), kLives 4 12 v1, kTown 12 20 v2, kLaws 20 (Laws_s_facts_stack v3 m_facts1 m_stack2)] : List (List zE)).flatten
      exact hk0
    · rw [if_neg c2] at hf
      obtain ⟨q3, h10, hf⟩ := zbind hf
      refine AW.callSc hZ hR hN (c_Pairs_wouldRather N v1 v2 (Laws_s_facts_stack v3 m_facts1 m_stack2) y2 x3 q3 h10) zMX5_wouldRather_ok rfl rfl zK_BorrowedLives_Pairs_43 zV_X5_wouldRather rfl [4, 8, 8, 6] [1, 2, 3] [4, 5, 6, 7, 8, 9, 10, 11, 12, 13, 14, 15, 16, 17, 18, 19, 20, 21, 22, 23, 24, 25] rfl rfl rfl (by decide) (by decide) (by omega) (by decide) (Nat.zero_le _) (Nat.zero_le _) rfl rfl ?_
      rintro v cc ⟨rfl, rfl⟩
      refine ⟨_, rfl, rfl, ?_⟩
      show AW Z 0 0 49 [some (.ref 0), some (.ref 4), some (.int y2), some (.int x3)] [.int q3.1] ([kPairs 0 (Pairs_willing_s v0 m_willing0), kLives 4 12 v1, kTown 12 20 v2, kLaws 20 (Laws_s_facts_stack v3 q3.2.1 q3.2.2)] : List (List zE)).flatten
      refine AW.run hZ hRm [35, 55] 400 ?_
      show (((q3.1 = 0) → AW Z 0 0 35 [some (.ref 0), some (.ref 4), some (.int y2), some (.int (x3 + 1))] [] ([kPairs 0 (Pairs_willing_s v0 m_willing0), kLives 4 12 v1, kTown 12 20 v2, kLaws 20 (Laws_s_facts_stack v3 q3.2.1 q3.2.2)] : List (List zE)).flatten) ∧ (¬ (q3.1 = 0) → AW Z 0 0 55 [some (.ref 0), some (.ref 4), some (.int y2), some (.int x3)] [.int y2, .int x3, .ref 4] ([kPairs 0 (Pairs_willing_s v0 m_willing0), kLives 4 12 v1, kTown 12 20 v2, kLaws 20 (Laws_s_facts_stack v3 q3.2.1 q3.2.2)] : List (List zE)).flatten))
      refine ⟨fun c4 => ?_, fun c4 => ?_⟩
      · rw [if_pos c4] at hf
        exact ih v0 v1 v2 v3 y2 (x3 + 1) m_willing0 q3.2.1 q3.2.2 q hf hk0
      · rw [if_neg c4] at hf
        obtain ⟨q5, h9, hf⟩ := zbind hf
        refine AW.callSc hZ hR hN (c_Pairs_wouldRather N v1 v2 (Laws_s_facts_stack v3 q3.2.1 q3.2.2) x3 y2 q5 h9) zMX5_wouldRather_ok rfl rfl zK_BorrowedLives_Pairs_43 zV_X5_wouldRather rfl [4, 8, 8, 6] [1, 2, 3] [4, 5, 6, 7, 8, 9, 10, 11, 12, 13, 14, 15, 16, 17, 18, 19, 20, 21, 22, 23, 24, 25] rfl rfl rfl (by decide) (by decide) (by omega) (by decide) (Nat.zero_le _) (Nat.zero_le _) rfl rfl ?_
        rintro v cc ⟨rfl, rfl⟩
        refine ⟨_, rfl, rfl, ?_⟩
        show AW Z 0 0 58 [some (.ref 0), some (.ref 4), some (.int y2), some (.int x3)] [.int q5.1] ([kPairs 0 (Pairs_willing_s v0 m_willing0), kLives 4 12 v1, kTown 12 20 v2, kLaws 20 (Laws_s_facts_stack v3 q5.2.1 q5.2.2)] : List (List zE)).flatten
        refine AW.run hZ hRm [35] 400 ?_
        show (((q5.1 = 0) → AW Z 0 0 35 [some (.ref 0), some (.ref 4), some (.int y2), some (.int (x3 + 1))] [] ([kPairs 0 (Pairs_willing_s v0 m_willing0), kLives 4 12 v1, kTown 12 20 v2, kLaws 20 (Laws_s_facts_stack v3 q5.2.1 q5.2.2)] : List (List zE)).flatten) ∧ (¬ (q5.1 = 0) → (¬ (y2 < 0 ∨ 6 ≤ Int32.toNatClampNeg y2) ∧ (¬ (y2 < 0 ∨ 6 ≤ Int32.toNatClampNeg y2) ∧ AW Z 0 0 35 [some (.ref 0), some (.ref 4), some (.int y2), some (.int (x3 + 1))] [] ([kPairs 0 (Pairs_willing_s v0 (upd m_willing0 (Int32.toNatClampNeg y2) ((m_willing0 (Int32.toNatClampNeg y2)) ||| (1 <<< (x3 &&& 31))))), kLives 4 12 v1, kTown 12 20 v2, kLaws 20 (Laws_s_facts_stack v3 q5.2.1 q5.2.2)] : List (List zE)).flatten))))
        refine ⟨fun c6 => ?_, fun c6 => ?_⟩
        · rw [if_pos c6] at hf
          exact ih v0 v1 v2 v3 y2 (x3 + 1) m_willing0 q5.2.1 q5.2.2 q hf hk0
        · rw [if_neg c6] at hf
          obtain ⟨b8, hf⟩ := zneed hf
          refine ⟨b8, ?_⟩
          obtain ⟨b7, hf⟩ := zneed hf
          refine ⟨b7, ?_⟩
          exact ih v0 v1 v2 v3 y2 (x3 + 1) (upd m_willing0 (Int32.toNatClampNeg y2) ((m_willing0 (Int32.toNatClampNeg y2)) ||| (1 <<< (x3 &&& 31)))) q5.2.1 q5.2.2 q hf hk0
set_option maxRecDepth 20000 in
set_option maxHeartbeats 4000000 in
theorem c_Pairs_seek_L18 {Z : zCtx} {D n0w nf mcw msw : Nat} (hZ : zOk Z zMX5_seek) (hR : zCan Z D mcw msw) (hDd : 67 ≤ D) (hN : zNew Z n0w nf) (hRm : zRoom Z 0 0) (N : Nat) : ∀ (fuel : Nat) (v0 : VPairs) (v1 : VLives) (v2 : VTown) (v3 : VLaws) (x2 : Int32) (m_willing0 : (Nat → Int32)) (m_facts1 : (Nat → Int32)) (m_stack2 : (Nat → Int32)) (q : ((Nat → Int32) × (Nat → Int32) × (Nat → Int32))), f_Pairs_seek_L18 N fuel v0 v1 v2 v3 x2 m_willing0 m_facts1 m_stack2 = some q → (AW Z 0 0 85 [some (.ref 0), none, none, none] [] ([kPairs 0 (Pairs_willing_s v0 q.1), kLives 4 12 v1, kTown 12 20 v2, kLaws 20 (Laws_s_facts_stack v3 q.2.1 q.2.2)] : List (List zE)).flatten) → AW Z 0 0 18 [some (.ref 0), some (.ref 4), some (.int x2), none] [] ([kPairs 0 (Pairs_willing_s v0 m_willing0), kLives 4 12 v1, kTown 12 20 v2, kLaws 20 (Laws_s_facts_stack v3 m_facts1 m_stack2)] : List (List zE)).flatten := by
  intro fuel
  induction fuel with
  | zero =>
    intro v0 v1 v2 v3 x2 m_willing0 m_facts1 m_stack2 q hf hk0
    simp [f_Pairs_seek_L18] at hf
  | succ fuel ih =>
    intro v0 v1 v2 v3 x2 m_willing0 m_facts1 m_stack2 q hf hk0
    rw [f_Pairs_seek_L18] at hf
    refine AW.run hZ hRm [35, 85] 400 ?_
    show ((((Pairs_people v0) ≤ x2) → AW Z 0 0 85 [some (.ref 0), some (.ref 4), some (.int x2), none] [] ([kPairs 0 (Pairs_willing_s v0 m_willing0), kLives 4 12 v1, kTown 12 20 v2, kLaws 20 (Laws_s_facts_stack v3 m_facts1 m_stack2)] : List (List zE)).flatten) ∧ (¬ ((Pairs_people v0) ≤ x2) → (¬ (x2 < 0 ∨ 6 ≤ Int32.toNatClampNeg x2) ∧ AW Z 0 0 35 [some (.ref 0), some (.ref 4), some (.int x2), some (.int 0)] [] ([kPairs 0 (Pairs_willing_s v0 (upd m_willing0 (Int32.toNatClampNeg x2) 0)), kLives 4 12 v1, kTown 12 20 v2, kLaws 20 (Laws_s_facts_stack v3 m_facts1 m_stack2)] : List (List zE)).flatten)))
    refine ⟨fun c1 => ?_, fun c1 => ?_⟩
    · rw [if_pos c1] at hf
      cases hf
      refine AW.forget [true, false, false, false] ?_
      show AW Z 0 0 85 [some (.ref 0), none, none, none] [] ([kPairs 0 (Pairs_willing_s v0 m_willing0), kLives 4 12 v1, kTown 12 20 v2, kLaws 20 (Laws_s_facts_stack v3 m_facts1 m_stack2)] : List (List zE)).flatten
      exact hk0
    · rw [if_neg c1] at hf
      obtain ⟨b13, hf⟩ := zneed hf
      refine ⟨b13, ?_⟩
      obtain ⟨q11, h12, hf⟩ := zbind hf
      refine c_Pairs_seek_L35 hZ hR (by omega) hN hRm N N (Pairs_willing_s v0 (upd m_willing0 (Int32.toNatClampNeg x2) 0)) v1 v2 (Laws_s_facts_stack v3 m_facts1 m_stack2) x2 0 (upd m_willing0 (Int32.toNatClampNeg x2) 0) m_facts1 m_stack2 q11 h12 ?_
      show AW Z 0 0 79 [some (.ref 0), some (.ref 4), some (.int x2), none] [] ([kPairs 0 (Pairs_willing_s v0 q11.1), kLives 4 12 v1, kTown 12 20 v2, kLaws 20 (Laws_s_facts_stack v3 q11.2.1 q11.2.2)] : List (List zE)).flatten
      refine AW.run hZ hRm [18] 400 ?_
      show AW Z 0 0 18 [some (.ref 0), some (.ref 4), some (.int (x2 + 1)), none] [] ([kPairs 0 (Pairs_willing_s v0 q11.1), kLives 4 12 v1, kTown 12 20 v2, kLaws 20 (Laws_s_facts_stack v3 q11.2.1 q11.2.2)] : List (List zE)).flatten
      exact ih v0 v1 v2 v3 (x2 + 1) q11.1 q11.2.1 q11.2.2 q hf hk0
set_option maxRecDepth 20000 in
set_option maxHeartbeats 4000000 in
theorem c_Pairs_seek (N : Nat) (v0 : VPairs) (v1 : VLives) (v2 : VTown) (v3 : VLaws) (R : Int32 × (Nat → Int32) × (Nat → Int32) × (Nat → Int32) × Int32 × (Nat → Int32) × (Nat → Int32)) (hf : f_Pairs_seek N v0 v1 v2 v3 = some R) : Ct zMX5_seek 67 0 0 0 [.ref 0, .ref 4] ([kPairs 0 v0, kLives 4 12 v1, kTown 12 20 v2, kLaws 20 v3] : List (List zE)).flatten (fun v cc => v = none ∧ cc = ([kPairs 0 (Pairs_s_people_willing_row_best_most v0 R.1 R.2.1 R.2.2.1 R.2.2.2.1 R.2.2.2.2.1), kLives 4 12 v1, kTown 12 20 v2, kLaws 20 (Laws_s_facts_stack v3 R.2.2.2.2.2.1 R.2.2.2.2.2.2)] : List (List zE)).flatten) := by
  refine Ct.of zMX5_seek_ok (by decide) (Nat.le_of_ble_eq_true rfl) ?_
  intro Z hZ hR hN hE
  have hRm : zRoom Z 0 0 := zRoom0 Z
  unfold f_Pairs_seek at hf
  show AW Z 0 0 0 [some (.ref 0), some (.ref 4), none, none] [] ([kPairs 0 v0, kLives 4 12 v1, kTown 12 20 v2, kLaws 20 v3] : List (List zE)).flatten
  refine AW.run hZ hRm [18] 400 ?_
  show AW Z 0 0 18 [some (.ref 0), some (.ref 4), some (.int 0), none] [] ([kPairs 0 (Pairs_people_s v0 (if 6 < (Town_people v2) then 6 else (Town_people v2))), kLives 4 12 v1, kTown 12 20 v2, kLaws 20 v3] : List (List zE)).flatten
  obtain ⟨q14, h15, hf⟩ := zbind hf
  refine c_Pairs_seek_L18 hZ hR (by omega) hN hRm N N (Pairs_people_s v0 (if 6 < (Town_people v2) then 6 else (Town_people v2))) v1 v2 v3 0 (Pairs_willing v0) (Laws_facts v3) (Laws_stack v3) q14 h15 ?_
  show AW Z 0 0 85 [some (.ref 0), none, none, none] [] ([kPairs 0 (Pairs_s_people_willing v0 (if 6 < (Town_people v2) then 6 else (Town_people v2)) q14.1), kLives 4 12 v1, kTown 12 20 v2, kLaws 20 (Laws_s_facts_stack v3 q14.2.1 q14.2.2)] : List (List zE)).flatten
  refine AW.run hZ hRm [94] 400 ?_
  show AW Z 0 0 94 [some (.ref 0), none, none, none] [.int 0, .int 0, .int 0, .ref 0] ([kPairs 0 (Pairs_s_people_willing_most v0 (if 6 < (Town_people v2) then 6 else (Town_people v2)) q14.1 (-1)), kLives 4 12 v1, kTown 12 20 v2, kLaws 20 (Laws_s_facts_stack v3 q14.2.1 q14.2.2)] : List (List zE)).flatten
  obtain ⟨q16, h17, hf⟩ := zbind hf
  refine AW.callSc hZ hR hN (c_Pairs_pairFrom 64 N (Pairs_s_people_willing_most v0 (if 6 < (Town_people v2) then 6 else (Town_people v2)) q14.1 (-1)) 0 0 0 q16 h17) zMX5_pairFrom_ok rfl rfl zK_BorrowedLives_Pairs_47 zV_X5_pairFrom rfl [4, 8, 8, 6] [0] [0, 1, 2, 3] rfl rfl rfl (by decide) (by decide) (by omega) (by decide) (Nat.zero_le _) (Nat.zero_le _) rfl rfl ?_
  rintro v cc ⟨rfl, rfl⟩
  refine ⟨_, rfl, rfl, ?_⟩
  show AW Z 0 0 97 [some (.ref 0), none, none, none] [] ([kPairs 0 (Pairs_s_people_willing_row_best_most v0 (if 6 < (Town_people v2) then 6 else (Town_people v2)) q14.1 q16.1 q16.2.1 q16.2.2), kLives 4 12 v1, kTown 12 20 v2, kLaws 20 (Laws_s_facts_stack v3 q14.2.1 q14.2.2)] : List (List zE)).flatten
  cases hf
  exact AW.vret hZ hE rfl rfl rfl (Nat.le_refl 0) (Nat.le_refl 0) rfl ⟨rfl, rfl⟩
def f_Tales_copyFrom (N : Nat) (v0 : VTales) (v1 : VTales) : Option (Int32 × (Nat → Int32) × (Nat → Int32) × (Nat → Int32)) := (some ((Tales_count v1), (va_cpy (Tales_lives v1) (Tales_lives v0) (Int32.toNatClampNeg 0) (Int32.toNatClampNeg 0) (Int32.toNatClampNeg 8)), (va_cpy (Tales_days v1) (Tales_days v0) (Int32.toNatClampNeg 0) (Int32.toNatClampNeg 0) (Int32.toNatClampNeg 8)), (va_cpy (Tales_purses v1) (Tales_purses v0) (Int32.toNatClampNeg 0) (Int32.toNatClampNeg 0) (Int32.toNatClampNeg 8))))
set_option maxRecDepth 20000 in
set_option maxHeartbeats 4000000 in
theorem c_Tales_copyFrom (N : Nat) (v0 : VTales) (v1 : VTales) (R : Int32 × (Nat → Int32) × (Nat → Int32) × (Nat → Int32)) (hf : f_Tales_copyFrom N v0 v1 = some R) : Ct zMX6_copyFrom 2 0 0 0 [.ref 0, .ref 4] ([kTales 0 v0, kTales 4 v1] : List (List zE)).flatten (fun v cc => v = none ∧ cc = ([kTales 0 (Tales_s_count_lives_days_purses v0 R.1 R.2.1 R.2.2.1 R.2.2.2), kTales 4 v1] : List (List zE)).flatten) := by
  refine Ct.of zMX6_copyFrom_ok (by decide) (Nat.le_of_ble_eq_true rfl) ?_
  intro Z hZ hR hN hE
  have hRm : zRoom Z 0 0 := zRoom0 Z
  unfold f_Tales_copyFrom at hf
  show AW Z 0 0 0 [some (.ref 0), some (.ref 4)] [] ([kTales 0 v0, kTales 4 v1] : List (List zE)).flatten
  refine AW.run hZ hRm [53] 400 ?_
  show ((zcpyOk 0 0 8 8 8) ∧ ((zcpyOk 0 0 8 8 8) ∧ ((zcpyOk 0 0 8 8 8) ∧ AW Z 0 0 53 [some (.ref 0), some (.ref 4)] [] ([kTales 0 (Tales_s_count_lives_days_purses v0 (Tales_count v1) (va_cpy (Tales_lives v1) (Tales_lives v0) (Int32.toNatClampNeg 0) (Int32.toNatClampNeg 0) (Int32.toNatClampNeg 8)) (va_cpy (Tales_days v1) (Tales_days v0) (Int32.toNatClampNeg 0) (Int32.toNatClampNeg 0) (Int32.toNatClampNeg 8)) (va_cpy (Tales_purses v1) (Tales_purses v0) (Int32.toNatClampNeg 0) (Int32.toNatClampNeg 0) (Int32.toNatClampNeg 8))), kTales 4 v1] : List (List zE)).flatten)))
  refine ⟨(by unfold zcpyOk; decide), ?_⟩
  refine ⟨(by unfold zcpyOk; decide), ?_⟩
  refine ⟨(by unfold zcpyOk; decide), ?_⟩
  cases hf
  exact AW.vret hZ hE rfl rfl rfl (Nat.le_refl 0) (Nat.le_refl 0) rfl ⟨rfl, rfl⟩
def f_Tales_add (N : Nat) (v0 : VTales) (a1 : Int32) (a2 : Int32) (a3 : Int32) : Option (Int32 × Int32 × (Nat → Int32) × (Nat → Int32) × (Nat → Int32)) := (if ((Tales_count v0) < 0) then (some (0, (Tales_count v0), (Tales_lives v0), (Tales_days v0), (Tales_purses v0))) else (if (8 ≤ (Tales_count v0)) then (some (0, (Tales_count v0), (Tales_lives v0), (Tales_days v0), (Tales_purses v0))) else (if (a2 < 1) then (some (0, (Tales_count v0), (Tales_lives v0), (Tales_days v0), (Tales_purses v0))) else (if (7 < a2) then (some (0, (Tales_count v0), (Tales_lives v0), (Tales_days v0), (Tales_purses v0))) else (if (a3 < 0) then (some (0, (Tales_count v0), (Tales_lives v0), (Tales_days v0), (Tales_purses v0))) else (if (a3 ≤ 9999) then (if ((Tales_count v0) < 0 ∨ 8 ≤ Int32.toNatClampNeg (Tales_count v0)) then none else (if ((Tales_count v0) < 0 ∨ 8 ≤ Int32.toNatClampNeg (Tales_count v0)) then none else (if ((Tales_count v0) < 0 ∨ 8 ≤ Int32.toNatClampNeg (Tales_count v0)) then none else (some (1, ((Tales_count v0) + 1), (upd (Tales_lives v0) (Int32.toNatClampNeg (Tales_count v0)) a1), (upd (Tales_days v0) (Int32.toNatClampNeg (Tales_count v0)) a2), (upd (Tales_purses v0) (Int32.toNatClampNeg (Tales_count v0)) a3)))))) else (some (0, (Tales_count v0), (Tales_lives v0), (Tales_days v0), (Tales_purses v0)))))))))
set_option maxRecDepth 20000 in
set_option maxHeartbeats 4000000 in
theorem c_Tales_add (N : Nat) (v0 : VTales) (a1 : Int32) (a2 : Int32) (a3 : Int32) (R : Int32 × Int32 × (Nat → Int32) × (Nat → Int32) × (Nat → Int32)) (hf : f_Tales_add N v0 a1 a2 a3 = some R) : Ct zMX6_add 1 0 0 0 [.ref 0, .int a1, .int a2, .int a3] ([kTales 0 v0] : List (List zE)).flatten (fun v cc => v = some (.int R.1) ∧ cc = ([kTales 0 (Tales_s_count_lives_days_purses v0 R.2.1 R.2.2.1 R.2.2.2.1 R.2.2.2.2)] : List (List zE)).flatten) := by
  refine Ct.of zMX6_add_ok (by decide) (Nat.le_of_ble_eq_true rfl) ?_
  intro Z hZ hR hN hE
  have hRm : zRoom Z 0 0 := zRoom0 Z
  unfold f_Tales_add at hf
  show AW Z 0 0 0 [some (.ref 0), some (.int a1), some (.int a2), some (.int a3)] [] ([kTales 0 v0] : List (List zE)).flatten
  refine AW.run hZ hRm [39, 81] 400 ?_
  show ((((Tales_count v0) < 0) → AW Z 0 0 39 [some (.ref 0), some (.int a1), some (.int a2), some (.int a3)] [.int 0] ([kTales 0 v0] : List (List zE)).flatten) ∧ (¬ ((Tales_count v0) < 0) → (((8 ≤ (Tales_count v0)) → AW Z 0 0 39 [some (.ref 0), some (.int a1), some (.int a2), some (.int a3)] [.int 0] ([kTales 0 v0] : List (List zE)).flatten) ∧ (¬ (8 ≤ (Tales_count v0)) → (((a2 < 1) → AW Z 0 0 39 [some (.ref 0), some (.int a1), some (.int a2), some (.int a3)] [.int 0] ([kTales 0 v0] : List (List zE)).flatten) ∧ (¬ (a2 < 1) → (((7 < a2) → AW Z 0 0 39 [some (.ref 0), some (.int a1), some (.int a2), some (.int a3)] [.int 0] ([kTales 0 v0] : List (List zE)).flatten) ∧ (¬ (7 < a2) → (((a3 < 0) → AW Z 0 0 39 [some (.ref 0), some (.int a1), some (.int a2), some (.int a3)] [.int 0] ([kTales 0 v0] : List (List zE)).flatten) ∧ (¬ (a3 < 0) → (((a3 ≤ 9999) → (¬ ((Tales_count v0) < 0 ∨ 8 ≤ Int32.toNatClampNeg (Tales_count v0)) ∧ (¬ ((Tales_count v0) < 0 ∨ 8 ≤ Int32.toNatClampNeg (Tales_count v0)) ∧ (¬ ((Tales_count v0) < 0 ∨ 8 ≤ Int32.toNatClampNeg (Tales_count v0)) ∧ AW Z 0 0 81 [some (.ref 0), some (.int a1), some (.int a2), some (.int a3)] [.int 1] ([kTales 0 (Tales_s_count_lives_days_purses v0 ((Tales_count v0) + 1) (upd (Tales_lives v0) (Int32.toNatClampNeg (Tales_count v0)) a1) (upd (Tales_days v0) (Int32.toNatClampNeg (Tales_count v0)) a2) (upd (Tales_purses v0) (Int32.toNatClampNeg (Tales_count v0)) a3))] : List (List zE)).flatten)))) ∧ (¬ (a3 ≤ 9999) → AW Z 0 0 39 [some (.ref 0), some (.int a1), some (.int a2), some (.int a3)] [.int 0] ([kTales 0 v0] : List (List zE)).flatten))))))))))))
  refine ⟨fun c1 => ?_, fun c1 => ?_⟩
  · rw [if_pos c1] at hf
    cases hf
    exact AW.iret hZ hE rfl rfl rfl rfl (Nat.le_refl 0) (Nat.le_refl 0) rfl ⟨rfl, rfl⟩
  · rw [if_neg c1] at hf
    refine ⟨fun c2 => ?_, fun c2 => ?_⟩
    · rw [if_pos c2] at hf
      cases hf
      exact AW.iret hZ hE rfl rfl rfl rfl (Nat.le_refl 0) (Nat.le_refl 0) rfl ⟨rfl, rfl⟩
    · rw [if_neg c2] at hf
      refine ⟨fun c3 => ?_, fun c3 => ?_⟩
      · rw [if_pos c3] at hf
        cases hf
        exact AW.iret hZ hE rfl rfl rfl rfl (Nat.le_refl 0) (Nat.le_refl 0) rfl ⟨rfl, rfl⟩
      · rw [if_neg c3] at hf
        refine ⟨fun c4 => ?_, fun c4 => ?_⟩
        · rw [if_pos c4] at hf
          cases hf
          exact AW.iret hZ hE rfl rfl rfl rfl (Nat.le_refl 0) (Nat.le_refl 0) rfl ⟨rfl, rfl⟩
        · rw [if_neg c4] at hf
          refine ⟨fun c5 => ?_, fun c5 => ?_⟩
          · rw [if_pos c5] at hf
            cases hf
            exact AW.iret hZ hE rfl rfl rfl rfl (Nat.le_refl 0) (Nat.le_refl 0) rfl ⟨rfl, rfl⟩
          · rw [if_neg c5] at hf
            refine ⟨fun c6 => ?_, fun c6 => ?_⟩
            · rw [if_pos c6] at hf
              obtain ⟨b9, hf⟩ := zneed hf
              refine ⟨b9, ?_⟩
              obtain ⟨b8, hf⟩ := zneed hf
              refine ⟨b8, ?_⟩
              obtain ⟨b7, hf⟩ := zneed hf
              refine ⟨b7, ?_⟩
              cases hf
              exact AW.iret hZ hE rfl rfl rfl rfl (Nat.le_refl 0) (Nat.le_refl 0) rfl ⟨rfl, rfl⟩
            · rw [if_neg c6] at hf
              cases hf
              exact AW.iret hZ hE rfl rfl rfl rfl (Nat.le_refl 0) (Nat.le_refl 0) rfl ⟨rfl, rfl⟩
def f_Tape_addBytes_L3 (N : Nat) : Nat → VTape → Int64 → Int32 → (Nat → Int32) → Int32 → Option ((Nat → Int32) × Int32)
  | 0, _, _, _, _, _ => none
  | fuel + 1, v0, y1, x3, m_signs0, m_length1 => (if (x3 < 0) then (some (m_signs0, m_length1)) else (if ((Int64.toInt32 (((Int64.toUInt64 y1 >>> ((Int32.toInt64 x3).toUInt64 &&& Int64.toUInt64 63)).toInt64) &&& 255)) = 10) then (if (1000 ≤ m_length1) then (f_Tape_addBytes_L3 N fuel v0 y1 (x3 + (-8)) m_signs0 m_length1) else (if (m_length1 < 0 ∨ 1000 ≤ Int32.toNatClampNeg m_length1) then none else (f_Tape_addBytes_L3 N fuel v0 y1 (x3 + (-8)) (upd m_signs0 (Int32.toNatClampNeg m_length1) (vp_nar .char ((Int32.toUInt32 (Int64.toInt32 (((Int64.toUInt64 y1 >>> ((Int32.toInt64 x3).toUInt64 &&& Int64.toUInt64 63)).toInt64) &&& 255)) % 65536).toInt32))) (m_length1 + 1)))) else (if ((Int64.toInt32 (((Int64.toUInt64 y1 >>> ((Int32.toInt64 x3).toUInt64 &&& Int64.toUInt64 63)).toInt64) &&& 255)) < 32) then (f_Tape_addBytes_L3 N fuel v0 y1 (x3 + (-8)) m_signs0 m_length1) else (if (126 < (Int64.toInt32 (((Int64.toUInt64 y1 >>> ((Int32.toInt64 x3).toUInt64 &&& Int64.toUInt64 63)).toInt64) &&& 255))) then (f_Tape_addBytes_L3 N fuel v0 y1 (x3 + (-8)) m_signs0 m_length1) else (if (1000 ≤ m_length1) then (f_Tape_addBytes_L3 N fuel v0 y1 (x3 + (-8)) m_signs0 m_length1) else (if (m_length1 < 0 ∨ 1000 ≤ Int32.toNatClampNeg m_length1) then none else (f_Tape_addBytes_L3 N fuel v0 y1 (x3 + (-8)) (upd m_signs0 (Int32.toNatClampNeg m_length1) (vp_nar .char ((Int32.toUInt32 (Int64.toInt32 (((Int64.toUInt64 y1 >>> ((Int32.toInt64 x3).toUInt64 &&& Int64.toUInt64 63)).toInt64) &&& 255)) % 65536).toInt32))) (m_length1 + 1))))))))
def f_Tape_addBytes (N : Nat) (v0 : VTape) (a1 : Int64) : Option ((Nat → Int32) × Int32) := ((f_Tape_addBytes_L3 N N v0 a1 56 (Tape_signs v0) (Tape_length v0)).bind (fun q9 => (some (q9.1, q9.2))))
set_option maxRecDepth 20000 in
set_option maxHeartbeats 4000000 in
theorem c_Tape_addBytes_L3 {Z : zCtx} {D n0w nf mcw msw : Nat} (hZ : zOk Z zMX7_addBytes) (hR : zCan Z D mcw msw) (hDd : 1 ≤ D) (hN : zNew Z n0w nf) (hRm : zRoom Z 0 0) (N : Nat) : ∀ (fuel : Nat) (v0 : VTape) (y1 : Int64) (x3 : Int32) (m_signs0 : (Nat → Int32)) (m_length1 : Int32) (q : ((Nat → Int32) × Int32)), f_Tape_addBytes_L3 N fuel v0 y1 x3 m_signs0 m_length1 = some q → (AW Z 0 0 76 [none, none, none, none, none] [] ([kTape 0 (Tape_s_signs_length v0 q.1 q.2)] : List (List zE)).flatten) → AW Z 0 0 3 [some (.ref 0), some (.long y1), none, some (.int x3), none] [] ([kTape 0 (Tape_s_signs_length v0 m_signs0 m_length1)] : List (List zE)).flatten := by
  intro fuel
  induction fuel with
  | zero =>
    intro v0 y1 x3 m_signs0 m_length1 q hf hk0
    simp [f_Tape_addBytes_L3] at hf
  | succ fuel ih =>
    intro v0 y1 x3 m_signs0 m_length1 q hf hk0
    rw [f_Tape_addBytes_L3] at hf
    refine AW.run hZ hRm [3, 76] 400 ?_
    show (((x3 < 0) → AW Z 0 0 76 [some (.ref 0), some (.long y1), none, some (.int x3), none] [] ([kTape 0 (Tape_s_signs_length v0 m_signs0 m_length1)] : List (List zE)).flatten) ∧ (¬ (x3 < 0) → ((((Int64.toInt32 (((Int64.toUInt64 y1 >>> ((Int32.toInt64 x3).toUInt64 &&& Int64.toUInt64 63)).toInt64) &&& 255)) = 10) → (((1000 ≤ m_length1) → AW Z 0 0 3 [some (.ref 0), some (.long y1), none, some (.int (x3 + (-8))), some (.int (Int64.toInt32 (((Int64.toUInt64 y1 >>> ((Int32.toInt64 x3).toUInt64 &&& Int64.toUInt64 63)).toInt64) &&& 255)))] [] ([kTape 0 (Tape_s_signs_length v0 m_signs0 m_length1)] : List (List zE)).flatten) ∧ (¬ (1000 ≤ m_length1) → (¬ (m_length1 < 0 ∨ 1000 ≤ Int32.toNatClampNeg m_length1) ∧ AW Z 0 0 3 [some (.ref 0), some (.long y1), none, some (.int (x3 + (-8))), some (.int (Int64.toInt32 (((Int64.toUInt64 y1 >>> ((Int32.toInt64 x3).toUInt64 &&& Int64.toUInt64 63)).toInt64) &&& 255)))] [] ([kTape 0 (Tape_s_signs_length v0 (upd m_signs0 (Int32.toNatClampNeg m_length1) (vp_nar .char ((Int32.toUInt32 (Int64.toInt32 (((Int64.toUInt64 y1 >>> ((Int32.toInt64 x3).toUInt64 &&& Int64.toUInt64 63)).toInt64) &&& 255)) % 65536).toInt32))) (m_length1 + 1))] : List (List zE)).flatten)))) ∧ (¬ ((Int64.toInt32 (((Int64.toUInt64 y1 >>> ((Int32.toInt64 x3).toUInt64 &&& Int64.toUInt64 63)).toInt64) &&& 255)) = 10) → ((((Int64.toInt32 (((Int64.toUInt64 y1 >>> ((Int32.toInt64 x3).toUInt64 &&& Int64.toUInt64 63)).toInt64) &&& 255)) < 32) → AW Z 0 0 3 [some (.ref 0), some (.long y1), none, some (.int (x3 + (-8))), some (.int (Int64.toInt32 (((Int64.toUInt64 y1 >>> ((Int32.toInt64 x3).toUInt64 &&& Int64.toUInt64 63)).toInt64) &&& 255)))] [] ([kTape 0 (Tape_s_signs_length v0 m_signs0 m_length1)] : List (List zE)).flatten) ∧ (¬ ((Int64.toInt32 (((Int64.toUInt64 y1 >>> ((Int32.toInt64 x3).toUInt64 &&& Int64.toUInt64 63)).toInt64) &&& 255)) < 32) → (((126 < (Int64.toInt32 (((Int64.toUInt64 y1 >>> ((Int32.toInt64 x3).toUInt64 &&& Int64.toUInt64 63)).toInt64) &&& 255))) → AW Z 0 0 3 [some (.ref 0), some (.long y1), none, some (.int (x3 + (-8))), some (.int (Int64.toInt32 (((Int64.toUInt64 y1 >>> ((Int32.toInt64 x3).toUInt64 &&& Int64.toUInt64 63)).toInt64) &&& 255)))] [] ([kTape 0 (Tape_s_signs_length v0 m_signs0 m_length1)] : List (List zE)).flatten) ∧ (¬ (126 < (Int64.toInt32 (((Int64.toUInt64 y1 >>> ((Int32.toInt64 x3).toUInt64 &&& Int64.toUInt64 63)).toInt64) &&& 255))) → (((1000 ≤ m_length1) → AW Z 0 0 3 [some (.ref 0), some (.long y1), none, some (.int (x3 + (-8))), some (.int (Int64.toInt32 (((Int64.toUInt64 y1 >>> ((Int32.toInt64 x3).toUInt64 &&& Int64.toUInt64 63)).toInt64) &&& 255)))] [] ([kTape 0 (Tape_s_signs_length v0 m_signs0 m_length1)] : List (List zE)).flatten) ∧ (¬ (1000 ≤ m_length1) → (¬ (m_length1 < 0 ∨ 1000 ≤ Int32.toNatClampNeg m_length1) ∧ AW Z 0 0 3 [some (.ref 0), some (.long y1), none, some (.int (x3 + (-8))), some (.int (Int64.toInt32 (((Int64.toUInt64 y1 >>> ((Int32.toInt64 x3).toUInt64 &&& Int64.toUInt64 63)).toInt64) &&& 255)))] [] ([kTape 0 (Tape_s_signs_length v0 (upd m_signs0 (Int32.toNatClampNeg m_length1) (vp_nar .char ((Int32.toUInt32 (Int64.toInt32 (((Int64.toUInt64 y1 >>> ((Int32.toInt64 x3).toUInt64 &&& Int64.toUInt64 63)).toInt64) &&& 255)) % 65536).toInt32))) (m_length1 + 1))] : List (List zE)).flatten)))))))))))
    refine ⟨fun c1 => ?_, fun c1 => ?_⟩
    · rw [if_pos c1] at hf
      cases hf
      refine AW.forget [false, false, false, false, false] ?_
      show AW Z 0 0 76 [none, none, none, none, none] [] ([kTape 0 (Tape_s_signs_length v0 m_signs0 m_length1)] : List (List zE)).flatten
      exact hk0
    · rw [if_neg c1] at hf
      refine ⟨fun c2 => ?_, fun c2 => ?_⟩
      · rw [if_pos c2] at hf
        refine ⟨fun c3 => ?_, fun c3 => ?_⟩
        · rw [if_pos c3] at hf
          refine AW.forget [true, true, false, true, false] ?_
          show AW Z 0 0 3 [some (.ref 0), some (.long y1), none, some (.int (x3 + (-8))), none] [] ([kTape 0 (Tape_s_signs_length v0 m_signs0 m_length1)] : List (List zE)).flatten
          exact ih v0 y1 (x3 + (-8)) m_signs0 m_length1 q hf hk0
        · rw [if_neg c3] at hf
          obtain ⟨b4, hf⟩ := zneed hf
          refine ⟨b4, ?_⟩
          refine AW.forget [true, true, false, true, false] ?_
          show AW Z 0 0 3 [some (.ref 0), some (.long y1), none, some (.int (x3 + (-8))), none] [] ([kTape 0 (Tape_s_signs_length v0 (upd m_signs0 (Int32.toNatClampNeg m_length1) (vp_nar .char ((Int32.toUInt32 (Int64.toInt32 (((Int64.toUInt64 y1 >>> ((Int32.toInt64 x3).toUInt64 &&& Int64.toUInt64 63)).toInt64) &&& 255)) % 65536).toInt32))) (m_length1 + 1))] : List (List zE)).flatten
          exact ih v0 y1 (x3 + (-8)) (upd m_signs0 (Int32.toNatClampNeg m_length1) (vp_nar .char ((Int32.toUInt32 (Int64.toInt32 (((Int64.toUInt64 y1 >>> ((Int32.toInt64 x3).toUInt64 &&& Int64.toUInt64 63)).toInt64) &&& 255)) % 65536).toInt32))) (m_length1 + 1) q hf hk0
      · rw [if_neg c2] at hf
        refine ⟨fun c5 => ?_, fun c5 => ?_⟩
        · rw [if_pos c5] at hf
          refine AW.forget [true, true, false, true, false] ?_
          show AW Z 0 0 3 [some (.ref 0), some (.long y1), none, some (.int (x3 + (-8))), none] [] ([kTape 0 (Tape_s_signs_length v0 m_signs0 m_length1)] : List (List zE)).flatten
          exact ih v0 y1 (x3 + (-8)) m_signs0 m_length1 q hf hk0
        · rw [if_neg c5] at hf
          refine ⟨fun c6 => ?_, fun c6 => ?_⟩
          · rw [if_pos c6] at hf
            refine AW.forget [true, true, false, true, false] ?_
            show AW Z 0 0 3 [some (.ref 0), some (.long y1), none, some (.int (x3 + (-8))), none] [] ([kTape 0 (Tape_s_signs_length v0 m_signs0 m_length1)] : List (List zE)).flatten
            exact ih v0 y1 (x3 + (-8)) m_signs0 m_length1 q hf hk0
          · rw [if_neg c6] at hf
            refine ⟨fun c7 => ?_, fun c7 => ?_⟩
            · rw [if_pos c7] at hf
              refine AW.forget [true, true, false, true, false] ?_
              show AW Z 0 0 3 [some (.ref 0), some (.long y1), none, some (.int (x3 + (-8))), none] [] ([kTape 0 (Tape_s_signs_length v0 m_signs0 m_length1)] : List (List zE)).flatten
              exact ih v0 y1 (x3 + (-8)) m_signs0 m_length1 q hf hk0
            · rw [if_neg c7] at hf
              obtain ⟨b8, hf⟩ := zneed hf
              refine ⟨b8, ?_⟩
              refine AW.forget [true, true, false, true, false] ?_
              show AW Z 0 0 3 [some (.ref 0), some (.long y1), none, some (.int (x3 + (-8))), none] [] ([kTape 0 (Tape_s_signs_length v0 (upd m_signs0 (Int32.toNatClampNeg m_length1) (vp_nar .char ((Int32.toUInt32 (Int64.toInt32 (((Int64.toUInt64 y1 >>> ((Int32.toInt64 x3).toUInt64 &&& Int64.toUInt64 63)).toInt64) &&& 255)) % 65536).toInt32))) (m_length1 + 1))] : List (List zE)).flatten
              exact ih v0 y1 (x3 + (-8)) (upd m_signs0 (Int32.toNatClampNeg m_length1) (vp_nar .char ((Int32.toUInt32 (Int64.toInt32 (((Int64.toUInt64 y1 >>> ((Int32.toInt64 x3).toUInt64 &&& Int64.toUInt64 63)).toInt64) &&& 255)) % 65536).toInt32))) (m_length1 + 1) q hf hk0
set_option maxRecDepth 20000 in
set_option maxHeartbeats 4000000 in
theorem c_Tape_addBytes (N : Nat) (v0 : VTape) (a1 : Int64) (R : (Nat → Int32) × Int32) (hf : f_Tape_addBytes N v0 a1 = some R) : Ct zMX7_addBytes 1 0 0 0 [.ref 0, .long a1] ([kTape 0 v0] : List (List zE)).flatten (fun v cc => v = none ∧ cc = ([kTape 0 (Tape_s_signs_length v0 R.1 R.2)] : List (List zE)).flatten) := by
  refine Ct.of zMX7_addBytes_ok (by decide) (Nat.le_of_ble_eq_true rfl) ?_
  intro Z hZ hR hN hE
  have hRm : zRoom Z 0 0 := zRoom0 Z
  unfold f_Tape_addBytes at hf
  show AW Z 0 0 0 [some (.ref 0), some (.long a1), none, none, none] [] ([kTape 0 v0] : List (List zE)).flatten
  refine AW.run hZ hRm [3] 400 ?_
  show AW Z 0 0 3 [some (.ref 0), some (.long a1), none, some (.int 56), none] [] ([kTape 0 v0] : List (List zE)).flatten
  obtain ⟨q9, h10, hf⟩ := zbind hf
  refine c_Tape_addBytes_L3 hZ hR (by omega) hN hRm N N v0 a1 56 (Tape_signs v0) (Tape_length v0) q9 h10 ?_
  show AW Z 0 0 76 [none, none, none, none, none] [] ([kTape 0 (Tape_s_signs_length v0 q9.1 q9.2)] : List (List zE)).flatten
  cases hf
  exact AW.vret hZ hE rfl rfl rfl (Nat.le_refl 0) (Nat.le_refl 0) rfl ⟨rfl, rfl⟩
def f_Tape_sortOf (N : Nat) (a0 : Int32) : Option (Int32) := (if (a0 = 10) then (some 0) else (if (a0 = 32) then (some 0) else (if (a0 < 97) then (if (a0 < 48) then (some 3) else (if (57 < a0) then (some 3) else (some 2))) else (if (122 < a0) then (if (a0 < 48) then (some 3) else (if (57 < a0) then (some 3) else (some 2))) else (some 1)))))
set_option maxRecDepth 20000 in
set_option maxHeartbeats 4000000 in
theorem c_Tape_sortOf (N : Nat) (a0 : Int32) (R : Int32) (hf : f_Tape_sortOf N a0 = some R) : Ct zMX7_sortOf 1 0 0 0 [.int a0] ([] : List (List zE)).flatten (fun v cc => v = some (.int R) ∧ cc = ([] : List (List zE)).flatten) := by
  refine Ct.of zMX7_sortOf_ok (by decide) (Nat.le_of_ble_eq_true rfl) ?_
  intro Z hZ hR hN hE
  have hRm : zRoom Z 0 0 := zRoom0 Z
  unfold f_Tape_sortOf at hf
  show AW Z 0 0 0 [some (.int a0)] [] ([] : List (List zE)).flatten
  refine AW.run hZ hRm [13, 27, 45] 400 ?_
  show (((a0 = 10) → AW Z 0 0 13 [some (.int a0)] [.int 0] ([] : List (List zE)).flatten) ∧ (¬ (a0 = 10) → ((¬ (a0 = 32) → (((a0 < 97) → (((a0 < 48) → AW Z 0 0 45 [some (.int a0)] [.int 3] ([] : List (List zE)).flatten) ∧ (¬ (a0 < 48) → (((57 < a0) → AW Z 0 0 45 [some (.int a0)] [.int 3] ([] : List (List zE)).flatten) ∧ (¬ (57 < a0) → AW Z 0 0 45 [some (.int a0)] [.int 2] ([] : List (List zE)).flatten))))) ∧ (¬ (a0 < 97) → (((122 < a0) → (((a0 < 48) → AW Z 0 0 45 [some (.int a0)] [.int 3] ([] : List (List zE)).flatten) ∧ (¬ (a0 < 48) → (((57 < a0) → AW Z 0 0 45 [some (.int a0)] [.int 3] ([] : List (List zE)).flatten) ∧ (¬ (57 < a0) → AW Z 0 0 45 [some (.int a0)] [.int 2] ([] : List (List zE)).flatten))))) ∧ (¬ (122 < a0) → AW Z 0 0 27 [some (.int a0)] [.int 1] ([] : List (List zE)).flatten))))) ∧ ((a0 = 32) → AW Z 0 0 13 [some (.int a0)] [.int 0] ([] : List (List zE)).flatten))))
  refine ⟨fun c1 => ?_, fun c1 => ?_⟩
  · rw [if_pos c1] at hf
    cases hf
    exact AW.iret hZ hE rfl rfl rfl rfl (Nat.le_refl 0) (Nat.le_refl 0) rfl ⟨rfl, rfl⟩
  · rw [if_neg c1] at hf
    refine ⟨fun c2 => ?_, fun c2 => ?_⟩
    · rw [if_neg c2] at hf
      refine ⟨fun c3 => ?_, fun c3 => ?_⟩
      · rw [if_pos c3] at hf
        refine ⟨fun c4 => ?_, fun c4 => ?_⟩
        · rw [if_pos c4] at hf
          cases hf
          exact AW.iret hZ hE rfl rfl rfl rfl (Nat.le_refl 0) (Nat.le_refl 0) rfl ⟨rfl, rfl⟩
        · rw [if_neg c4] at hf
          refine ⟨fun c5 => ?_, fun c5 => ?_⟩
          · rw [if_pos c5] at hf
            cases hf
            exact AW.iret hZ hE rfl rfl rfl rfl (Nat.le_refl 0) (Nat.le_refl 0) rfl ⟨rfl, rfl⟩
          · rw [if_neg c5] at hf
            cases hf
            exact AW.iret hZ hE rfl rfl rfl rfl (Nat.le_refl 0) (Nat.le_refl 0) rfl ⟨rfl, rfl⟩
      · rw [if_neg c3] at hf
        refine ⟨fun c6 => ?_, fun c6 => ?_⟩
        · rw [if_pos c6] at hf
          refine ⟨fun c7 => ?_, fun c7 => ?_⟩
          · rw [if_pos c7] at hf
            cases hf
            exact AW.iret hZ hE rfl rfl rfl rfl (Nat.le_refl 0) (Nat.le_refl 0) rfl ⟨rfl, rfl⟩
          · rw [if_neg c7] at hf
            refine ⟨fun c8 => ?_, fun c8 => ?_⟩
            · rw [if_pos c8] at hf
              cases hf
              exact AW.iret hZ hE rfl rfl rfl rfl (Nat.le_refl 0) (Nat.le_refl 0) rfl ⟨rfl, rfl⟩
            · rw [if_neg c8] at hf
              cases hf
              exact AW.iret hZ hE rfl rfl rfl rfl (Nat.le_refl 0) (Nat.le_refl 0) rfl ⟨rfl, rfl⟩
        · rw [if_neg c6] at hf
          cases hf
          exact AW.iret hZ hE rfl rfl rfl rfl (Nat.le_refl 0) (Nat.le_refl 0) rfl ⟨rfl, rfl⟩
    · rw [if_pos c2] at hf
      cases hf
      exact AW.iret hZ hE rfl rfl rfl rfl (Nat.le_refl 0) (Nat.le_refl 0) rfl ⟨rfl, rfl⟩
def f_Tape_addToken (N : Nat) (v0 : VTape) (a1 : Int32) (a2 : Int32) (a3 : Int64) : Option ((Nat → Int32) × (Nat → Int32) × (Nat → Int64) × Int32) := (if (1001 ≤ (Tape_tokenCount v0)) then (some ((Tape_tokens v0), (Tape_places v0), (Tape_values v0), (Tape_tokenCount v0))) else (if ((Tape_tokenCount v0) < 0 ∨ 1001 ≤ Int32.toNatClampNeg (Tape_tokenCount v0)) then none else (if ((Tape_tokenCount v0) < 0 ∨ 1001 ≤ Int32.toNatClampNeg (Tape_tokenCount v0)) then none else (if ((Tape_tokenCount v0) < 0 ∨ 1001 ≤ Int32.toNatClampNeg (Tape_tokenCount v0)) then none else (some ((upd (Tape_tokens v0) (Int32.toNatClampNeg (Tape_tokenCount v0)) a1), (upd (Tape_places v0) (Int32.toNatClampNeg (Tape_tokenCount v0)) a2), (vp_updL (Tape_values v0) (Int32.toNatClampNeg (Tape_tokenCount v0)) a3), ((Tape_tokenCount v0) + 1)))))))
set_option maxRecDepth 20000 in
set_option maxHeartbeats 4000000 in
theorem c_Tape_addToken (N : Nat) (v0 : VTape) (a1 : Int32) (a2 : Int32) (a3 : Int64) (R : (Nat → Int32) × (Nat → Int32) × (Nat → Int64) × Int32) (hf : f_Tape_addToken N v0 a1 a2 a3 = some R) : Ct zMX7_addToken 1 0 0 0 [.ref 0, .int a1, .int a2, .long a3] ([kTape 0 v0] : List (List zE)).flatten (fun v cc => v = none ∧ cc = ([kTape 0 (Tape_s_tokens_places_values_tokenCount v0 R.1 R.2.1 R.2.2.1 R.2.2.2)] : List (List zE)).flatten) := by
  refine Ct.of zMX7_addToken_ok (by decide) (Nat.le_of_ble_eq_true rfl) ?_
  intro Z hZ hR hN hE
  have hRm : zRoom Z 0 0 := zRoom0 Z
  unfold f_Tape_addToken at hf
  show AW Z 0 0 0 [some (.ref 0), some (.int a1), some (.int a2), some (.long a3), none] [] ([kTape 0 v0] : List (List zE)).flatten
  refine AW.run hZ hRm [52] 400 ?_
  show (((1001 ≤ (Tape_tokenCount v0)) → AW Z 0 0 52 [some (.ref 0), some (.int a1), some (.int a2), some (.long a3), none] [] ([kTape 0 v0] : List (List zE)).flatten) ∧ (¬ (1001 ≤ (Tape_tokenCount v0)) → (¬ ((Tape_tokenCount v0) < 0 ∨ 1001 ≤ Int32.toNatClampNeg (Tape_tokenCount v0)) ∧ (¬ ((Tape_tokenCount v0) < 0 ∨ 1001 ≤ Int32.toNatClampNeg (Tape_tokenCount v0)) ∧ (¬ ((Tape_tokenCount v0) < 0 ∨ 1001 ≤ Int32.toNatClampNeg (Tape_tokenCount v0)) ∧ AW Z 0 0 52 [some (.ref 0), some (.int a1), some (.int a2), some (.long a3), none] [] ([kTape 0 (Tape_s_tokens_places_values_tokenCount v0 (upd (Tape_tokens v0) (Int32.toNatClampNeg (Tape_tokenCount v0)) a1) (upd (Tape_places v0) (Int32.toNatClampNeg (Tape_tokenCount v0)) a2) (vp_updL (Tape_values v0) (Int32.toNatClampNeg (Tape_tokenCount v0)) a3) ((Tape_tokenCount v0) + 1))] : List (List zE)).flatten)))))
  refine ⟨fun c1 => ?_, fun c1 => ?_⟩
  · rw [if_pos c1] at hf
    cases hf
    exact AW.vret hZ hE rfl rfl rfl (Nat.le_refl 0) (Nat.le_refl 0) rfl ⟨rfl, rfl⟩
  · rw [if_neg c1] at hf
    obtain ⟨b4, hf⟩ := zneed hf
    refine ⟨b4, ?_⟩
    obtain ⟨b3, hf⟩ := zneed hf
    refine ⟨b3, ?_⟩
    obtain ⟨b2, hf⟩ := zneed hf
    refine ⟨b2, ?_⟩
    cases hf
    exact AW.vret hZ hE rfl rfl rfl (Nat.le_refl 0) (Nat.le_refl 0) rfl ⟨rfl, rfl⟩
def f_Tape_standsIn_L3 (N : Nat) : Nat → VTape → Int32 → Int32 → Int32 → Int32 → Option ((Unit) ⊕ (Unit))
  | 0, _, _, _, _, _ => none
  | fuel + 1, v0, y1, y2, y3, x4 => (if (8 ≤ x4) then (some (Sum.inr ())) else (if (216 ≤ (y1 + x4)) then (some (Sum.inr ())) else (if (y3 ≤ (y2 + x4)) then (if ((y1 + x4) < 0 ∨ 216 ≤ (y1 + x4)) then none else (if ((zsch 1 (y1 + x4)) = 32) then (f_Tape_standsIn_L3 N fuel v0 y1 y2 y3 (x4 + 1)) else (some (Sum.inl ())))) else (if ((y2 + x4) < 0 ∨ 1000 ≤ Int32.toNatClampNeg (y2 + x4)) then none else (if ((y1 + x4) < 0 ∨ 216 ≤ (y1 + x4)) then none else (if ((zsch 1 (y1 + x4)) = ((Tape_signs v0) (Int32.toNatClampNeg (y2 + x4)))) then (f_Tape_standsIn_L3 N fuel v0 y1 y2 y3 (x4 + 1)) else (some (Sum.inl ()))))))))
def f_Tape_standsIn (N : Nat) (v0 : VTape) (a1 : Int32) (a2 : Int32) (a3 : Int32) : Option (Int32) := ((f_Tape_standsIn_L3 N N v0 a1 a2 a3 0).bind (Sum.elim (fun w11 => (some 0)) (fun w12 => (some 1))))
set_option maxRecDepth 20000 in
set_option maxHeartbeats 4000000 in
theorem c_Tape_standsIn_L3 {Z : zCtx} {D n0w nf mcw msw : Nat} (hZ : zOk Z zMX7_standsIn) (hR : zCan Z D mcw msw) (hDd : 10 ≤ D) (hN : zNew Z n0w nf) (hRm : zRoom Z 0 0) (N : Nat) : ∀ (fuel : Nat) (v0 : VTape) (y1 : Int32) (y2 : Int32) (y3 : Int32) (x4 : Int32) (q : ((Unit) ⊕ (Unit))), f_Tape_standsIn_L3 N fuel v0 y1 y2 y3 x4 = some q → (∀ w : Unit, q = (Sum.inl w) → AW Z 0 0 60 [none, none, none, none, none, none] [] ([kTape 0 v0] : List (List zE)).flatten) → (∀ w : Unit, q = (Sum.inr w) → AW Z 0 0 68 [none, none, none, none, none, none] [] ([kTape 0 v0] : List (List zE)).flatten) → AW Z 0 0 3 [some (.ref 0), some (.int y1), some (.int y2), some (.int y3), some (.int x4), none] [] ([kTape 0 v0] : List (List zE)).flatten := by
  intro fuel
  induction fuel with
  | zero =>
    intro v0 y1 y2 y3 x4 q hf hk0 hk1
    simp [f_Tape_standsIn_L3] at hf
  | succ fuel ih =>
    intro v0 y1 y2 y3 x4 q hf hk0 hk1
    rw [f_Tape_standsIn_L3] at hf
    refine AW.run hZ hRm [14, 68] 400 ?_
    show (((8 ≤ x4) → AW Z 0 0 68 [some (.ref 0), some (.int y1), some (.int y2), some (.int y3), some (.int x4), none] [] ([kTape 0 v0] : List (List zE)).flatten) ∧ (¬ (8 ≤ x4) → AW Z 0 0 14 [some (.ref 0), some (.int y1), some (.int y2), some (.int y3), some (.int x4), none] [.int (y1 + x4)] ([kTape 0 v0] : List (List zE)).flatten))
    refine ⟨fun c1 => ?_, fun c1 => ?_⟩
    · rw [if_pos c1] at hf
      cases hf
      refine AW.forget [false, false, false, false, false, false] ?_
      show AW Z 0 0 68 [none, none, none, none, none, none] [] ([kTape 0 v0] : List (List zE)).flatten
      exact hk1 _ rfl
    · rw [if_neg c1] at hf
      refine AW.ldcT1 hZ rfl rfl rfl ?_
      show AW Z 0 0 16 [some (.ref 0), some (.int y1), some (.int y2), some (.int y3), some (.int x4), none] [.ref 1000001, .int (y1 + x4)] ([kTape 0 v0] : List (List zE)).flatten
      refine AW.callVs (i := 1) (by decide) (ps := []) rfl rfl hZ hR hN (c_J_length (i := 1) (by decide)) zMJ0_length_8abf5_ok rfl rfl zK_BorrowedLives_Tape_71 zV_J0_length_8abf5 rfl rfl (by decide) (Or.inl rfl) (by decide) (by omega) (by decide) (Nat.zero_le _) (Nat.zero_le _) rfl rfl ?_
      rintro v cc ⟨rfl, rfl⟩ -
      show AW Z 0 0 19 [some (.ref 0), some (.int y1), some (.int y2), some (.int y3), some (.int x4), none] [.int 216, .int (y1 + x4)] ([kTape 0 v0] : List (List zE)).flatten
      refine AW.run hZ hRm [46, 68] 400 ?_
      show (((216 ≤ (y1 + x4)) → AW Z 0 0 68 [some (.ref 0), some (.int y1), some (.int y2), some (.int y3), some (.int x4), none] [] ([kTape 0 v0] : List (List zE)).flatten) ∧ (¬ (216 ≤ (y1 + x4)) → (((y3 ≤ (y2 + x4)) → AW Z 0 0 46 [some (.ref 0), some (.int y1), some (.int y2), some (.int y3), some (.int x4), some (.int 32)] [] ([kTape 0 v0] : List (List zE)).flatten) ∧ (¬ (y3 ≤ (y2 + x4)) → (¬ ((y2 + x4) < 0 ∨ 1000 ≤ Int32.toNatClampNeg (y2 + x4)) ∧ AW Z 0 0 46 [some (.ref 0), some (.int y1), some (.int y2), some (.int y3), some (.int x4), some (.int ((Tape_signs v0) (Int32.toNatClampNeg (y2 + x4))))] [] ([kTape 0 v0] : List (List zE)).flatten)))))
      refine ⟨fun c2 => ?_, fun c2 => ?_⟩
      · rw [if_pos c2] at hf
        cases hf
        refine AW.forget [false, false, false, false, false, false] ?_
        show AW Z 0 0 68 [none, none, none, none, none, none] [] ([kTape 0 v0] : List (List zE)).flatten
        exact hk1 _ rfl
      · rw [if_neg c2] at hf
        refine ⟨fun c3 => ?_, fun c3 => ?_⟩
        · rw [if_pos c3] at hf
          refine AW.ldcT1 hZ rfl rfl rfl ?_
          show AW Z 0 0 48 [some (.ref 0), some (.int y1), some (.int y2), some (.int y3), some (.int x4), some (.int 32)] [.ref 1000001] ([kTape 0 v0] : List (List zE)).flatten
          refine AW.run hZ hRm [52] 400 ?_
          show AW Z 0 0 52 [some (.ref 0), some (.int y1), some (.int y2), some (.int y3), some (.int x4), some (.int 32)] [.int (y1 + x4), .ref 1000001] ([kTape 0 v0] : List (List zE)).flatten
          obtain ⟨b4, hf⟩ := zneed hf
          refine AW.callVs (i := 1) (by decide) (ps := []) rfl rfl hZ hR hN (c_J_charAt (i := 1) (by decide) (fun h9 => b4 (Or.inl h9)) (Int32.not_le.mp (fun h9 => b4 (Or.inr h9)))) zMJ0_charAt_5068e_ok rfl rfl zK_BorrowedLives_Tape_78 zV_J0_charAt_5068e rfl rfl (by decide) (Or.inl rfl) (by decide) (by omega) (by decide) (Nat.zero_le _) (Nat.zero_le _) rfl rfl ?_
          rintro v cc ⟨rfl, rfl⟩ -
          show AW Z 0 0 55 [some (.ref 0), some (.int y1), some (.int y2), some (.int y3), some (.int x4), some (.int 32)] [.int (zsch 1 (y1 + x4))] ([kTape 0 v0] : List (List zE)).flatten
          refine AW.run hZ hRm [3, 60] 400 ?_
          show ((((zsch 1 (y1 + x4)) = 32) → AW Z 0 0 3 [some (.ref 0), some (.int y1), some (.int y2), some (.int y3), some (.int (x4 + 1)), some (.int 32)] [] ([kTape 0 v0] : List (List zE)).flatten) ∧ (¬ ((zsch 1 (y1 + x4)) = 32) → AW Z 0 0 60 [some (.ref 0), some (.int y1), some (.int y2), some (.int y3), some (.int x4), some (.int 32)] [] ([kTape 0 v0] : List (List zE)).flatten))
          refine ⟨fun c5 => ?_, fun c5 => ?_⟩
          · rw [if_pos c5] at hf
            refine AW.forget [true, true, true, true, true, false] ?_
            show AW Z 0 0 3 [some (.ref 0), some (.int y1), some (.int y2), some (.int y3), some (.int (x4 + 1)), none] [] ([kTape 0 v0] : List (List zE)).flatten
            exact ih v0 y1 y2 y3 (x4 + 1) q hf hk0 hk1
          · rw [if_neg c5] at hf
            cases hf
            refine AW.forget [false, false, false, false, false, false] ?_
            show AW Z 0 0 60 [none, none, none, none, none, none] [] ([kTape 0 v0] : List (List zE)).flatten
            exact hk0 _ rfl
        · rw [if_neg c3] at hf
          obtain ⟨b8, hf⟩ := zneed hf
          refine ⟨b8, ?_⟩
          refine AW.ldcT1 hZ rfl rfl rfl ?_
          show AW Z 0 0 48 [some (.ref 0), some (.int y1), some (.int y2), some (.int y3), some (.int x4), some (.int ((Tape_signs v0) (Int32.toNatClampNeg (y2 + x4))))] [.ref 1000001] ([kTape 0 v0] : List (List zE)).flatten
          refine AW.run hZ hRm [52] 400 ?_
          show AW Z 0 0 52 [some (.ref 0), some (.int y1), some (.int y2), some (.int y3), some (.int x4), some (.int ((Tape_signs v0) (Int32.toNatClampNeg (y2 + x4))))] [.int (y1 + x4), .ref 1000001] ([kTape 0 v0] : List (List zE)).flatten
          obtain ⟨b6, hf⟩ := zneed hf
          refine AW.callVs (i := 1) (by decide) (ps := []) rfl rfl hZ hR hN (c_J_charAt (i := 1) (by decide) (fun h9 => b6 (Or.inl h9)) (Int32.not_le.mp (fun h9 => b6 (Or.inr h9)))) zMJ0_charAt_5068e_ok rfl rfl zK_BorrowedLives_Tape_78 zV_J0_charAt_5068e rfl rfl (by decide) (Or.inl rfl) (by decide) (by omega) (by decide) (Nat.zero_le _) (Nat.zero_le _) rfl rfl ?_
          rintro v cc ⟨rfl, rfl⟩ -
          show AW Z 0 0 55 [some (.ref 0), some (.int y1), some (.int y2), some (.int y3), some (.int x4), some (.int ((Tape_signs v0) (Int32.toNatClampNeg (y2 + x4))))] [.int (zsch 1 (y1 + x4))] ([kTape 0 v0] : List (List zE)).flatten
          refine AW.run hZ hRm [3, 60] 400 ?_
          show ((((zsch 1 (y1 + x4)) = ((Tape_signs v0) (Int32.toNatClampNeg (y2 + x4)))) → AW Z 0 0 3 [some (.ref 0), some (.int y1), some (.int y2), some (.int y3), some (.int (x4 + 1)), some (.int ((Tape_signs v0) (Int32.toNatClampNeg (y2 + x4))))] [] ([kTape 0 v0] : List (List zE)).flatten) ∧ (¬ ((zsch 1 (y1 + x4)) = ((Tape_signs v0) (Int32.toNatClampNeg (y2 + x4)))) → AW Z 0 0 60 [some (.ref 0), some (.int y1), some (.int y2), some (.int y3), some (.int x4), some (.int ((Tape_signs v0) (Int32.toNatClampNeg (y2 + x4))))] [] ([kTape 0 v0] : List (List zE)).flatten))
          refine ⟨fun c7 => ?_, fun c7 => ?_⟩
          · rw [if_pos c7] at hf
            refine AW.forget [true, true, true, true, true, false] ?_
            show AW Z 0 0 3 [some (.ref 0), some (.int y1), some (.int y2), some (.int y3), some (.int (x4 + 1)), none] [] ([kTape 0 v0] : List (List zE)).flatten
            exact ih v0 y1 y2 y3 (x4 + 1) q hf hk0 hk1
          · rw [if_neg c7] at hf
            cases hf
            refine AW.forget [false, false, false, false, false, false] ?_
            show AW Z 0 0 60 [none, none, none, none, none, none] [] ([kTape 0 v0] : List (List zE)).flatten
            exact hk0 _ rfl
set_option maxRecDepth 20000 in
set_option maxHeartbeats 4000000 in
theorem c_Tape_standsIn (N : Nat) (v0 : VTape) (a1 : Int32) (a2 : Int32) (a3 : Int32) (R : Int32) (hf : f_Tape_standsIn N v0 a1 a2 a3 = some R) : Ct zMX7_standsIn 10 0 0 0 [.ref 0, .int a1, .int a2, .int a3] ([kTape 0 v0] : List (List zE)).flatten (fun v cc => v = some (.int R) ∧ cc = ([kTape 0 v0] : List (List zE)).flatten) := by
  refine Ct.of zMX7_standsIn_ok (by decide) (Nat.le_of_ble_eq_true rfl) ?_
  intro Z hZ hR hN hE
  have hRm : zRoom Z 0 0 := zRoom0 Z
  unfold f_Tape_standsIn at hf
  show AW Z 0 0 0 [some (.ref 0), some (.int a1), some (.int a2), some (.int a3), none, none] [] ([kTape 0 v0] : List (List zE)).flatten
  refine AW.run hZ hRm [3] 400 ?_
  show AW Z 0 0 3 [some (.ref 0), some (.int a1), some (.int a2), some (.int a3), some (.int 0), none] [] ([kTape 0 v0] : List (List zE)).flatten
  obtain ⟨q9, h10, hf⟩ := zbind hf
  refine c_Tape_standsIn_L3 hZ hR (by omega) hN hRm N N v0 a1 a2 a3 0 q9 h10 ?_ ?_
  · intro w11 hq
    subst hq
    show AW Z 0 0 60 [none, none, none, none, none, none] [] ([kTape 0 v0] : List (List zE)).flatten
    replace hf : (some 0) = some R := hf
    refine AW.run hZ hRm [61] 400 ?_
    show AW Z 0 0 61 [none, none, none, none, none, none] [.int 0] ([kTape 0 v0] : List (List zE)).flatten
    cases hf
    exact AW.iret hZ hE rfl rfl rfl rfl (Nat.le_refl 0) (Nat.le_refl 0) rfl ⟨rfl, rfl⟩
  · intro w12 hq
    subst hq
    show AW Z 0 0 68 [none, none, none, none, none, none] [] ([kTape 0 v0] : List (List zE)).flatten
    replace hf : (some 1) = some R := hf
    refine AW.run hZ hRm [69] 400 ?_
    show AW Z 0 0 69 [none, none, none, none, none, none] [.int 1] ([kTape 0 v0] : List (List zE)).flatten
    cases hf
    exact AW.iret hZ hE rfl rfl rfl rfl (Nat.le_refl 0) (Nat.le_refl 0) rfl ⟨rfl, rfl⟩
