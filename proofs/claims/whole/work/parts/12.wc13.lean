def f_Tape_takeAll_L17 (N : Nat) : Nat → VTape → Int32 → (Nat → Int32) → (Nat → Int32) → (Nat → Int64) → Int32 → Option ((Nat → Int32) × (Nat → Int32) × (Nat → Int64) × Int32)
  | 0, _, _, _, _, _, _ => none
  | fuel + 1, v0, x1, m_tokens0, m_places1, m_values2, m_tokenCount3 => (if ((Tape_length v0) ≤ x1) then (some (m_tokens0, m_places1, m_values2, m_tokenCount3)) else (if (x1 < 0 ∨ 1000 ≤ Int32.toNatClampNeg x1) then none else ((f_Tape_sortOf N ((Tape_signs v0) (Int32.toNatClampNeg x1))).bind (fun q2 => (if (x1 ≤ 0) then (if (q2 = 0) then (f_Tape_takeAll_L17 N fuel v0 (x1 + 1) m_tokens0 m_places1 m_values2 m_tokenCount3) else ((f_Tape_scanToken N (Tape_s_tokens_places_values_tokenCount v0 m_tokens0 m_places1 m_values2 m_tokenCount3) x1 q2).bind (fun q5 => (f_Tape_takeAll_L17 N fuel v0 (x1 + 1) q5.1 q5.2.1 q5.2.2.1 q5.2.2.2)))) else (if (q2 = 3) then (if (q2 = 0) then (f_Tape_takeAll_L17 N fuel v0 (x1 + 1) m_tokens0 m_places1 m_values2 m_tokenCount3) else ((f_Tape_scanToken N (Tape_s_tokens_places_values_tokenCount v0 m_tokens0 m_places1 m_values2 m_tokenCount3) x1 q2).bind (fun q9 => (f_Tape_takeAll_L17 N fuel v0 (x1 + 1) q9.1 q9.2.1 q9.2.2.1 q9.2.2.2)))) else (if ((x1 - 1) < 0 ∨ 1000 ≤ Int32.toNatClampNeg (x1 - 1)) then none else ((f_Tape_sortOf N ((Tape_signs v0) (Int32.toNatClampNeg (x1 - 1)))).bind (fun q11 => (if (q2 = 0) then (f_Tape_takeAll_L17 N fuel v0 (x1 + 1) m_tokens0 m_places1 m_values2 m_tokenCount3) else (if (((if (q11 = q2) then 1 else 0) : Int32) = 0) then ((f_Tape_scanToken N (Tape_s_tokens_places_values_tokenCount v0 m_tokens0 m_places1 m_values2 m_tokenCount3) x1 q2).bind (fun q16 => (f_Tape_takeAll_L17 N fuel v0 (x1 + 1) q16.1 q16.2.1 q16.2.2.1 q16.2.2.2))) else (f_Tape_takeAll_L17 N fuel v0 (x1 + 1) m_tokens0 m_places1 m_values2 m_tokenCount3))))))))))))
def f_Tape_takeAll (N : Nat) (v0 : VTape) : Option (Int32 × (Nat → Int32) × (Nat → Int32) × (Nat → Int64) × Int32 × Int32 × Int32) := ((f_Tape_takeAll_L17 N N (Tape_s_tokenCount_at_fault v0 0 0 0) 0 (Tape_tokens v0) (Tape_places v0) (Tape_values v0) 0).bind (fun q22 => ((f_Tape_addToken N (Tape_s_tokens_places_values_tokenCount_at_fault v0 q22.1 q22.2.1 q22.2.2.1 q22.2.2.2 0 0) 0 (Tape_length v0) 0).bind (fun q24 => (some (0, q24.1, q24.2.1, q24.2.2.1, q24.2.2.2, 0, 0))))))
set_option maxRecDepth 20000 in
set_option maxHeartbeats 4000000 in
theorem c_Tape_takeAll_L17 {Z : zCtx} {D n0w nf mcw msw : Nat} (hZ : zOk Z zMX7_takeAll) (hR : zCan Z D mcw msw) (hDd : 13 ≤ D) (hN : zNew Z n0w nf) (hRm : zRoom Z 0 0) (N : Nat) : ∀ (fuel : Nat) (v0 : VTape) (x1 : Int32) (m_tokens0 : (Nat → Int32)) (m_places1 : (Nat → Int32)) (m_values2 : (Nat → Int64)) (m_tokenCount3 : Int32) (q : ((Nat → Int32) × (Nat → Int32) × (Nat → Int64) × Int32)), f_Tape_takeAll_L17 N fuel v0 x1 m_tokens0 m_places1 m_values2 m_tokenCount3 = some q → (AW Z 0 0 85 [some (.ref 0), none, none, none] [] ([kTape 0 (Tape_s_tokens_places_values_tokenCount v0 q.1 q.2.1 q.2.2.1 q.2.2.2)] : List (List zE)).flatten) → AW Z 0 0 17 [some (.ref 0), some (.int x1), none, none] [] ([kTape 0 (Tape_s_tokens_places_values_tokenCount v0 m_tokens0 m_places1 m_values2 m_tokenCount3)] : List (List zE)).flatten := by
  intro fuel
  induction fuel with
  | zero =>
    intro v0 x1 m_tokens0 m_places1 m_values2 m_tokenCount3 q hf hk0
    simp [f_Tape_takeAll_L17] at hf
  | succ fuel ih =>
    intro v0 x1 m_tokens0 m_places1 m_values2 m_tokenCount3 q hf hk0
    rw [f_Tape_takeAll_L17] at hf
    refine AW.run hZ hRm [31, 85] 400 ?_
    show ((((Tape_length v0) ≤ x1) → AW Z 0 0 85 [some (.ref 0), some (.int x1), none, none] [] ([kTape 0 (Tape_s_tokens_places_values_tokenCount v0 m_tokens0 m_places1 m_values2 m_tokenCount3)] : List (List zE)).flatten) ∧ (¬ ((Tape_length v0) ≤ x1) → (¬ (x1 < 0 ∨ 1000 ≤ Int32.toNatClampNeg x1) ∧ AW Z 0 0 31 [some (.ref 0), some (.int x1), none, none] [.int ((Tape_signs v0) (Int32.toNatClampNeg x1))] ([kTape 0 (Tape_s_tokens_places_values_tokenCount v0 m_tokens0 m_places1 m_values2 m_tokenCount3)] : List (List zE)).flatten)))
    refine ⟨fun c1 => ?_, fun c1 => ?_⟩
    · rw [if_pos c1] at hf
      cases hf
      refine AW.forget [true, false, false, false] ?_
      show AW Z 0 0 85 [some (.ref 0), none, none, none] [] ([kTape 0 (Tape_s_tokens_places_values_tokenCount v0 m_tokens0 m_places1 m_values2 m_tokenCount3)] : List (List zE)).flatten
      exact hk0
    · rw [if_neg c1] at hf
      obtain ⟨b21, hf⟩ := zneed hf
      refine ⟨b21, ?_⟩
      obtain ⟨q2, h20, hf⟩ := zbind hf
      refine AW.callSc hZ hR hN (c_Tape_sortOf N ((Tape_signs v0) (Int32.toNatClampNeg x1)) q2 h20) zMX7_sortOf_ok rfl rfl zK_BorrowedLives_Tape_41 zV_X7_sortOf rfl [5] [] [] rfl rfl rfl (by decide) (by decide) (by omega) (by decide) (Nat.zero_le _) (Nat.zero_le _) rfl rfl ?_
      rintro v cc ⟨rfl, rfl⟩
      refine ⟨_, rfl, rfl, ?_⟩
      show AW Z 0 0 34 [some (.ref 0), some (.int x1), none, none] [.int q2] ([kTape 0 (Tape_s_tokens_places_values_tokenCount v0 m_tokens0 m_places1 m_values2 m_tokenCount3)] : List (List zE)).flatten
      refine AW.run hZ hRm [17, 52, 76] 400 ?_
      show (((x1 ≤ 0) → (((q2 = 0) → AW Z 0 0 17 [some (.ref 0), some (.int (x1 + 1)), some (.int q2), some (.int 0)] [] ([kTape 0 (Tape_s_tokens_places_values_tokenCount v0 m_tokens0 m_places1 m_values2 m_tokenCount3)] : List (List zE)).flatten) ∧ (¬ (q2 = 0) → ((¬ ((0 : Int32) = 0) → AW Z 0 0 17 [some (.ref 0), some (.int (x1 + 1)), some (.int q2), some (.int 0)] [] ([kTape 0 (Tape_s_tokens_places_values_tokenCount v0 m_tokens0 m_places1 m_values2 m_tokenCount3)] : List (List zE)).flatten) ∧ (((0 : Int32) = 0) → AW Z 0 0 76 [some (.ref 0), some (.int x1), some (.int q2), some (.int 0)] [.int q2, .int x1, .ref 0] ([kTape 0 (Tape_s_tokens_places_values_tokenCount v0 m_tokens0 m_places1 m_values2 m_tokenCount3)] : List (List zE)).flatten))))) ∧ (¬ (x1 ≤ 0) → (((q2 = 3) → (((q2 = 0) → AW Z 0 0 17 [some (.ref 0), some (.int (x1 + 1)), some (.int q2), some (.int 0)] [] ([kTape 0 (Tape_s_tokens_places_values_tokenCount v0 m_tokens0 m_places1 m_values2 m_tokenCount3)] : List (List zE)).flatten) ∧ (¬ (q2 = 0) → ((¬ ((0 : Int32) = 0) → AW Z 0 0 17 [some (.ref 0), some (.int (x1 + 1)), some (.int q2), some (.int 0)] [] ([kTape 0 (Tape_s_tokens_places_values_tokenCount v0 m_tokens0 m_places1 m_values2 m_tokenCount3)] : List (List zE)).flatten) ∧ (((0 : Int32) = 0) → AW Z 0 0 76 [some (.ref 0), some (.int x1), some (.int q2), some (.int 0)] [.int q2, .int x1, .ref 0] ([kTape 0 (Tape_s_tokens_places_values_tokenCount v0 m_tokens0 m_places1 m_values2 m_tokenCount3)] : List (List zE)).flatten))))) ∧ (¬ (q2 = 3) → (¬ ((x1 - 1) < 0 ∨ 1000 ≤ Int32.toNatClampNeg (x1 - 1)) ∧ AW Z 0 0 52 [some (.ref 0), some (.int x1), some (.int q2), none] [.int ((Tape_signs v0) (Int32.toNatClampNeg (x1 - 1)))] ([kTape 0 (Tape_s_tokens_places_values_tokenCount v0 m_tokens0 m_places1 m_values2 m_tokenCount3)] : List (List zE)).flatten)))))
      refine ⟨fun c3 => ?_, fun c3 => ?_⟩
      · rw [if_pos c3] at hf
        refine ⟨fun c4 => ?_, fun c4 => ?_⟩
        · rw [if_pos c4] at hf
          refine AW.forget [true, true, false, false] ?_
          show AW Z 0 0 17 [some (.ref 0), some (.int (x1 + 1)), none, none] [] ([kTape 0 (Tape_s_tokens_places_values_tokenCount v0 m_tokens0 m_places1 m_values2 m_tokenCount3)] : List (List zE)).flatten
          exact ih v0 (x1 + 1) m_tokens0 m_places1 m_values2 m_tokenCount3 q hf hk0
        · rw [if_neg c4] at hf
          refine ⟨fun h => absurd h (by decide), fun _ => ?_⟩
          obtain ⟨q5, h6, hf⟩ := zbind hf
          refine AW.callVc hZ hR hN (c_Tape_scanToken N (Tape_s_tokens_places_values_tokenCount v0 m_tokens0 m_places1 m_values2 m_tokenCount3) x1 q2 q5 h6) zMX7_scanToken_ok rfl rfl zK_BorrowedLives_Tape_45 zV_X7_scanToken rfl [5] [0] [0, 1, 2, 3, 4] rfl rfl rfl (by decide) (by decide) (by omega) (by decide) (Nat.zero_le _) (Nat.zero_le _) rfl rfl rfl rfl rfl ?_
          rintro v cc ⟨rfl, rfl⟩
          refine ⟨_, rfl, rfl, ?_⟩
          show AW Z 0 0 79 [some (.ref 0), some (.int x1), some (.int q2), some (.int 0)] [] ([kTape 0 (Tape_s_tokens_places_values_tokenCount v0 q5.1 q5.2.1 q5.2.2.1 q5.2.2.2)] : List (List zE)).flatten
          refine AW.run hZ hRm [17] 400 ?_
          show AW Z 0 0 17 [some (.ref 0), some (.int (x1 + 1)), some (.int q2), some (.int 0)] [] ([kTape 0 (Tape_s_tokens_places_values_tokenCount v0 q5.1 q5.2.1 q5.2.2.1 q5.2.2.2)] : List (List zE)).flatten
          refine AW.forget [true, true, false, false] ?_
          show AW Z 0 0 17 [some (.ref 0), some (.int (x1 + 1)), none, none] [] ([kTape 0 (Tape_s_tokens_places_values_tokenCount v0 q5.1 q5.2.1 q5.2.2.1 q5.2.2.2)] : List (List zE)).flatten
          exact ih v0 (x1 + 1) q5.1 q5.2.1 q5.2.2.1 q5.2.2.2 q hf hk0
      · rw [if_neg c3] at hf
        refine ⟨fun c7 => ?_, fun c7 => ?_⟩
        · rw [if_pos c7] at hf
          refine ⟨fun c8 => ?_, fun c8 => ?_⟩
          · rw [if_pos c8] at hf
            refine AW.forget [true, true, false, false] ?_
            show AW Z 0 0 17 [some (.ref 0), some (.int (x1 + 1)), none, none] [] ([kTape 0 (Tape_s_tokens_places_values_tokenCount v0 m_tokens0 m_places1 m_values2 m_tokenCount3)] : List (List zE)).flatten
            exact ih v0 (x1 + 1) m_tokens0 m_places1 m_values2 m_tokenCount3 q hf hk0
          · rw [if_neg c8] at hf
            refine ⟨fun h => absurd h (by decide), fun _ => ?_⟩
            obtain ⟨q9, h10, hf⟩ := zbind hf
            refine AW.callVc hZ hR hN (c_Tape_scanToken N (Tape_s_tokens_places_values_tokenCount v0 m_tokens0 m_places1 m_values2 m_tokenCount3) x1 q2 q9 h10) zMX7_scanToken_ok rfl rfl zK_BorrowedLives_Tape_45 zV_X7_scanToken rfl [5] [0] [0, 1, 2, 3, 4] rfl rfl rfl (by decide) (by decide) (by omega) (by decide) (Nat.zero_le _) (Nat.zero_le _) rfl rfl rfl rfl rfl ?_
            rintro v cc ⟨rfl, rfl⟩
            refine ⟨_, rfl, rfl, ?_⟩
            show AW Z 0 0 79 [some (.ref 0), some (.int x1), some (.int q2), some (.int 0)] [] ([kTape 0 (Tape_s_tokens_places_values_tokenCount v0 q9.1 q9.2.1 q9.2.2.1 q9.2.2.2)] : List (List zE)).flatten
            refine AW.run hZ hRm [17] 400 ?_
            show AW Z 0 0 17 [some (.ref 0), some (.int (x1 + 1)), some (.int q2), some (.int 0)] [] ([kTape 0 (Tape_s_tokens_places_values_tokenCount v0 q9.1 q9.2.1 q9.2.2.1 q9.2.2.2)] : List (List zE)).flatten
            refine AW.forget [true, true, false, false] ?_
            show AW Z 0 0 17 [some (.ref 0), some (.int (x1 + 1)), none, none] [] ([kTape 0 (Tape_s_tokens_places_values_tokenCount v0 q9.1 q9.2.1 q9.2.2.1 q9.2.2.2)] : List (List zE)).flatten
            exact ih v0 (x1 + 1) q9.1 q9.2.1 q9.2.2.1 q9.2.2.2 q hf hk0
        · rw [if_neg c7] at hf
          obtain ⟨b19, hf⟩ := zneed hf
          refine ⟨b19, ?_⟩
          obtain ⟨q11, h18, hf⟩ := zbind hf
          refine AW.callSc hZ hR hN (c_Tape_sortOf N ((Tape_signs v0) (Int32.toNatClampNeg (x1 - 1))) q11 h18) zMX7_sortOf_ok rfl rfl zK_BorrowedLives_Tape_41 zV_X7_sortOf rfl [5] [] [] rfl rfl rfl (by decide) (by decide) (by omega) (by decide) (Nat.zero_le _) (Nat.zero_le _) rfl rfl ?_
          rintro v cc ⟨rfl, rfl⟩
          refine ⟨_, rfl, rfl, ?_⟩
          show AW Z 0 0 55 [some (.ref 0), some (.int x1), some (.int q2), none] [.int q11] ([kTape 0 (Tape_s_tokens_places_values_tokenCount v0 m_tokens0 m_places1 m_values2 m_tokenCount3)] : List (List zE)).flatten
          refine AW.run hZ hRm [56] 400 ?_
          show AW Z 0 0 56 [some (.ref 0), some (.int x1), some (.int q2), none] [.int q2, .int q11] ([kTape 0 (Tape_s_tokens_places_values_tokenCount v0 m_tokens0 m_places1 m_values2 m_tokenCount3)] : List (List zE)).flatten
          suffices H12 : AW Z 0 0 64 [some (.ref 0), some (.int x1), some (.int q2), none] [.int (if (q11 = q2) then 1 else 0)] ([kTape 0 (Tape_s_tokens_places_values_tokenCount v0 m_tokens0 m_places1 m_values2 m_tokenCount3)] : List (List zE)).flatten from by
            refine AW.run hZ hRm [64] 400 ?_
            show ((¬ (q11 = q2) → AW Z 0 0 64 [some (.ref 0), some (.int x1), some (.int q2), none] [.int 0] ([kTape 0 (Tape_s_tokens_places_values_tokenCount v0 m_tokens0 m_places1 m_values2 m_tokenCount3)] : List (List zE)).flatten) ∧ ((q11 = q2) → AW Z 0 0 64 [some (.ref 0), some (.int x1), some (.int q2), none] [.int 1] ([kTape 0 (Tape_s_tokens_places_values_tokenCount v0 m_tokens0 m_places1 m_values2 m_tokenCount3)] : List (List zE)).flatten))
            refine ⟨fun c13 => ?_, fun c13 => ?_⟩
            · simpa only [if_neg c13] using H12
            · simpa only [if_pos c13] using H12
          refine AW.run hZ hRm [17, 76] 400 ?_
          show (((q2 = 0) → AW Z 0 0 17 [some (.ref 0), some (.int (x1 + 1)), some (.int q2), some (.int (if (q11 = q2) then 1 else 0))] [] ([kTape 0 (Tape_s_tokens_places_values_tokenCount v0 m_tokens0 m_places1 m_values2 m_tokenCount3)] : List (List zE)).flatten) ∧ (¬ (q2 = 0) → ((¬ (((if (q11 = q2) then 1 else 0) : Int32) = 0) → AW Z 0 0 17 [some (.ref 0), some (.int (x1 + 1)), some (.int q2), some (.int (if (q11 = q2) then 1 else 0))] [] ([kTape 0 (Tape_s_tokens_places_values_tokenCount v0 m_tokens0 m_places1 m_values2 m_tokenCount3)] : List (List zE)).flatten) ∧ ((((if (q11 = q2) then 1 else 0) : Int32) = 0) → AW Z 0 0 76 [some (.ref 0), some (.int x1), some (.int q2), some (.int (if (q11 = q2) then 1 else 0))] [.int q2, .int x1, .ref 0] ([kTape 0 (Tape_s_tokens_places_values_tokenCount v0 m_tokens0 m_places1 m_values2 m_tokenCount3)] : List (List zE)).flatten))))
          refine ⟨fun c14 => ?_, fun c14 => ?_⟩
          · rw [if_pos c14] at hf
            refine AW.forget [true, true, false, false] ?_
            show AW Z 0 0 17 [some (.ref 0), some (.int (x1 + 1)), none, none] [] ([kTape 0 (Tape_s_tokens_places_values_tokenCount v0 m_tokens0 m_places1 m_values2 m_tokenCount3)] : List (List zE)).flatten
            exact ih v0 (x1 + 1) m_tokens0 m_places1 m_values2 m_tokenCount3 q hf hk0
          · rw [if_neg c14] at hf
            refine ⟨fun c15 => ?_, fun c15 => ?_⟩
            · rw [if_neg c15] at hf
              refine AW.forget [true, true, false, false] ?_
              show AW Z 0 0 17 [some (.ref 0), some (.int (x1 + 1)), none, none] [] ([kTape 0 (Tape_s_tokens_places_values_tokenCount v0 m_tokens0 m_places1 m_values2 m_tokenCount3)] : List (List zE)).flatten
              exact ih v0 (x1 + 1) m_tokens0 m_places1 m_values2 m_tokenCount3 q hf hk0
            · rw [if_pos c15] at hf
              obtain ⟨q16, h17, hf⟩ := zbind hf
              refine AW.callVc hZ hR hN (c_Tape_scanToken N (Tape_s_tokens_places_values_tokenCount v0 m_tokens0 m_places1 m_values2 m_tokenCount3) x1 q2 q16 h17) zMX7_scanToken_ok rfl rfl zK_BorrowedLives_Tape_45 zV_X7_scanToken rfl [5] [0] [0, 1, 2, 3, 4] rfl rfl rfl (by decide) (by decide) (by omega) (by decide) (Nat.zero_le _) (Nat.zero_le _) rfl rfl rfl rfl rfl ?_
              rintro v cc ⟨rfl, rfl⟩
              refine ⟨_, rfl, rfl, ?_⟩
              show AW Z 0 0 79 [some (.ref 0), some (.int x1), some (.int q2), some (.int (if (q11 = q2) then 1 else 0))] [] ([kTape 0 (Tape_s_tokens_places_values_tokenCount v0 q16.1 q16.2.1 q16.2.2.1 q16.2.2.2)] : List (List zE)).flatten
              refine AW.run hZ hRm [17] 400 ?_
              show AW Z 0 0 17 [some (.ref 0), some (.int (x1 + 1)), some (.int q2), some (.int (if (q11 = q2) then 1 else 0))] [] ([kTape 0 (Tape_s_tokens_places_values_tokenCount v0 q16.1 q16.2.1 q16.2.2.1 q16.2.2.2)] : List (List zE)).flatten
              refine AW.forget [true, true, false, false] ?_
              show AW Z 0 0 17 [some (.ref 0), some (.int (x1 + 1)), none, none] [] ([kTape 0 (Tape_s_tokens_places_values_tokenCount v0 q16.1 q16.2.1 q16.2.2.1 q16.2.2.2)] : List (List zE)).flatten
              exact ih v0 (x1 + 1) q16.1 q16.2.1 q16.2.2.1 q16.2.2.2 q hf hk0
set_option maxRecDepth 20000 in
set_option maxHeartbeats 4000000 in
theorem c_Tape_takeAll (N : Nat) (v0 : VTape) (R : Int32 × (Nat → Int32) × (Nat → Int32) × (Nat → Int64) × Int32 × Int32 × Int32) (hf : f_Tape_takeAll N v0 = some R) : Ct zMX7_takeAll 13 0 0 0 [.ref 0] ([kTape 0 v0] : List (List zE)).flatten (fun v cc => v = none ∧ cc = ([kTape 0 (Tape_s_length_tokens_places_values_tokenCount_at_fault v0 R.1 R.2.1 R.2.2.1 R.2.2.2.1 R.2.2.2.2.1 R.2.2.2.2.2.1 R.2.2.2.2.2.2)] : List (List zE)).flatten) := by
  refine Ct.of zMX7_takeAll_ok (by decide) (Nat.le_of_ble_eq_true rfl) ?_
  intro Z hZ hR hN hE
  have hRm : zRoom Z 0 0 := zRoom0 Z
  unfold f_Tape_takeAll at hf
  show AW Z 0 0 0 [some (.ref 0), none, none, none] [] ([kTape 0 v0] : List (List zE)).flatten
  refine AW.run hZ hRm [17] 400 ?_
  show AW Z 0 0 17 [some (.ref 0), some (.int 0), none, none] [] ([kTape 0 (Tape_s_tokenCount_at_fault v0 0 0 0)] : List (List zE)).flatten
  obtain ⟨q22, h23, hf⟩ := zbind hf
  refine c_Tape_takeAll_L17 hZ hR (by omega) hN hRm N N (Tape_s_tokenCount_at_fault v0 0 0 0) 0 (Tape_tokens v0) (Tape_places v0) (Tape_values v0) 0 q22 h23 ?_
  show AW Z 0 0 85 [some (.ref 0), none, none, none] [] ([kTape 0 (Tape_s_tokens_places_values_tokenCount_at_fault v0 q22.1 q22.2.1 q22.2.2.1 q22.2.2.2 0 0)] : List (List zE)).flatten
  refine AW.run hZ hRm [92] 400 ?_
  show AW Z 0 0 92 [some (.ref 0), none, none, none] [.long 0, .int (Tape_length v0), .int 0, .ref 0] ([kTape 0 (Tape_s_tokens_places_values_tokenCount_at_fault v0 q22.1 q22.2.1 q22.2.2.1 q22.2.2.2 0 0)] : List (List zE)).flatten
  obtain ⟨q24, h25, hf⟩ := zbind hf
  refine AW.callVc hZ hR hN (c_Tape_addToken N (Tape_s_tokens_places_values_tokenCount_at_fault v0 q22.1 q22.2.1 q22.2.2.1 q22.2.2.2 0 0) 0 (Tape_length v0) 0 q24 h25) zMX7_addToken_ok rfl rfl zK_BorrowedLives_Tape_49 zV_X7_addToken rfl [5] [0] [0, 1, 2, 3, 4] rfl rfl rfl (by decide) (by decide) (by omega) (by decide) (Nat.zero_le _) (Nat.zero_le _) rfl rfl rfl rfl rfl ?_
  rintro v cc ⟨rfl, rfl⟩
  refine ⟨_, rfl, rfl, ?_⟩
  show AW Z 0 0 95 [some (.ref 0), none, none, none] [] ([kTape 0 (Tape_s_tokens_places_values_tokenCount_at_fault v0 q24.1 q24.2.1 q24.2.2.1 q24.2.2.2 0 0)] : List (List zE)).flatten
  refine AW.run hZ hRm [100] 400 ?_
  show AW Z 0 0 100 [some (.ref 0), none, none, none] [] ([kTape 0 (Tape_s_length_tokens_places_values_tokenCount_at_fault v0 0 q24.1 q24.2.1 q24.2.2.1 q24.2.2.2 0 0)] : List (List zE)).flatten
  cases hf
  exact AW.vret hZ hE rfl rfl rfl (Nat.le_refl 0) (Nat.le_refl 0) rfl ⟨rfl, rfl⟩
def f_Tape_token (N : Nat) (v0 : VTape) : Option (Int32) := (if ((Tape_fault v0) = 0) then (if ((Tape_at v0) < (Tape_tokenCount v0)) then (if ((Tape_at v0) < 0 ∨ 1001 ≤ Int32.toNatClampNeg (Tape_at v0)) then none else (some ((Tape_tokens v0) (Int32.toNatClampNeg (Tape_at v0))))) else (some 4)) else (some 4))
set_option maxRecDepth 20000 in
set_option maxHeartbeats 4000000 in
theorem c_Tape_token (N : Nat) (v0 : VTape) (R : Int32) (hf : f_Tape_token N v0 = some R) : Ct zMX7_token 1 0 0 0 [.ref 0] ([kTape 0 v0] : List (List zE)).flatten (fun v cc => v = some (.int R) ∧ cc = ([kTape 0 v0] : List (List zE)).flatten) := by
  refine Ct.of zMX7_token_ok (by decide) (Nat.le_of_ble_eq_true rfl) ?_
  intro Z hZ hR hN hE
  have hRm : zRoom Z 0 0 := zRoom0 Z
  unfold f_Tape_token at hf
  show AW Z 0 0 0 [some (.ref 0)] [] ([kTape 0 v0] : List (List zE)).flatten
  refine AW.run hZ hRm [31] 400 ?_
  show ((¬ ((Tape_fault v0) = 0) → AW Z 0 0 31 [some (.ref 0)] [.int 4] ([kTape 0 v0] : List (List zE)).flatten) ∧ (((Tape_fault v0) = 0) → ((((Tape_at v0) < (Tape_tokenCount v0)) → (¬ ((Tape_at v0) < 0 ∨ 1001 ≤ Int32.toNatClampNeg (Tape_at v0)) ∧ AW Z 0 0 31 [some (.ref 0)] [.int ((Tape_tokens v0) (Int32.toNatClampNeg (Tape_at v0)))] ([kTape 0 v0] : List (List zE)).flatten)) ∧ (¬ ((Tape_at v0) < (Tape_tokenCount v0)) → AW Z 0 0 31 [some (.ref 0)] [.int 4] ([kTape 0 v0] : List (List zE)).flatten))))
  refine ⟨fun c1 => ?_, fun c1 => ?_⟩
  · rw [if_neg c1] at hf
    cases hf
    exact AW.iret hZ hE rfl rfl rfl rfl (Nat.le_refl 0) (Nat.le_refl 0) rfl ⟨rfl, rfl⟩
  · rw [if_pos c1] at hf
    refine ⟨fun c2 => ?_, fun c2 => ?_⟩
    · rw [if_pos c2] at hf
      obtain ⟨b3, hf⟩ := zneed hf
      refine ⟨b3, ?_⟩
      cases hf
      exact AW.iret hZ hE rfl rfl rfl rfl (Nat.le_refl 0) (Nat.le_refl 0) rfl ⟨rfl, rfl⟩
    · rw [if_neg c2] at hf
      cases hf
      exact AW.iret hZ hE rfl rfl rfl rfl (Nat.le_refl 0) (Nat.le_refl 0) rfl ⟨rfl, rfl⟩
def f_Tape_value (N : Nat) (v0 : VTape) : Option (Int64) := (if ((Tape_tokenCount v0) ≤ (Tape_at v0)) then (some 0) else (if ((Tape_at v0) < 0 ∨ 1001 ≤ Int32.toNatClampNeg (Tape_at v0)) then none else (some ((Tape_values v0) (Int32.toNatClampNeg (Tape_at v0))))))
set_option maxRecDepth 20000 in
set_option maxHeartbeats 4000000 in
theorem c_Tape_value (N : Nat) (v0 : VTape) (R : Int64) (hf : f_Tape_value N v0 = some R) : Ct zMX7_value 1 0 0 0 [.ref 0] ([kTape 0 v0] : List (List zE)).flatten (fun v cc => v = some (.long R) ∧ cc = ([kTape 0 v0] : List (List zE)).flatten) := by
  refine Ct.of zMX7_value_ok (by decide) (Nat.le_of_ble_eq_true rfl) ?_
  intro Z hZ hR hN hE
  have hRm : zRoom Z 0 0 := zRoom0 Z
  unfold f_Tape_value at hf
  show AW Z 0 0 0 [some (.ref 0)] [] ([kTape 0 v0] : List (List zE)).flatten
  refine AW.run hZ hRm [24] 400 ?_
  show ((((Tape_tokenCount v0) ≤ (Tape_at v0)) → AW Z 0 0 24 [some (.ref 0)] [.long 0] ([kTape 0 v0] : List (List zE)).flatten) ∧ (¬ ((Tape_tokenCount v0) ≤ (Tape_at v0)) → (¬ ((Tape_at v0) < 0 ∨ 1001 ≤ Int32.toNatClampNeg (Tape_at v0)) ∧ AW Z 0 0 24 [some (.ref 0)] [.long ((Tape_values v0) (Int32.toNatClampNeg (Tape_at v0)))] ([kTape 0 v0] : List (List zE)).flatten)))
  refine ⟨fun c1 => ?_, fun c1 => ?_⟩
  · rw [if_pos c1] at hf
    cases hf
    exact AW.lret hZ hE rfl rfl rfl (Nat.le_refl 0) (Nat.le_refl 0) rfl ⟨rfl, rfl⟩
  · rw [if_neg c1] at hf
    obtain ⟨b2, hf⟩ := zneed hf
    refine ⟨b2, ?_⟩
    cases hf
    exact AW.lret hZ hE rfl rfl rfl (Nat.le_refl 0) (Nat.le_refl 0) rfl ⟨rfl, rfl⟩
def f_Tape_goesOn (N : Nat) (v0 : VTape) : Option (Int32) := ((f_Tape_token N v0).bind (fun q1 => (if (q1 = 0) then (some 0) else (if (q1 = 4) then (some 0) else (some 1)))))
set_option maxRecDepth 20000 in
set_option maxHeartbeats 4000000 in
theorem c_Tape_goesOn (N : Nat) (v0 : VTape) (R : Int32) (hf : f_Tape_goesOn N v0 = some R) : Ct zMX7_goesOn 2 0 0 0 [.ref 0] ([kTape 0 v0] : List (List zE)).flatten (fun v cc => v = some (.int R) ∧ cc = ([kTape 0 v0] : List (List zE)).flatten) := by
  refine Ct.of zMX7_goesOn_ok (by decide) (Nat.le_of_ble_eq_true rfl) ?_
  intro Z hZ hR hN hE
  have hRm : zRoom Z 0 0 := zRoom0 Z
  unfold f_Tape_goesOn at hf
  show AW Z 0 0 0 [some (.ref 0), none] [] ([kTape 0 v0] : List (List zE)).flatten
  refine AW.run hZ hRm [1] 400 ?_
  show AW Z 0 0 1 [some (.ref 0), none] [.ref 0] ([kTape 0 v0] : List (List zE)).flatten
  obtain ⟨q1, h4, hf⟩ := zbind hf
  refine AW.callVc hZ hR hN (c_Tape_token N v0 q1 h4) zMX7_token_ok rfl rfl zK_BorrowedLives_Tape_82 zV_X7_token rfl [5] [0] [0, 1, 2, 3, 4] rfl rfl rfl (by decide) (by decide) (by omega) (by decide) (Nat.zero_le _) (Nat.zero_le _) rfl rfl rfl rfl rfl ?_
  rintro v cc ⟨rfl, rfl⟩
  refine ⟨_, rfl, rfl, ?_⟩
  show AW Z 0 0 4 [some (.ref 0), none] [.int q1] ([kTape 0 v0] : List (List zE)).flatten
  refine AW.run hZ hRm [19] 400 ?_
  show (((q1 = 0) → AW Z 0 0 19 [some (.ref 0), some (.int q1)] [.int 0] ([kTape 0 v0] : List (List zE)).flatten) ∧ (¬ (q1 = 0) → (((q1 = 4) → AW Z 0 0 19 [some (.ref 0), some (.int q1)] [.int 0] ([kTape 0 v0] : List (List zE)).flatten) ∧ (¬ (q1 = 4) → AW Z 0 0 19 [some (.ref 0), some (.int q1)] [.int 1] ([kTape 0 v0] : List (List zE)).flatten))))
  refine ⟨fun c2 => ?_, fun c2 => ?_⟩
  · rw [if_pos c2] at hf
    cases hf
    exact AW.iret hZ hE rfl rfl rfl rfl (Nat.le_refl 0) (Nat.le_refl 0) rfl ⟨rfl, rfl⟩
  · rw [if_neg c2] at hf
    refine ⟨fun c3 => ?_, fun c3 => ?_⟩
    · rw [if_pos c3] at hf
      cases hf
      exact AW.iret hZ hE rfl rfl rfl rfl (Nat.le_refl 0) (Nat.le_refl 0) rfl ⟨rfl, rfl⟩
    · rw [if_neg c3] at hf
      cases hf
      exact AW.iret hZ hE rfl rfl rfl rfl (Nat.le_refl 0) (Nat.le_refl 0) rfl ⟨rfl, rfl⟩
def f_Tape_advance (N : Nat) (v0 : VTape) : Option (Int32) := (zlet ((if ((Tape_fault v0) = 0) then (if ((Tape_tokenCount v0) ≤ ((Tape_at v0) + 1)) then (Tape_at v0) else ((Tape_at v0) + 1)) else (Tape_at v0)) : Int32) (fun z4 => (some z4)))
set_option maxRecDepth 20000 in
set_option maxHeartbeats 4000000 in
theorem c_Tape_advance (N : Nat) (v0 : VTape) (R : Int32) (hf : f_Tape_advance N v0 = some R) : Ct zMX7_advance 1 0 0 0 [.ref 0] ([kTape 0 v0] : List (List zE)).flatten (fun v cc => v = none ∧ cc = ([kTape 0 (Tape_at_s v0 R)] : List (List zE)).flatten) := by
  refine Ct.of zMX7_advance_ok (by decide) (Nat.le_of_ble_eq_true rfl) ?_
  intro Z hZ hR hN hE
  have hRm : zRoom Z 0 0 := zRoom0 Z
  unfold f_Tape_advance at hf
  show AW Z 0 0 0 [some (.ref 0)] [] ([kTape 0 v0] : List (List zE)).flatten
  refine AW.run hZ hRm [4] 400 ?_
  show AW Z 0 0 4 [some (.ref 0)] [.int (Tape_fault v0)] ([kTape 0 v0] : List (List zE)).flatten
  suffices H1 : AW Z 0 0 30 [none] [] ([kTape 0 (Tape_at_s v0 (if ((Tape_fault v0) = 0) then (if ((Tape_tokenCount v0) ≤ ((Tape_at v0) + 1)) then (Tape_at v0) else ((Tape_at v0) + 1)) else (Tape_at v0)))] : List (List zE)).flatten from by
    refine AW.run hZ hRm [30] 400 ?_
    show ((¬ ((Tape_fault v0) = 0) → AW Z 0 0 30 [some (.ref 0)] [] ([kTape 0 v0] : List (List zE)).flatten) ∧ (((Tape_fault v0) = 0) → ((((Tape_tokenCount v0) ≤ ((Tape_at v0) + 1)) → AW Z 0 0 30 [some (.ref 0)] [] ([kTape 0 v0] : List (List zE)).flatten) ∧ (¬ ((Tape_tokenCount v0) ≤ ((Tape_at v0) + 1)) → AW Z 0 0 30 [some (.ref 0)] [] ([kTape 0 (Tape_at_s v0 ((Tape_at v0) + 1))] : List (List zE)).flatten))))
    refine ⟨fun c2 => ?_, fun c2 => ?_⟩
    · refine AW.forget [false] ?_
      show AW Z 0 0 30 [none] [] ([kTape 0 v0] : List (List zE)).flatten
      show AW Z 0 0 30 [none] [] ([kTape 0 (Tape_at_s v0 (Tape_at v0))] : List (List zE)).flatten
      simpa only [if_neg c2] using H1
    · refine ⟨fun c3 => ?_, fun c3 => ?_⟩
      · refine AW.forget [false] ?_
        show AW Z 0 0 30 [none] [] ([kTape 0 v0] : List (List zE)).flatten
        show AW Z 0 0 30 [none] [] ([kTape 0 (Tape_at_s v0 (Tape_at v0))] : List (List zE)).flatten
        simpa only [if_pos c2, if_pos c3] using H1
      · refine AW.forget [false] ?_
        show AW Z 0 0 30 [none] [] ([kTape 0 (Tape_at_s v0 ((Tape_at v0) + 1))] : List (List zE)).flatten
        simpa only [if_pos c2, if_neg c3] using H1
  replace hf := zlet_gen hf
  generalize ((if ((Tape_fault v0) = 0) then (if ((Tape_tokenCount v0) ≤ ((Tape_at v0) + 1)) then (Tape_at v0) else ((Tape_at v0) + 1)) else (Tape_at v0)) : Int32) = z4 at hf ⊢
  cases hf
  exact AW.vret hZ hE rfl rfl rfl (Nat.le_refl 0) (Nat.le_refl 0) rfl ⟨rfl, rfl⟩
def f_Tape_wrong (N : Nat) (v0 : VTape) (a1 : Int32) : Option (Int32) := (if ((Tape_fault v0) = 0) then (if ((Tape_tokenCount v0) ≤ (Tape_at v0)) then (some (Tape_fault v0)) else (if ((Tape_at v0) < 0 ∨ 1001 ≤ Int32.toNatClampNeg (Tape_at v0)) then none else (some (a1 + (16 * ((Tape_places v0) (Int32.toNatClampNeg (Tape_at v0)))))))) else (some (Tape_fault v0)))
set_option maxRecDepth 20000 in
set_option maxHeartbeats 4000000 in
theorem c_Tape_wrong (N : Nat) (v0 : VTape) (a1 : Int32) (R : Int32) (hf : f_Tape_wrong N v0 a1 = some R) : Ct zMX7_wrong 1 0 0 0 [.ref 0, .int a1] ([kTape 0 v0] : List (List zE)).flatten (fun v cc => v = none ∧ cc = ([kTape 0 (Tape_fault_s v0 R)] : List (List zE)).flatten) := by
  refine Ct.of zMX7_wrong_ok (by decide) (Nat.le_of_ble_eq_true rfl) ?_
  intro Z hZ hR hN hE
  have hRm : zRoom Z 0 0 := zRoom0 Z
  unfold f_Tape_wrong at hf
  show AW Z 0 0 0 [some (.ref 0), some (.int a1)] [] ([kTape 0 v0] : List (List zE)).flatten
  refine AW.run hZ hRm [36] 400 ?_
  show ((¬ ((Tape_fault v0) = 0) → AW Z 0 0 36 [some (.ref 0), some (.int a1)] [] ([kTape 0 v0] : List (List zE)).flatten) ∧ (((Tape_fault v0) = 0) → ((((Tape_tokenCount v0) ≤ (Tape_at v0)) → AW Z 0 0 36 [some (.ref 0), some (.int a1)] [] ([kTape 0 v0] : List (List zE)).flatten) ∧ (¬ ((Tape_tokenCount v0) ≤ (Tape_at v0)) → (¬ ((Tape_at v0) < 0 ∨ 1001 ≤ Int32.toNatClampNeg (Tape_at v0)) ∧ AW Z 0 0 36 [some (.ref 0), some (.int a1)] [] ([kTape 0 (Tape_fault_s v0 (a1 + (16 * ((Tape_places v0) (Int32.toNatClampNeg (Tape_at v0))))))] : List (List zE)).flatten)))))
  refine ⟨fun c1 => ?_, fun c1 => ?_⟩
  · rw [if_neg c1] at hf
    cases hf
    exact AW.vret hZ hE rfl rfl rfl (Nat.le_refl 0) (Nat.le_refl 0) rfl ⟨rfl, rfl⟩
  · rw [if_pos c1] at hf
    refine ⟨fun c2 => ?_, fun c2 => ?_⟩
    · rw [if_pos c2] at hf
      cases hf
      exact AW.vret hZ hE rfl rfl rfl (Nat.le_refl 0) (Nat.le_refl 0) rfl ⟨rfl, rfl⟩
    · rw [if_neg c2] at hf
      obtain ⟨b3, hf⟩ := zneed hf
      refine ⟨b3, ?_⟩
      cases hf
      exact AW.vret hZ hE rfl rfl rfl (Nat.le_refl 0) (Nat.le_refl 0) rfl ⟨rfl, rfl⟩
def f_Tape_expect (N : Nat) (v0 : VTape) (a1 : Int32) : Option (Int32 × Int32) := ((f_Tape_token N v0).bind (fun q1 => (if (q1 = a1) then ((f_Tape_advance N v0).bind (fun q5 => (some (q5, (Tape_fault v0))))) else ((f_Tape_wrong N v0 1).bind (fun q3 => (some ((Tape_at v0), q3)))))))
set_option maxRecDepth 20000 in
set_option maxHeartbeats 4000000 in
theorem c_Tape_expect (N : Nat) (v0 : VTape) (a1 : Int32) (R : Int32 × Int32) (hf : f_Tape_expect N v0 a1 = some R) : Ct zMX7_expect 2 0 0 0 [.ref 0, .int a1] ([kTape 0 v0] : List (List zE)).flatten (fun v cc => v = none ∧ cc = ([kTape 0 (Tape_s_at_fault v0 R.1 R.2)] : List (List zE)).flatten) := by
  refine Ct.of zMX7_expect_ok (by decide) (Nat.le_of_ble_eq_true rfl) ?_
  intro Z hZ hR hN hE
  have hRm : zRoom Z 0 0 := zRoom0 Z
  unfold f_Tape_expect at hf
  show AW Z 0 0 0 [some (.ref 0), some (.int a1)] [] ([kTape 0 v0] : List (List zE)).flatten
  refine AW.run hZ hRm [1] 400 ?_
  show AW Z 0 0 1 [some (.ref 0), some (.int a1)] [.ref 0] ([kTape 0 v0] : List (List zE)).flatten
  obtain ⟨q1, h7, hf⟩ := zbind hf
  refine AW.callVc hZ hR hN (c_Tape_token N v0 q1 h7) zMX7_token_ok rfl rfl zK_BorrowedLives_Tape_82 zV_X7_token rfl [5] [0] [0, 1, 2, 3, 4] rfl rfl rfl (by decide) (by decide) (by omega) (by decide) (Nat.zero_le _) (Nat.zero_le _) rfl rfl rfl rfl rfl ?_
  rintro v cc ⟨rfl, rfl⟩
  refine ⟨_, rfl, rfl, ?_⟩
  show AW Z 0 0 4 [some (.ref 0), some (.int a1)] [.int q1] ([kTape 0 v0] : List (List zE)).flatten
  refine AW.run hZ hRm [9, 17] 400 ?_
  show ((¬ (q1 = a1) → AW Z 0 0 17 [some (.ref 0), some (.int a1)] [.int 1, .ref 0] ([kTape 0 v0] : List (List zE)).flatten) ∧ ((q1 = a1) → AW Z 0 0 9 [some (.ref 0), some (.int a1)] [.ref 0] ([kTape 0 v0] : List (List zE)).flatten))
  refine ⟨fun c2 => ?_, fun c2 => ?_⟩
  · rw [if_neg c2] at hf
    obtain ⟨q3, h4, hf⟩ := zbind hf
    refine AW.callVc hZ hR hN (c_Tape_wrong N v0 1 q3 h4) zMX7_wrong_ok rfl rfl zK_BorrowedLives_Tape_88 zV_X7_wrong rfl [5] [0] [0, 1, 2, 3, 4] rfl rfl rfl (by decide) (by decide) (by omega) (by decide) (Nat.zero_le _) (Nat.zero_le _) rfl rfl rfl rfl rfl ?_
    rintro v cc ⟨rfl, rfl⟩
    refine ⟨_, rfl, rfl, ?_⟩
    show AW Z 0 0 20 [some (.ref 0), some (.int a1)] [] ([kTape 0 (Tape_fault_s v0 q3)] : List (List zE)).flatten
    cases hf
    exact AW.vret hZ hE rfl rfl rfl (Nat.le_refl 0) (Nat.le_refl 0) rfl ⟨rfl, rfl⟩
  · rw [if_pos c2] at hf
    obtain ⟨q5, h6, hf⟩ := zbind hf
    refine AW.callVc hZ hR hN (c_Tape_advance N v0 q5 h6) zMX7_advance_ok rfl rfl zK_BorrowedLives_Tape_85 zV_X7_advance rfl [5] [0] [0, 1, 2, 3, 4] rfl rfl rfl (by decide) (by decide) (by omega) (by decide) (Nat.zero_le _) (Nat.zero_le _) rfl rfl rfl rfl rfl ?_
    rintro v cc ⟨rfl, rfl⟩
    refine ⟨_, rfl, rfl, ?_⟩
    show AW Z 0 0 12 [some (.ref 0), some (.int a1)] [] ([kTape 0 (Tape_at_s v0 q5)] : List (List zE)).flatten
    refine AW.run hZ hRm [20] 400 ?_
    show AW Z 0 0 20 [some (.ref 0), some (.int a1)] [] ([kTape 0 (Tape_at_s v0 q5)] : List (List zE)).flatten
    cases hf
    exact AW.vret hZ hE rfl rfl rfl (Nat.le_refl 0) (Nat.le_refl 0) rfl ⟨rfl, rfl⟩
def f_Tape_readNumber (N : Nat) (v0 : VTape) (a1 : Int32) : Option (Int32 × Int32 × Int32) := ((f_Tape_token N v0).bind (fun q1 => (if (q1 = 2) then ((f_Tape_value N v0).bind (fun q3 => (if ((Int64.toInt32 q3) ≤ a1) then ((f_Tape_advance N v0).bind (fun q5 => (some ((Int64.toInt32 q3), q5, (Tape_fault v0))))) else ((f_Tape_wrong N v0 4).bind (fun q7 => (some (0, (Tape_at v0), q7))))))) else ((f_Tape_wrong N v0 1).bind (fun q10 => (some (0, (Tape_at v0), q10)))))))
set_option maxRecDepth 20000 in
set_option maxHeartbeats 4000000 in
theorem c_Tape_readNumber (N : Nat) (v0 : VTape) (a1 : Int32) (R : Int32 × Int32 × Int32) (hf : f_Tape_readNumber N v0 a1 = some R) : Ct zMX7_readNumber 2 0 0 0 [.ref 0, .int a1] ([kTape 0 v0] : List (List zE)).flatten (fun v cc => v = some (.int R.1) ∧ cc = ([kTape 0 (Tape_s_at_fault v0 R.2.1 R.2.2)] : List (List zE)).flatten) := by
  refine Ct.of zMX7_readNumber_ok (by decide) (Nat.le_of_ble_eq_true rfl) ?_
  intro Z hZ hR hN hE
  have hRm : zRoom Z 0 0 := zRoom0 Z
  unfold f_Tape_readNumber at hf
  show AW Z 0 0 0 [some (.ref 0), some (.int a1), none] [] ([kTape 0 v0] : List (List zE)).flatten
  refine AW.run hZ hRm [1] 400 ?_
  show AW Z 0 0 1 [some (.ref 0), some (.int a1), none] [.ref 0] ([kTape 0 v0] : List (List zE)).flatten
  obtain ⟨q1, h12, hf⟩ := zbind hf
  refine AW.callVc hZ hR hN (c_Tape_token N v0 q1 h12) zMX7_token_ok rfl rfl zK_BorrowedLives_Tape_82 zV_X7_token rfl [5] [0] [0, 1, 2, 3, 4] rfl rfl rfl (by decide) (by decide) (by omega) (by decide) (Nat.zero_le _) (Nat.zero_le _) rfl rfl rfl rfl rfl ?_
  rintro v cc ⟨rfl, rfl⟩
  refine ⟨_, rfl, rfl, ?_⟩
  show AW Z 0 0 4 [some (.ref 0), some (.int a1), none] [.int q1] ([kTape 0 v0] : List (List zE)).flatten
  refine AW.run hZ hRm [10, 16] 400 ?_
  show (((q1 = 2) → AW Z 0 0 16 [some (.ref 0), some (.int a1), none] [.ref 0] ([kTape 0 v0] : List (List zE)).flatten) ∧ (¬ (q1 = 2) → AW Z 0 0 10 [some (.ref 0), some (.int a1), none] [.int 1, .ref 0] ([kTape 0 v0] : List (List zE)).flatten))
  refine ⟨fun c2 => ?_, fun c2 => ?_⟩
  · rw [if_pos c2] at hf
    obtain ⟨q3, h9, hf⟩ := zbind hf
    refine AW.callVc hZ hR hN (c_Tape_value N v0 q3 h9) zMX7_value_ok rfl rfl zK_BorrowedLives_Tape_92 zV_X7_value rfl [5] [0] [0, 1, 2, 3, 4] rfl rfl rfl (by decide) (by decide) (by omega) (by decide) (Nat.zero_le _) (Nat.zero_le _) rfl rfl rfl rfl rfl ?_
    rintro v cc ⟨rfl, rfl⟩
    refine ⟨_, rfl, rfl, ?_⟩
    show AW Z 0 0 19 [some (.ref 0), some (.int a1), none] [.long q3] ([kTape 0 v0] : List (List zE)).flatten
    refine AW.run hZ hRm [28, 34] 400 ?_
    show ((((Int64.toInt32 q3) ≤ a1) → AW Z 0 0 34 [some (.ref 0), some (.int a1), some (.int (Int64.toInt32 q3))] [.ref 0] ([kTape 0 v0] : List (List zE)).flatten) ∧ (¬ ((Int64.toInt32 q3) ≤ a1) → AW Z 0 0 28 [some (.ref 0), some (.int a1), some (.int (Int64.toInt32 q3))] [.int 4, .ref 0] ([kTape 0 v0] : List (List zE)).flatten))
    refine ⟨fun c4 => ?_, fun c4 => ?_⟩
    · rw [if_pos c4] at hf
      obtain ⟨q5, h6, hf⟩ := zbind hf
      refine AW.callVc hZ hR hN (c_Tape_advance N v0 q5 h6) zMX7_advance_ok rfl rfl zK_BorrowedLives_Tape_85 zV_X7_advance rfl [5] [0] [0, 1, 2, 3, 4] rfl rfl rfl (by decide) (by decide) (by omega) (by decide) (Nat.zero_le _) (Nat.zero_le _) rfl rfl rfl rfl rfl ?_
      rintro v cc ⟨rfl, rfl⟩
      refine ⟨_, rfl, rfl, ?_⟩
      show AW Z 0 0 37 [some (.ref 0), some (.int a1), some (.int (Int64.toInt32 q3))] [] ([kTape 0 (Tape_at_s v0 q5)] : List (List zE)).flatten
      refine AW.run hZ hRm [38] 400 ?_
      show AW Z 0 0 38 [some (.ref 0), some (.int a1), some (.int (Int64.toInt32 q3))] [.int (Int64.toInt32 q3)] ([kTape 0 (Tape_at_s v0 q5)] : List (List zE)).flatten
      cases hf
      exact AW.iret hZ hE rfl rfl rfl rfl (Nat.le_refl 0) (Nat.le_refl 0) rfl ⟨rfl, rfl⟩
    · rw [if_neg c4] at hf
      obtain ⟨q7, h8, hf⟩ := zbind hf
      refine AW.callVc hZ hR hN (c_Tape_wrong N v0 4 q7 h8) zMX7_wrong_ok rfl rfl zK_BorrowedLives_Tape_88 zV_X7_wrong rfl [5] [0] [0, 1, 2, 3, 4] rfl rfl rfl (by decide) (by decide) (by omega) (by decide) (Nat.zero_le _) (Nat.zero_le _) rfl rfl rfl rfl rfl ?_
      rintro v cc ⟨rfl, rfl⟩
      refine ⟨_, rfl, rfl, ?_⟩
      show AW Z 0 0 31 [some (.ref 0), some (.int a1), some (.int (Int64.toInt32 q3))] [] ([kTape 0 (Tape_fault_s v0 q7)] : List (List zE)).flatten
      refine AW.run hZ hRm [32] 400 ?_
      show AW Z 0 0 32 [some (.ref 0), some (.int a1), some (.int (Int64.toInt32 q3))] [.int 0] ([kTape 0 (Tape_fault_s v0 q7)] : List (List zE)).flatten
      cases hf
      exact AW.iret hZ hE rfl rfl rfl rfl (Nat.le_refl 0) (Nat.le_refl 0) rfl ⟨rfl, rfl⟩
  · rw [if_neg c2] at hf
    obtain ⟨q10, h11, hf⟩ := zbind hf
    refine AW.callVc hZ hR hN (c_Tape_wrong N v0 1 q10 h11) zMX7_wrong_ok rfl rfl zK_BorrowedLives_Tape_88 zV_X7_wrong rfl [5] [0] [0, 1, 2, 3, 4] rfl rfl rfl (by decide) (by decide) (by omega) (by decide) (Nat.zero_le _) (Nat.zero_le _) rfl rfl rfl rfl rfl ?_
    rintro v cc ⟨rfl, rfl⟩
    refine ⟨_, rfl, rfl, ?_⟩
    show AW Z 0 0 13 [some (.ref 0), some (.int a1), none] [] ([kTape 0 (Tape_fault_s v0 q10)] : List (List zE)).flatten
    refine AW.run hZ hRm [14] 400 ?_
    show AW Z 0 0 14 [some (.ref 0), some (.int a1), none] [.int 0] ([kTape 0 (Tape_fault_s v0 q10)] : List (List zE)).flatten
    cases hf
    exact AW.iret hZ hE rfl rfl rfl rfl (Nat.le_refl 0) (Nat.le_refl 0) rfl ⟨rfl, rfl⟩
def f_Tape_isName (N : Nat) (v0 : VTape) : Option (Int32) := ((f_Tape_token N v0).bind (fun q1 => (if (q1 = 1) then (some 1) else ((f_Tape_token N v0).bind (fun q3 => (if (q3 < 150) then (some 0) else (some 1)))))))
set_option maxRecDepth 20000 in
set_option maxHeartbeats 4000000 in
theorem c_Tape_isName (N : Nat) (v0 : VTape) (R : Int32) (hf : f_Tape_isName N v0 = some R) : Ct zMX7_isName 2 0 0 0 [.ref 0] ([kTape 0 v0] : List (List zE)).flatten (fun v cc => v = some (.int R) ∧ cc = ([kTape 0 v0] : List (List zE)).flatten) := by
  refine Ct.of zMX7_isName_ok (by decide) (Nat.le_of_ble_eq_true rfl) ?_
  intro Z hZ hR hN hE
  have hRm : zRoom Z 0 0 := zRoom0 Z
  unfold f_Tape_isName at hf
  show AW Z 0 0 0 [some (.ref 0)] [] ([kTape 0 v0] : List (List zE)).flatten
  refine AW.run hZ hRm [1] 400 ?_
  show AW Z 0 0 1 [some (.ref 0)] [.ref 0] ([kTape 0 v0] : List (List zE)).flatten
  obtain ⟨q1, h6, hf⟩ := zbind hf
  refine AW.callVc hZ hR hN (c_Tape_token N v0 q1 h6) zMX7_token_ok rfl rfl zK_BorrowedLives_Tape_82 zV_X7_token rfl [5] [0] [0, 1, 2, 3, 4] rfl rfl rfl (by decide) (by decide) (by omega) (by decide) (Nat.zero_le _) (Nat.zero_le _) rfl rfl rfl rfl rfl ?_
  rintro v cc ⟨rfl, rfl⟩
  refine ⟨_, rfl, rfl, ?_⟩
  show AW Z 0 0 4 [some (.ref 0)] [.int q1] ([kTape 0 v0] : List (List zE)).flatten
  refine AW.run hZ hRm [9, 23] 400 ?_
  show (((q1 = 1) → AW Z 0 0 23 [some (.ref 0)] [.int 1] ([kTape 0 v0] : List (List zE)).flatten) ∧ (¬ (q1 = 1) → AW Z 0 0 9 [some (.ref 0)] [.ref 0] ([kTape 0 v0] : List (List zE)).flatten))
  refine ⟨fun c2 => ?_, fun c2 => ?_⟩
  · rw [if_pos c2] at hf
    cases hf
    exact AW.iret hZ hE rfl rfl rfl rfl (Nat.le_refl 0) (Nat.le_refl 0) rfl ⟨rfl, rfl⟩
  · rw [if_neg c2] at hf
    obtain ⟨q3, h5, hf⟩ := zbind hf
    refine AW.callVc hZ hR hN (c_Tape_token N v0 q3 h5) zMX7_token_ok rfl rfl zK_BorrowedLives_Tape_82 zV_X7_token rfl [5] [0] [0, 1, 2, 3, 4] rfl rfl rfl (by decide) (by decide) (by omega) (by decide) (Nat.zero_le _) (Nat.zero_le _) rfl rfl rfl rfl rfl ?_
    rintro v cc ⟨rfl, rfl⟩
    refine ⟨_, rfl, rfl, ?_⟩
    show AW Z 0 0 12 [some (.ref 0)] [.int q3] ([kTape 0 v0] : List (List zE)).flatten
    refine AW.run hZ hRm [23] 400 ?_
    show (((q3 < 150) → AW Z 0 0 23 [some (.ref 0)] [.int 0] ([kTape 0 v0] : List (List zE)).flatten) ∧ (¬ (q3 < 150) → AW Z 0 0 23 [some (.ref 0)] [.int 1] ([kTape 0 v0] : List (List zE)).flatten))
    refine ⟨fun c4 => ?_, fun c4 => ?_⟩
    · rw [if_pos c4] at hf
      cases hf
      exact AW.iret hZ hE rfl rfl rfl rfl (Nat.le_refl 0) (Nat.le_refl 0) rfl ⟨rfl, rfl⟩
    · rw [if_neg c4] at hf
      cases hf
      exact AW.iret hZ hE rfl rfl rfl rfl (Nat.le_refl 0) (Nat.le_refl 0) rfl ⟨rfl, rfl⟩
def f_Town_named_L2 (N : Nat) : Nat → VTown → VLaws → Int64 → Int32 → Option ((Int32) ⊕ (Unit))
  | 0, _, _, _, _ => none
  | fuel + 1, v0, v1, y1, x3 => (if ((Town_people v0) ≤ x3) then (some (Sum.inr ())) else (if (x3 < 0 ∨ 6 ≤ Int32.toNatClampNeg x3) then none else (if ((lg_cmp ((Town_names v0) (Int32.toNatClampNeg x3)) y1) = 0) then (some (Sum.inl x3)) else (f_Town_named_L2 N fuel v0 v1 y1 (x3 + 1)))))
def f_Town_named (N : Nat) (v0 : VTown) (v1 : VLaws) (a1 : Int64) : Option (Int32) := ((f_Town_named_L2 N N v0 v1 a1 0).bind (Sum.elim (fun w6 => (some w6)) (fun w7 => (some (-1)))))
set_option maxRecDepth 20000 in
set_option maxHeartbeats 4000000 in
theorem c_Town_named_L2 {Z : zCtx} {D n0w nf mcw msw : Nat} (hZ : zOk Z zMX8_named) (hR : zCan Z D mcw msw) (hDd : 1 ≤ D) (hN : zNew Z n0w nf) (hRm : zRoom Z 0 0) (N : Nat) : ∀ (fuel : Nat) (v0 : VTown) (v1 : VLaws) (y1 : Int64) (x3 : Int32) (q : ((Int32) ⊕ (Unit))), f_Town_named_L2 N fuel v0 v1 y1 x3 = some q → (∀ w : Int32, q = (Sum.inl w) → AW Z 0 0 21 [none, none, none, some (.int w)] [] ([kTown 0 8 v0, kLaws 8 v1] : List (List zE)).flatten) → (∀ w : Unit, q = (Sum.inr w) → AW Z 0 0 29 [none, none, none, none] [] ([kTown 0 8 v0, kLaws 8 v1] : List (List zE)).flatten) → AW Z 0 0 2 [some (.ref 0), some (.long y1), none, some (.int x3)] [] ([kTown 0 8 v0, kLaws 8 v1] : List (List zE)).flatten := by
  intro fuel
  induction fuel with
  | zero =>
    intro v0 v1 y1 x3 q hf hk0 hk1
    simp [f_Town_named_L2] at hf
  | succ fuel ih =>
    intro v0 v1 y1 x3 q hf hk0 hk1
    rw [f_Town_named_L2] at hf
    refine AW.run hZ hRm [2, 21, 29] 400 ?_
    show ((((Town_people v0) ≤ x3) → AW Z 0 0 29 [some (.ref 0), some (.long y1), none, some (.int x3)] [] ([kTown 0 8 v0, kLaws 8 v1] : List (List zE)).flatten) ∧ (¬ ((Town_people v0) ≤ x3) → (¬ (x3 < 0 ∨ 6 ≤ Int32.toNatClampNeg x3) ∧ ((¬ ((lg_cmp ((Town_names v0) (Int32.toNatClampNeg x3)) y1) = 0) → AW Z 0 0 2 [some (.ref 0), some (.long y1), none, some (.int (x3 + 1))] [] ([kTown 0 8 v0, kLaws 8 v1] : List (List zE)).flatten) ∧ (((lg_cmp ((Town_names v0) (Int32.toNatClampNeg x3)) y1) = 0) → AW Z 0 0 21 [some (.ref 0), some (.long y1), none, some (.int x3)] [] ([kTown 0 8 v0, kLaws 8 v1] : List (List zE)).flatten)))))
    refine ⟨fun c1 => ?_, fun c1 => ?_⟩
    · rw [if_pos c1] at hf
      cases hf
      refine AW.forget [false, false, false, false] ?_
      show AW Z 0 0 29 [none, none, none, none] [] ([kTown 0 8 v0, kLaws 8 v1] : List (List zE)).flatten
      exact hk1 _ rfl
    · rw [if_neg c1] at hf
      obtain ⟨b3, hf⟩ := zneed hf
      refine ⟨b3, ?_⟩
      refine ⟨fun c2 => ?_, fun c2 => ?_⟩
      · rw [if_neg c2] at hf
        exact ih v0 v1 y1 (x3 + 1) q hf hk0 hk1
      · rw [if_pos c2] at hf
        cases hf
        refine AW.forget [false, false, false, true] ?_
        show AW Z 0 0 21 [none, none, none, some (.int x3)] [] ([kTown 0 8 v0, kLaws 8 v1] : List (List zE)).flatten
        exact hk0 _ rfl
set_option maxRecDepth 20000 in
set_option maxHeartbeats 4000000 in
theorem c_Town_named (N : Nat) (v0 : VTown) (v1 : VLaws) (a1 : Int64) (R : Int32) (hf : f_Town_named N v0 v1 a1 = some R) : Ct zMX8_named 1 0 0 0 [.ref 0, .long a1] ([kTown 0 8 v0, kLaws 8 v1] : List (List zE)).flatten (fun v cc => v = some (.int R) ∧ cc = ([kTown 0 8 v0, kLaws 8 v1] : List (List zE)).flatten) := by
  refine Ct.of zMX8_named_ok (by decide) (Nat.le_of_ble_eq_true rfl) ?_
  intro Z hZ hR hN hE
  have hRm : zRoom Z 0 0 := zRoom0 Z
  unfold f_Town_named at hf
  show AW Z 0 0 0 [some (.ref 0), some (.long a1), none, none] [] ([kTown 0 8 v0, kLaws 8 v1] : List (List zE)).flatten
  refine AW.run hZ hRm [2] 400 ?_
  show AW Z 0 0 2 [some (.ref 0), some (.long a1), none, some (.int 0)] [] ([kTown 0 8 v0, kLaws 8 v1] : List (List zE)).flatten
  obtain ⟨q4, h5, hf⟩ := zbind hf
  refine c_Town_named_L2 hZ hR (by omega) hN hRm N N v0 v1 a1 0 q4 h5 ?_ ?_
  · intro w6 hq
    subst hq
    show AW Z 0 0 21 [none, none, none, some (.int w6)] [] ([kTown 0 8 v0, kLaws 8 v1] : List (List zE)).flatten
    replace hf : (some w6) = some R := hf
    refine AW.run hZ hRm [22] 400 ?_
    show AW Z 0 0 22 [none, none, none, some (.int w6)] [.int w6] ([kTown 0 8 v0, kLaws 8 v1] : List (List zE)).flatten
    cases hf
    exact AW.iret hZ hE rfl rfl rfl rfl (Nat.le_refl 0) (Nat.le_refl 0) rfl ⟨rfl, rfl⟩
  · intro w7 hq
    subst hq
    show AW Z 0 0 29 [none, none, none, none] [] ([kTown 0 8 v0, kLaws 8 v1] : List (List zE)).flatten
    replace hf : (some (-1)) = some R := hf
    refine AW.run hZ hRm [30] 400 ?_
    show AW Z 0 0 30 [none, none, none, none] [.int (-1)] ([kTown 0 8 v0, kLaws 8 v1] : List (List zE)).flatten
    cases hf
    exact AW.iret hZ hE rfl rfl rfl rfl (Nat.le_refl 0) (Nat.le_refl 0) rfl ⟨rfl, rfl⟩
def f_Tape_readPerson (N : Nat) (v0 : VTape) (v1 : VTown) (v2 : VLaws) : Option (Int32 × Int32 × Int32) := ((f_Tape_isName N v0).bind (fun q1 => (if (q1 = 0) then ((f_Tape_isName N v0).bind (fun q3 => ((f_Tape_wrong N v0 (if (q3 = 0) then 1 else 2)).bind (fun q6 => (some ((-1), (Tape_at v0), q6)))))) else ((f_Tape_value N v0).bind (fun q9 => ((f_Town_named N v1 v2 q9).bind (fun q10 => (if (q10 = (-1)) then ((f_Tape_isName N v0).bind (fun q14 => ((f_Tape_wrong N v0 (if (q14 = 0) then 1 else 2)).bind (fun q17 => (some ((-1), (Tape_at v0), q17)))))) else ((f_Tape_advance N v0).bind (fun q12 => (some (q10, q12, (Tape_fault v0)))))))))))))
set_option maxRecDepth 20000 in
set_option maxHeartbeats 4000000 in
theorem c_Tape_readPerson (N : Nat) (v0 : VTape) (v1 : VTown) (v2 : VLaws) (R : Int32 × Int32 × Int32) (hf : f_Tape_readPerson N v0 v1 v2 = some R) : Ct zMX7_readPerson 3 0 0 0 [.ref 0, .ref 5] ([kTape 0 v0, kTown 5 13 v1, kLaws 13 v2] : List (List zE)).flatten (fun v cc => v = some (.int R.1) ∧ cc = ([kTape 0 (Tape_s_at_fault v0 R.2.1 R.2.2), kTown 5 13 v1, kLaws 13 v2] : List (List zE)).flatten) := by
  refine Ct.of zMX7_readPerson_ok (by decide) (Nat.le_of_ble_eq_true rfl) ?_
  intro Z hZ hR hN hE
  have hRm : zRoom Z 0 0 := zRoom0 Z
  unfold f_Tape_readPerson at hf
  show AW Z 0 0 0 [some (.ref 0), some (.ref 5), none] [] ([kTape 0 v0, kTown 5 13 v1, kLaws 13 v2] : List (List zE)).flatten
  refine AW.run hZ hRm [1] 400 ?_
  show AW Z 0 0 1 [some (.ref 0), some (.ref 5), none] [.ref 0] ([kTape 0 v0, kTown 5 13 v1, kLaws 13 v2] : List (List zE)).flatten
  obtain ⟨q1, h22, hf⟩ := zbind hf
  refine AW.callVc hZ hR hN (c_Tape_isName N v0 q1 h22) zMX7_isName_ok rfl rfl zK_BorrowedLives_Tape_96 zV_X7_isName rfl [5, 8, 6] [0] [0, 1, 2, 3, 4] rfl rfl rfl (by decide) (by decide) (by omega) (by decide) (Nat.zero_le _) (Nat.zero_le _) rfl rfl rfl rfl rfl ?_
  rintro v cc ⟨rfl, rfl⟩
  refine ⟨_, rfl, rfl, ?_⟩
  show AW Z 0 0 4 [some (.ref 0), some (.ref 5), none] [.int q1] ([kTape 0 v0, kTown 5 13 v1, kLaws 13 v2] : List (List zE)).flatten
  refine AW.run hZ hRm [9, 27] 400 ?_
  show (((q1 = 0) → ((¬ (((-1) : Int32) = (-1)) → AW Z 0 0 44 [some (.ref 0), some (.ref 5), some (.int (-1))] [.ref 0] ([kTape 0 v0, kTown 5 13 v1, kLaws 13 v2] : List (List zE)).flatten) ∧ ((((-1) : Int32) = (-1)) → AW Z 0 0 27 [some (.ref 0), some (.ref 5), some (.int (-1))] [.ref 0, .ref 0] ([kTape 0 v0, kTown 5 13 v1, kLaws 13 v2] : List (List zE)).flatten))) ∧ (¬ (q1 = 0) → AW Z 0 0 9 [some (.ref 0), some (.ref 5), none] [.ref 0, .ref 5] ([kTape 0 v0, kTown 5 13 v1, kLaws 13 v2] : List (List zE)).flatten))
  refine ⟨fun c2 => ?_, fun c2 => ?_⟩
  · rw [if_pos c2] at hf
    refine ⟨fun h => absurd h (by decide), fun _ => ?_⟩
    obtain ⟨q3, h8, hf⟩ := zbind hf
    refine AW.callVc hZ hR hN (c_Tape_isName N v0 q3 h8) zMX7_isName_ok rfl rfl zK_BorrowedLives_Tape_96 zV_X7_isName rfl [5, 8, 6] [0] [0, 1, 2, 3, 4] rfl rfl rfl (by decide) (by decide) (by omega) (by decide) (Nat.zero_le _) (Nat.zero_le _) rfl rfl rfl rfl rfl ?_
    rintro v cc ⟨rfl, rfl⟩
    refine ⟨_, rfl, rfl, ?_⟩
    show AW Z 0 0 30 [some (.ref 0), some (.ref 5), some (.int (-1))] [.int q3, .ref 0] ([kTape 0 v0, kTown 5 13 v1, kLaws 13 v2] : List (List zE)).flatten
    suffices H4 : AW Z 0 0 38 [none, none, none] [.int (if (q3 = 0) then 1 else 2), .ref 0] ([kTape 0 v0, kTown 5 13 v1, kLaws 13 v2] : List (List zE)).flatten from by
      refine AW.run hZ hRm [38] 400 ?_
      show (((q3 = 0) → AW Z 0 0 38 [some (.ref 0), some (.ref 5), some (.int (-1))] [.int 1, .ref 0] ([kTape 0 v0, kTown 5 13 v1, kLaws 13 v2] : List (List zE)).flatten) ∧ (¬ (q3 = 0) → AW Z 0 0 38 [some (.ref 0), some (.ref 5), some (.int (-1))] [.int 2, .ref 0] ([kTape 0 v0, kTown 5 13 v1, kLaws 13 v2] : List (List zE)).flatten))
      refine ⟨fun c5 => ?_, fun c5 => ?_⟩
      · refine AW.forget [false, false, false] ?_
        show AW Z 0 0 38 [none, none, none] [.int 1, .ref 0] ([kTape 0 v0, kTown 5 13 v1, kLaws 13 v2] : List (List zE)).flatten
        simpa only [if_pos c5] using H4
      · refine AW.forget [false, false, false] ?_
        show AW Z 0 0 38 [none, none, none] [.int 2, .ref 0] ([kTape 0 v0, kTown 5 13 v1, kLaws 13 v2] : List (List zE)).flatten
        simpa only [if_neg c5] using H4
    obtain ⟨q6, h7, hf⟩ := zbind hf
    refine AW.callVc hZ hR hN (c_Tape_wrong N v0 (if (q3 = 0) then 1 else 2) q6 h7) zMX7_wrong_ok rfl rfl zK_BorrowedLives_Tape_88 zV_X7_wrong rfl [5, 8, 6] [0] [0, 1, 2, 3, 4] rfl rfl rfl (by decide) (by decide) (by omega) (by decide) (Nat.zero_le _) (Nat.zero_le _) rfl rfl rfl rfl rfl ?_
    rintro v cc ⟨rfl, rfl⟩
    refine ⟨_, rfl, rfl, ?_⟩
    show AW Z 0 0 41 [none, none, none] [] ([kTape 0 (Tape_fault_s v0 q6), kTown 5 13 v1, kLaws 13 v2] : List (List zE)).flatten
    refine AW.run hZ hRm [42] 400 ?_
    show AW Z 0 0 42 [none, none, none] [.int (-1)] ([kTape 0 (Tape_fault_s v0 q6), kTown 5 13 v1, kLaws 13 v2] : List (List zE)).flatten
    cases hf
    exact AW.iret hZ hE rfl rfl rfl rfl (Nat.le_refl 0) (Nat.le_refl 0) rfl ⟨rfl, rfl⟩
  · rw [if_neg c2] at hf
    obtain ⟨q9, h21, hf⟩ := zbind hf
    refine AW.callVc hZ hR hN (c_Tape_value N v0 q9 h21) zMX7_value_ok rfl rfl zK_BorrowedLives_Tape_92 zV_X7_value rfl [5, 8, 6] [0] [0, 1, 2, 3, 4] rfl rfl rfl (by decide) (by decide) (by omega) (by decide) (Nat.zero_le _) (Nat.zero_le _) rfl rfl rfl rfl rfl ?_
    rintro v cc ⟨rfl, rfl⟩
    refine ⟨_, rfl, rfl, ?_⟩
    show AW Z 0 0 12 [some (.ref 0), some (.ref 5), none] [.long q9, .ref 5] ([kTape 0 v0, kTown 5 13 v1, kLaws 13 v2] : List (List zE)).flatten
    obtain ⟨q10, h20, hf⟩ := zbind hf
    refine AW.callVc hZ hR hN (c_Town_named N v1 v2 q9 q10 h20) zMX8_named_ok rfl rfl zK_BorrowedLives_Tape_100 zV_X8_named rfl [5, 8, 6] [1, 2] [5, 6, 7, 8, 9, 10, 11, 12, 13, 14, 15, 16, 17, 18] rfl rfl rfl (by decide) (by decide) (by omega) (by decide) (Nat.zero_le _) (Nat.zero_le _) rfl rfl rfl rfl rfl ?_
    rintro v cc ⟨rfl, rfl⟩
    refine ⟨_, rfl, rfl, ?_⟩
    show AW Z 0 0 15 [some (.ref 0), some (.ref 5), none] [.int q10] ([kTape 0 v0, kTown 5 13 v1, kLaws 13 v2] : List (List zE)).flatten
    refine AW.run hZ hRm [27, 44] 400 ?_
    show ((¬ (q10 = (-1)) → AW Z 0 0 44 [some (.ref 0), some (.ref 5), some (.int q10)] [.ref 0] ([kTape 0 v0, kTown 5 13 v1, kLaws 13 v2] : List (List zE)).flatten) ∧ ((q10 = (-1)) → AW Z 0 0 27 [some (.ref 0), some (.ref 5), some (.int q10)] [.ref 0, .ref 0] ([kTape 0 v0, kTown 5 13 v1, kLaws 13 v2] : List (List zE)).flatten))
    refine ⟨fun c11 => ?_, fun c11 => ?_⟩
    · rw [if_neg c11] at hf
      obtain ⟨q12, h13, hf⟩ := zbind hf
      refine AW.callVc hZ hR hN (c_Tape_advance N v0 q12 h13) zMX7_advance_ok rfl rfl zK_BorrowedLives_Tape_85 zV_X7_advance rfl [5, 8, 6] [0] [0, 1, 2, 3, 4] rfl rfl rfl (by decide) (by decide) (by omega) (by decide) (Nat.zero_le _) (Nat.zero_le _) rfl rfl rfl rfl rfl ?_
      rintro v cc ⟨rfl, rfl⟩
      refine ⟨_, rfl, rfl, ?_⟩
      show AW Z 0 0 47 [some (.ref 0), some (.ref 5), some (.int q10)] [] ([kTape 0 (Tape_at_s v0 q12), kTown 5 13 v1, kLaws 13 v2] : List (List zE)).flatten
      refine AW.run hZ hRm [48] 400 ?_
      show AW Z 0 0 48 [some (.ref 0), some (.ref 5), some (.int q10)] [.int q10] ([kTape 0 (Tape_at_s v0 q12), kTown 5 13 v1, kLaws 13 v2] : List (List zE)).flatten
      cases hf
      exact AW.iret hZ hE rfl rfl rfl rfl (Nat.le_refl 0) (Nat.le_refl 0) rfl ⟨rfl, rfl⟩
    · rw [if_pos c11] at hf
      obtain ⟨q14, h19, hf⟩ := zbind hf
      refine AW.callVc hZ hR hN (c_Tape_isName N v0 q14 h19) zMX7_isName_ok rfl rfl zK_BorrowedLives_Tape_96 zV_X7_isName rfl [5, 8, 6] [0] [0, 1, 2, 3, 4] rfl rfl rfl (by decide) (by decide) (by omega) (by decide) (Nat.zero_le _) (Nat.zero_le _) rfl rfl rfl rfl rfl ?_
      rintro v cc ⟨rfl, rfl⟩
      refine ⟨_, rfl, rfl, ?_⟩
      show AW Z 0 0 30 [some (.ref 0), some (.ref 5), some (.int q10)] [.int q14, .ref 0] ([kTape 0 v0, kTown 5 13 v1, kLaws 13 v2] : List (List zE)).flatten
      suffices H15 : AW Z 0 0 38 [none, none, none] [.int (if (q14 = 0) then 1 else 2), .ref 0] ([kTape 0 v0, kTown 5 13 v1, kLaws 13 v2] : List (List zE)).flatten from by
        refine AW.run hZ hRm [38] 400 ?_
        show (((q14 = 0) → AW Z 0 0 38 [some (.ref 0), some (.ref 5), some (.int q10)] [.int 1, .ref 0] ([kTape 0 v0, kTown 5 13 v1, kLaws 13 v2] : List (List zE)).flatten) ∧ (¬ (q14 = 0) → AW Z 0 0 38 [some (.ref 0), some (.ref 5), some (.int q10)] [.int 2, .ref 0] ([kTape 0 v0, kTown 5 13 v1, kLaws 13 v2] : List (List zE)).flatten))
        refine ⟨fun c16 => ?_, fun c16 => ?_⟩
        · refine AW.forget [false, false, false] ?_
          show AW Z 0 0 38 [none, none, none] [.int 1, .ref 0] ([kTape 0 v0, kTown 5 13 v1, kLaws 13 v2] : List (List zE)).flatten
          simpa only [if_pos c16] using H15
        · refine AW.forget [false, false, false] ?_
          show AW Z 0 0 38 [none, none, none] [.int 2, .ref 0] ([kTape 0 v0, kTown 5 13 v1, kLaws 13 v2] : List (List zE)).flatten
          simpa only [if_neg c16] using H15
      obtain ⟨q17, h18, hf⟩ := zbind hf
      refine AW.callVc hZ hR hN (c_Tape_wrong N v0 (if (q14 = 0) then 1 else 2) q17 h18) zMX7_wrong_ok rfl rfl zK_BorrowedLives_Tape_88 zV_X7_wrong rfl [5, 8, 6] [0] [0, 1, 2, 3, 4] rfl rfl rfl (by decide) (by decide) (by omega) (by decide) (Nat.zero_le _) (Nat.zero_le _) rfl rfl rfl rfl rfl ?_
      rintro v cc ⟨rfl, rfl⟩
      refine ⟨_, rfl, rfl, ?_⟩
      show AW Z 0 0 41 [none, none, none] [] ([kTape 0 (Tape_fault_s v0 q17), kTown 5 13 v1, kLaws 13 v2] : List (List zE)).flatten
      refine AW.run hZ hRm [42] 400 ?_
      show AW Z 0 0 42 [none, none, none] [.int (-1)] ([kTape 0 (Tape_fault_s v0 q17), kTown 5 13 v1, kLaws 13 v2] : List (List zE)).flatten
      cases hf
      exact AW.iret hZ hE rfl rfl rfl rfl (Nat.le_refl 0) (Nat.le_refl 0) rfl ⟨rfl, rfl⟩
def f_Town_clear (N : Nat) (v0 : VTown) (v1 : VLaws) : Option (Int32 × (Nat → Int32) × Int32 × Int32 × Int32 × Int32 × (Nat → Int32) × (Nat → Int32)) := ((f_Arr_fill N 6 (Town_barred v0) 0).bind (fun q1 => ((f_Laws_clear N v1).bind (fun q2 => (some (0, q1, 0, 50, 0, q2.1, q2.2.1, q2.2.2))))))
set_option maxRecDepth 20000 in
set_option maxHeartbeats 4000000 in
theorem c_Town_clear (N : Nat) (v0 : VTown) (v1 : VLaws) (R : Int32 × (Nat → Int32) × Int32 × Int32 × Int32 × Int32 × (Nat → Int32) × (Nat → Int32)) (hf : f_Town_clear N v0 v1 = some R) : Ct zMX8_clear 11 0 0 0 [.ref 0] ([kTown 0 8 v0, kLaws 8 v1] : List (List zE)).flatten (fun v cc => v = none ∧ cc = ([kTown 0 8 (Town_s_people_barred_bars_sign_signTold v0 R.1 R.2.1 R.2.2.1 R.2.2.2.1 R.2.2.2.2.1), kLaws 8 (Laws_s_size_from_to v1 R.2.2.2.2.2.1 R.2.2.2.2.2.2.1 R.2.2.2.2.2.2.2)] : List (List zE)).flatten) := by
  refine Ct.of zMX8_clear_ok (by decide) (Nat.le_of_ble_eq_true rfl) ?_
  intro Z hZ hR hN hE
  have hRm : zRoom Z 0 0 := zRoom0 Z
  unfold f_Town_clear at hf
  show AW Z 0 0 0 [some (.ref 0)] [] ([kTown 0 8 v0, kLaws 8 v1] : List (List zE)).flatten
  refine AW.run hZ hRm [10] 400 ?_
  show AW Z 0 0 10 [some (.ref 0)] [.int 0, .ref 7] ([kTown 0 8 (Town_people_s v0 0), kLaws 8 v1] : List (List zE)).flatten
  obtain ⟨q1, h4, hf⟩ := zbind hf
  refine AW.callS hZ hR hN (c_Arr_fill N 6 (Town_barred v0) 0 q1 h4) zMJ7_fill_53178_ok rfl rfl zK_BorrowedLives_Town_55 zV_J7_fill_53178 rfl [7] rfl (by decide) (Or.inl rfl) (by decide) (by omega) (by decide) (Nat.zero_le _) (Nat.zero_le _) rfl rfl ?_
  rintro v cc ⟨rfl, rfl⟩ -
  show AW Z 0 0 13 [some (.ref 0)] [] ([kTown 0 8 (Town_s_people_barred v0 0 q1), kLaws 8 v1] : List (List zE)).flatten
  refine AW.run hZ hRm [33] 400 ?_
  show (((0 : Int32) = 0 ∨ (0 : Int32) = 1) ∧ AW Z 0 0 33 [some (.ref 0)] [.ref 8] ([kTown 0 8 (Town_s_people_barred_bars_sign_signTold v0 0 q1 0 50 0), kLaws 8 v1] : List (List zE)).flatten)
  refine ⟨(by decide), ?_⟩
  obtain ⟨q2, h3, hf⟩ := zbind hf
  refine AW.callVc hZ hR hN (c_Laws_clear N v1 q2 h3) zMX2_clear_ok rfl rfl zK_BorrowedLives_Town_61 zV_X2_clear rfl [8, 6] [1] [8, 9, 10, 11, 12, 13] rfl rfl rfl (by decide) (by decide) (by omega) (by decide) (Nat.zero_le _) (Nat.zero_le _) rfl rfl rfl rfl rfl ?_
  rintro v cc ⟨rfl, rfl⟩
  refine ⟨_, rfl, rfl, ?_⟩
  show AW Z 0 0 36 [some (.ref 0)] [] ([kTown 0 8 (Town_s_people_barred_bars_sign_signTold v0 0 q1 0 50 0), kLaws 8 (Laws_s_size_from_to v1 q2.1 q2.2.1 q2.2.2)] : List (List zE)).flatten
  cases hf
  exact AW.vret hZ hE rfl rfl rfl (Nat.le_refl 0) (Nat.le_refl 0) rfl ⟨rfl, rfl⟩
