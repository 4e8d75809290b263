def f_Tape_scanWord_L21 (N : Nat) : Nat → VTape → Int32 → Int32 → Int64 → Int32 → Option (Int64)
  | 0, _, _, _, _, _ => none
  | fuel + 1, v0, y1, y2, x3, x5 => (if (y2 ≤ x5) then (some x3) else (if (x5 < 0 ∨ 1000 ≤ Int32.toNatClampNeg x5) then none else (f_Tape_scanWord_L21 N fuel v0 y1 y2 ((x3 * 27) + (Int32.toInt64 ((((Tape_signs v0) (Int32.toNatClampNeg x5)) - 97) + 1))) (x5 + 1))))
def f_Tape_scanWord_L59 (N : Nat) : Nat → VTape → Int32 → Int32 → Int64 → Int32 → Int32 → Option (Int32)
  | 0, _, _, _, _, _, _ => none
  | fuel + 1, v0, y1, y2, y3, x5, x6 => (if (216 ≤ x6) then (some x5) else ((f_Tape_standsIn N v0 x6 y1 y2).bind (fun q7 => (f_Tape_scanWord_L59 N fuel v0 y1 y2 y3 (if (q7 = 0) then x5 else (128 + (x6 / 8))) (x6 + 8)))))
def f_Tape_scanWord (N : Nat) (v0 : VTape) (a1 : Int32) (a2 : Int32) : Option ((Nat → Int32) × (Nat → Int32) × (Nat → Int64) × Int32) := (if ((a2 - a1) ≤ 8) then ((f_Tape_scanWord_L21 N N v0 a1 a2 0 a1).bind (fun q4 => ((f_Tape_scanWord_L59 N N v0 a1 a2 q4 1 0).bind (fun q11 => ((f_Tape_addToken N v0 q11 a1 q4).bind (fun q13 => (some (q13.1, q13.2.1, q13.2.2.1, q13.2.2.2)))))))) else ((f_Tape_addToken N v0 3 a1 0).bind (fun q15 => (some (q15.1, q15.2.1, q15.2.2.1, q15.2.2.2)))))
set_option maxRecDepth 20000 in
set_option maxHeartbeats 4000000 in
theorem c_Tape_scanWord_L21 {Z : zCtx} {D n0w nf mcw msw : Nat} (hZ : zOk Z zMX7_scanWord) (hR : zCan Z D mcw msw) (hDd : 11 ≤ D) (hN : zNew Z n0w nf) (hRm : zRoom Z 0 0) (N : Nat) : ∀ (fuel : Nat) (v0 : VTape) (y1 : Int32) (y2 : Int32) (x3 : Int64) (x5 : Int32) (q : (Int64)), f_Tape_scanWord_L21 N fuel v0 y1 y2 x3 x5 = some q → (AW Z 0 0 53 [some (.ref 0), some (.int y1), some (.int y2), some (.long q), none, none, none] [] ([kTape 0 v0] : List (List zE)).flatten) → AW Z 0 0 21 [some (.ref 0), some (.int y1), some (.int y2), some (.long x3), none, some (.int x5), none] [] ([kTape 0 v0] : List (List zE)).flatten := by
  intro fuel
  induction fuel with
  | zero =>
    intro v0 y1 y2 x3 x5 q hf hk0
    simp [f_Tape_scanWord_L21] at hf
  | succ fuel ih =>
    intro v0 y1 y2 x3 x5 q hf hk0
    rw [f_Tape_scanWord_L21] at hf
    refine AW.run hZ hRm [21, 53] 400 ?_
    show (((y2 ≤ x5) → AW Z 0 0 53 [some (.ref 0), some (.int y1), some (.int y2), some (.long x3), none, some (.int x5), none] [] ([kTape 0 v0] : List (List zE)).flatten) ∧ (¬ (y2 ≤ x5) → (¬ (x5 < 0 ∨ 1000 ≤ Int32.toNatClampNeg x5) ∧ AW Z 0 0 21 [some (.ref 0), some (.int y1), some (.int y2), some (.long ((x3 * 27) + (Int32.toInt64 ((((Tape_signs v0) (Int32.toNatClampNeg x5)) - 97) + 1)))), none, some (.int (x5 + 1)), none] [] ([kTape 0 v0] : List (List zE)).flatten)))
    refine ⟨fun c2 => ?_, fun c2 => ?_⟩
    · rw [if_pos c2] at hf
      cases hf
      refine AW.forget [true, true, true, true, false, false, false] ?_
      show AW Z 0 0 53 [some (.ref 0), some (.int y1), some (.int y2), some (.long x3), none, none, none] [] ([kTape 0 v0] : List (List zE)).flatten
      exact hk0
    · rw [if_neg c2] at hf
      obtain ⟨b3, hf⟩ := zneed hf
      refine ⟨b3, ?_⟩
      exact ih v0 y1 y2 ((x3 * 27) + (Int32.toInt64 ((((Tape_signs v0) (Int32.toNatClampNeg x5)) - 97) + 1))) (x5 + 1) q hf hk0
set_option maxRecDepth 20000 in
set_option maxHeartbeats 4000000 in
theorem c_Tape_scanWord_L59 {Z : zCtx} {D n0w nf mcw msw : Nat} (hZ : zOk Z zMX7_scanWord) (hR : zCan Z D mcw msw) (hDd : 11 ≤ D) (hN : zNew Z n0w nf) (hRm : zRoom Z 0 0) (N : Nat) : ∀ (fuel : Nat) (v0 : VTape) (y1 : Int32) (y2 : Int32) (y3 : Int64) (x5 : Int32) (x6 : Int32) (q : (Int32)), f_Tape_scanWord_L59 N fuel v0 y1 y2 y3 x5 x6 = some q → (AW Z 0 0 97 [some (.ref 0), some (.int y1), none, some (.long y3), none, some (.int q), none] [] ([kTape 0 v0] : List (List zE)).flatten) → AW Z 0 0 59 [some (.ref 0), some (.int y1), some (.int y2), some (.long y3), none, some (.int x5), some (.int x6)] [] ([kTape 0 v0] : List (List zE)).flatten := by
  intro fuel
  induction fuel with
  | zero =>
    intro v0 y1 y2 y3 x5 x6 q hf hk0
    simp [f_Tape_scanWord_L59] at hf
  | succ fuel ih =>
    intro v0 y1 y2 y3 x5 x6 q hf hk0
    rw [f_Tape_scanWord_L59] at hf
    refine AW.run hZ hRm [61] 400 ?_
    show AW Z 0 0 61 [some (.ref 0), some (.int y1), some (.int y2), some (.long y3), none, some (.int x5), some (.int x6)] [.int x6] ([kTape 0 v0] : List (List zE)).flatten
    refine AW.ldcT1 hZ rfl rfl rfl ?_
    show AW Z 0 0 63 [some (.ref 0), some (.int y1), some (.int y2), some (.long y3), none, some (.int x5), some (.int x6)] [.ref 1000001, .int x6] ([kTape 0 v0] : List (List zE)).flatten
    refine AW.callVs (i := 1) (by decide) (ps := []) rfl rfl hZ hR hN (c_J_length (i := 1) (by decide)) zMJ0_length_8abf5_ok rfl rfl zK_BorrowedLives_Tape_71 zV_J0_length_8abf5 rfl rfl (by decide) (Or.inl rfl) (by decide) (by omega) (by decide) (Nat.zero_le _) (Nat.zero_le _) rfl rfl ?_
    rintro v cc ⟨rfl, rfl⟩ -
    show AW Z 0 0 66 [some (.ref 0), some (.int y1), some (.int y2), some (.long y3), none, some (.int x5), some (.int x6)] [.int 216, .int x6] ([kTape 0 v0] : List (List zE)).flatten
    refine AW.run hZ hRm [74, 97] 400 ?_
    show (((216 ≤ x6) → AW Z 0 0 97 [some (.ref 0), some (.int y1), some (.int y2), some (.long y3), none, some (.int x5), some (.int x6)] [] ([kTape 0 v0] : List (List zE)).flatten) ∧ (¬ (216 ≤ x6) → AW Z 0 0 74 [some (.ref 0), some (.int y1), some (.int y2), some (.long y3), none, some (.int x5), some (.int x6)] [.int y2, .int y1, .int x6, .ref 0] ([kTape 0 v0] : List (List zE)).flatten))
    refine ⟨fun c6 => ?_, fun c6 => ?_⟩
    · rw [if_pos c6] at hf
      cases hf
      refine AW.forget [true, true, false, true, false, true, false] ?_
      show AW Z 0 0 97 [some (.ref 0), some (.int y1), none, some (.long y3), none, some (.int x5), none] [] ([kTape 0 v0] : List (List zE)).flatten
      exact hk0
    · rw [if_neg c6] at hf
      obtain ⟨q7, h10, hf⟩ := zbind hf
      refine AW.callVc hZ hR hN (c_Tape_standsIn N v0 x6 y1 y2 q7 h10) zMX7_standsIn_ok rfl rfl zK_BorrowedLives_Tape_74 zV_X7_standsIn rfl [5] [0] [0, 1, 2, 3, 4] rfl rfl rfl (by decide) (by decide) (by omega) (by decide) (Nat.zero_le _) (Nat.zero_le _) rfl rfl rfl rfl rfl ?_
      rintro v cc ⟨rfl, rfl⟩
      refine ⟨_, rfl, rfl, ?_⟩
      show AW Z 0 0 77 [some (.ref 0), some (.int y1), some (.int y2), some (.long y3), none, some (.int x5), some (.int x6)] [.int q7] ([kTape 0 v0] : List (List zE)).flatten
      suffices H8 : AW Z 0 0 91 [some (.ref 0), some (.int y1), some (.int y2), some (.long y3), none, some (.int (if (q7 = 0) then x5 else (128 + (x6 / 8)))), some (.int x6)] [] ([kTape 0 v0] : List (List zE)).flatten from by
        refine AW.run hZ hRm [91] 400 ?_
        show (((q7 = 0) → AW Z 0 0 91 [some (.ref 0), some (.int y1), some (.int y2), some (.long y3), none, some (.int x5), some (.int x6)] [] ([kTape 0 v0] : List (List zE)).flatten) ∧ (¬ (q7 = 0) → (¬ ((8 : Int32) = 0) ∧ AW Z 0 0 91 [some (.ref 0), some (.int y1), some (.int y2), some (.long y3), none, some (.int (128 + (x6 / 8))), some (.int x6)] [] ([kTape 0 v0] : List (List zE)).flatten)))
        refine ⟨fun c9 => ?_, fun c9 => ?_⟩
        · simpa only [if_pos c9] using H8
        · refine ⟨(by decide), ?_⟩
          simpa only [if_neg c9] using H8
      refine AW.run hZ hRm [59] 400 ?_
      show AW Z 0 0 59 [some (.ref 0), some (.int y1), some (.int y2), some (.long y3), none, some (.int (if (q7 = 0) then x5 else (128 + (x6 / 8)))), some (.int (x6 + 8))] [] ([kTape 0 v0] : List (List zE)).flatten
      exact ih v0 y1 y2 y3 (if (q7 = 0) then x5 else (128 + (x6 / 8))) (x6 + 8) q hf hk0
set_option maxRecDepth 20000 in
set_option maxHeartbeats 4000000 in
theorem c_Tape_scanWord (N : Nat) (v0 : VTape) (a1 : Int32) (a2 : Int32) (R : (Nat → Int32) × (Nat → Int32) × (Nat → Int64) × Int32) (hf : f_Tape_scanWord N v0 a1 a2 = some R) : Ct zMX7_scanWord 11 0 0 0 [.ref 0, .int a1, .int a2] ([kTape 0 v0] : List (List zE)).flatten (fun v cc => v = none ∧ cc = ([kTape 0 (Tape_s_tokens_places_values_tokenCount v0 R.1 R.2.1 R.2.2.1 R.2.2.2)] : List (List zE)).flatten) := by
  refine Ct.of zMX7_scanWord_ok (by decide) (Nat.le_of_ble_eq_true rfl) ?_
  intro Z hZ hR hN hE
  have hRm : zRoom Z 0 0 := zRoom0 Z
  unfold f_Tape_scanWord at hf
  show AW Z 0 0 0 [some (.ref 0), some (.int a1), some (.int a2), none, none, none, none] [] ([kTape 0 v0] : List (List zE)).flatten
  refine AW.run hZ hRm [12, 21] 400 ?_
  show ((((a2 - a1) ≤ 8) → AW Z 0 0 21 [some (.ref 0), some (.int a1), some (.int a2), some (.long 0), none, some (.int a1), none] [] ([kTape 0 v0] : List (List zE)).flatten) ∧ (¬ ((a2 - a1) ≤ 8) → AW Z 0 0 12 [some (.ref 0), some (.int a1), some (.int a2), none, none, none, none] [.long 0, .int a1, .int 3, .ref 0] ([kTape 0 v0] : List (List zE)).flatten))
  refine ⟨fun c1 => ?_, fun c1 => ?_⟩
  · rw [if_pos c1] at hf
    obtain ⟨q4, h5, hf⟩ := zbind hf
    refine c_Tape_scanWord_L21 hZ hR (by omega) hN hRm N N v0 a1 a2 0 a1 q4 h5 ?_
    show AW Z 0 0 53 [some (.ref 0), some (.int a1), some (.int a2), some (.long q4), none, none, none] [] ([kTape 0 v0] : List (List zE)).flatten
    refine AW.run hZ hRm [59] 400 ?_
    show AW Z 0 0 59 [some (.ref 0), some (.int a1), some (.int a2), some (.long q4), none, some (.int 1), some (.int 0)] [] ([kTape 0 v0] : List (List zE)).flatten
    obtain ⟨q11, h12, hf⟩ := zbind hf
    refine c_Tape_scanWord_L59 hZ hR (by omega) hN hRm N N v0 a1 a2 q4 1 0 q11 h12 ?_
    show AW Z 0 0 97 [some (.ref 0), some (.int a1), none, some (.long q4), none, some (.int q11), none] [] ([kTape 0 v0] : List (List zE)).flatten
    refine AW.run hZ hRm [102] 400 ?_
    show AW Z 0 0 102 [some (.ref 0), some (.int a1), none, some (.long q4), none, some (.int q11), none] [.long q4, .int a1, .int q11, .ref 0] ([kTape 0 v0] : List (List zE)).flatten
    obtain ⟨q13, h14, hf⟩ := zbind hf
    refine AW.callVc hZ hR hN (c_Tape_addToken N v0 q11 a1 q4 q13 h14) zMX7_addToken_ok rfl rfl zK_BorrowedLives_Tape_49 zV_X7_addToken rfl [5] [0] [0, 1, 2, 3, 4] rfl rfl rfl (by decide) (by decide) (by omega) (by decide) (Nat.zero_le _) (Nat.zero_le _) rfl rfl rfl rfl rfl ?_
    rintro v cc ⟨rfl, rfl⟩
    refine ⟨_, rfl, rfl, ?_⟩
    show AW Z 0 0 105 [some (.ref 0), some (.int a1), none, some (.long q4), none, some (.int q11), none] [] ([kTape 0 (Tape_s_tokens_places_values_tokenCount v0 q13.1 q13.2.1 q13.2.2.1 q13.2.2.2)] : List (List zE)).flatten
    cases hf
    exact AW.vret hZ hE rfl rfl rfl (Nat.le_refl 0) (Nat.le_refl 0) rfl ⟨rfl, rfl⟩
  · rw [if_neg c1] at hf
    obtain ⟨q15, h16, hf⟩ := zbind hf
    refine AW.callVc hZ hR hN (c_Tape_addToken N v0 3 a1 0 q15 h16) zMX7_addToken_ok rfl rfl zK_BorrowedLives_Tape_49 zV_X7_addToken rfl [5] [0] [0, 1, 2, 3, 4] rfl rfl rfl (by decide) (by decide) (by omega) (by decide) (Nat.zero_le _) (Nat.zero_le _) rfl rfl rfl rfl rfl ?_
    rintro v cc ⟨rfl, rfl⟩
    refine ⟨_, rfl, rfl, ?_⟩
    show AW Z 0 0 15 [some (.ref 0), some (.int a1), some (.int a2), none, none, none, none] [] ([kTape 0 (Tape_s_tokens_places_values_tokenCount v0 q15.1 q15.2.1 q15.2.2.1 q15.2.2.2)] : List (List zE)).flatten
    cases hf
    exact AW.vret hZ hE rfl rfl rfl (Nat.le_refl 0) (Nat.le_refl 0) rfl ⟨rfl, rfl⟩
def f_Tape_scanNumber_L20 (N : Nat) : Nat → VTape → Int32 → Int32 → Int32 → Int32 → Option (Int32)
  | 0, _, _, _, _, _ => none
  | fuel + 1, v0, y1, y2, x3, x4 => (if (y2 ≤ x4) then (some x3) else (if (x4 < 0 ∨ 1000 ≤ Int32.toNatClampNeg x4) then none else (f_Tape_scanNumber_L20 N fuel v0 y1 y2 ((x3 * 10) + (((Tape_signs v0) (Int32.toNatClampNeg x4)) - 48)) (x4 + 1))))
def f_Tape_scanNumber (N : Nat) (v0 : VTape) (a1 : Int32) (a2 : Int32) : Option ((Nat → Int32) × (Nat → Int32) × (Nat → Int64) × Int32) := (if ((a2 - a1) ≤ 4) then ((f_Tape_scanNumber_L20 N N v0 a1 a2 0 a1).bind (fun q4 => ((f_Tape_addToken N v0 2 a1 (Int32.toInt64 q4)).bind (fun q6 => (some (q6.1, q6.2.1, q6.2.2.1, q6.2.2.2)))))) else ((f_Tape_addToken N v0 3 a1 0).bind (fun q8 => (some (q8.1, q8.2.1, q8.2.2.1, q8.2.2.2)))))
set_option maxRecDepth 20000 in
set_option maxHeartbeats 4000000 in
theorem c_Tape_scanNumber_L20 {Z : zCtx} {D n0w nf mcw msw : Nat} (hZ : zOk Z zMX7_scanNumber) (hR : zCan Z D mcw msw) (hDd : 2 ≤ D) (hN : zNew Z n0w nf) (hRm : zRoom Z 0 0) (N : Nat) : ∀ (fuel : Nat) (v0 : VTape) (y1 : Int32) (y2 : Int32) (x3 : Int32) (x4 : Int32) (q : (Int32)), f_Tape_scanNumber_L20 N fuel v0 y1 y2 x3 x4 = some q → (AW Z 0 0 48 [some (.ref 0), some (.int y1), none, some (.int q), none] [] ([kTape 0 v0] : List (List zE)).flatten) → AW Z 0 0 20 [some (.ref 0), some (.int y1), some (.int y2), some (.int x3), some (.int x4)] [] ([kTape 0 v0] : List (List zE)).flatten := by
  intro fuel
  induction fuel with
  | zero =>
    intro v0 y1 y2 x3 x4 q hf hk0
    simp [f_Tape_scanNumber_L20] at hf
  | succ fuel ih =>
    intro v0 y1 y2 x3 x4 q hf hk0
    rw [f_Tape_scanNumber_L20] at hf
    refine AW.run hZ hRm [20, 48] 400 ?_
    show (((y2 ≤ x4) → AW Z 0 0 48 [some (.ref 0), some (.int y1), some (.int y2), some (.int x3), some (.int x4)] [] ([kTape 0 v0] : List (List zE)).flatten) ∧ (¬ (y2 ≤ x4) → (¬ (x4 < 0 ∨ 1000 ≤ Int32.toNatClampNeg x4) ∧ AW Z 0 0 20 [some (.ref 0), some (.int y1), some (.int y2), some (.int ((x3 * 10) + (((Tape_signs v0) (Int32.toNatClampNeg x4)) - 48))), some (.int (x4 + 1))] [] ([kTape 0 v0] : List (List zE)).flatten)))
    refine ⟨fun c2 => ?_, fun c2 => ?_⟩
    · rw [if_pos c2] at hf
      cases hf
      refine AW.forget [true, true, false, true, false] ?_
      show AW Z 0 0 48 [some (.ref 0), some (.int y1), none, some (.int x3), none] [] ([kTape 0 v0] : List (List zE)).flatten
      exact hk0
    · rw [if_neg c2] at hf
      obtain ⟨b3, hf⟩ := zneed hf
      refine ⟨b3, ?_⟩
      exact ih v0 y1 y2 ((x3 * 10) + (((Tape_signs v0) (Int32.toNatClampNeg x4)) - 48)) (x4 + 1) q hf hk0
set_option maxRecDepth 20000 in
set_option maxHeartbeats 4000000 in
theorem c_Tape_scanNumber (N : Nat) (v0 : VTape) (a1 : Int32) (a2 : Int32) (R : (Nat → Int32) × (Nat → Int32) × (Nat → Int64) × Int32) (hf : f_Tape_scanNumber N v0 a1 a2 = some R) : Ct zMX7_scanNumber 2 0 0 0 [.ref 0, .int a1, .int a2] ([kTape 0 v0] : List (List zE)).flatten (fun v cc => v = none ∧ cc = ([kTape 0 (Tape_s_tokens_places_values_tokenCount v0 R.1 R.2.1 R.2.2.1 R.2.2.2)] : List (List zE)).flatten) := by
  refine Ct.of zMX7_scanNumber_ok (by decide) (Nat.le_of_ble_eq_true rfl) ?_
  intro Z hZ hR hN hE
  have hRm : zRoom Z 0 0 := zRoom0 Z
  unfold f_Tape_scanNumber at hf
  show AW Z 0 0 0 [some (.ref 0), some (.int a1), some (.int a2), none, none] [] ([kTape 0 v0] : List (List zE)).flatten
  refine AW.run hZ hRm [11, 20] 400 ?_
  show ((((a2 - a1) ≤ 4) → AW Z 0 0 20 [some (.ref 0), some (.int a1), some (.int a2), some (.int 0), some (.int a1)] [] ([kTape 0 v0] : List (List zE)).flatten) ∧ (¬ ((a2 - a1) ≤ 4) → AW Z 0 0 11 [some (.ref 0), some (.int a1), some (.int a2), none, none] [.long 0, .int a1, .int 3, .ref 0] ([kTape 0 v0] : List (List zE)).flatten))
  refine ⟨fun c1 => ?_, fun c1 => ?_⟩
  · rw [if_pos c1] at hf
    obtain ⟨q4, h5, hf⟩ := zbind hf
    refine c_Tape_scanNumber_L20 hZ hR (by omega) hN hRm N N v0 a1 a2 0 a1 q4 h5 ?_
    show AW Z 0 0 48 [some (.ref 0), some (.int a1), none, some (.int q4), none] [] ([kTape 0 v0] : List (List zE)).flatten
    refine AW.run hZ hRm [53] 400 ?_
    show AW Z 0 0 53 [some (.ref 0), some (.int a1), none, some (.int q4), none] [.long (Int32.toInt64 q4), .int a1, .int 2, .ref 0] ([kTape 0 v0] : List (List zE)).flatten
    obtain ⟨q6, h7, hf⟩ := zbind hf
    refine AW.callVc hZ hR hN (c_Tape_addToken N v0 2 a1 (Int32.toInt64 q4) q6 h7) zMX7_addToken_ok rfl rfl zK_BorrowedLives_Tape_49 zV_X7_addToken rfl [5] [0] [0, 1, 2, 3, 4] rfl rfl rfl (by decide) (by decide) (by omega) (by decide) (Nat.zero_le _) (Nat.zero_le _) rfl rfl rfl rfl rfl ?_
    rintro v cc ⟨rfl, rfl⟩
    refine ⟨_, rfl, rfl, ?_⟩
    show AW Z 0 0 56 [some (.ref 0), some (.int a1), none, some (.int q4), none] [] ([kTape 0 (Tape_s_tokens_places_values_tokenCount v0 q6.1 q6.2.1 q6.2.2.1 q6.2.2.2)] : List (List zE)).flatten
    cases hf
    exact AW.vret hZ hE rfl rfl rfl (Nat.le_refl 0) (Nat.le_refl 0) rfl ⟨rfl, rfl⟩
  · rw [if_neg c1] at hf
    obtain ⟨q8, h9, hf⟩ := zbind hf
    refine AW.callVc hZ hR hN (c_Tape_addToken N v0 3 a1 0 q8 h9) zMX7_addToken_ok rfl rfl zK_BorrowedLives_Tape_49 zV_X7_addToken rfl [5] [0] [0, 1, 2, 3, 4] rfl rfl rfl (by decide) (by decide) (by omega) (by decide) (Nat.zero_le _) (Nat.zero_le _) rfl rfl rfl rfl rfl ?_
    rintro v cc ⟨rfl, rfl⟩
    refine ⟨_, rfl, rfl, ?_⟩
    show AW Z 0 0 14 [some (.ref 0), some (.int a1), some (.int a2), none, none] [] ([kTape 0 (Tape_s_tokens_places_values_tokenCount v0 q8.1 q8.2.1 q8.2.2.1 q8.2.2.2)] : List (List zE)).flatten
    cases hf
    exact AW.vret hZ hE rfl rfl rfl (Nat.le_refl 0) (Nat.le_refl 0) rfl ⟨rfl, rfl⟩
def f_Tape_scanToken_L4 (N : Nat) : Nat → VTape → Int32 → Int32 → Int32 → Option (Int32)
  | 0, _, _, _, _ => none
  | fuel + 1, v0, y1, y2, x3 => (if ((Tape_length v0) ≤ x3) then (some x3) else (if (x3 < 0 ∨ 1000 ≤ Int32.toNatClampNeg x3) then none else ((f_Tape_sortOf N ((Tape_signs v0) (Int32.toNatClampNeg x3))).bind (fun q2 => (if (q2 = y2) then (f_Tape_scanToken_L4 N fuel v0 y1 y2 (x3 + 1)) else (some x3))))))
def f_Tape_scanToken (N : Nat) (v0 : VTape) (a1 : Int32) (a2 : Int32) : Option ((Nat → Int32) × (Nat → Int32) × (Nat → Int64) × Int32) := ((f_Tape_scanToken_L4 N N v0 a1 a2 (a1 + 1)).bind (fun q6 => (if (a2 = 1) then ((f_Tape_scanWord N v0 a1 q6).bind (fun q19 => (some (q19.1, q19.2.1, q19.2.2.1, q19.2.2.2)))) else (if (a2 = 2) then ((f_Tape_scanNumber N v0 a1 q6).bind (fun q17 => (some (q17.1, q17.2.1, q17.2.2.1, q17.2.2.2)))) else (if (a1 < 0 ∨ 1000 ≤ Int32.toNatClampNeg a1) then none else (if ((zidx ((Tape_signs v0) (Int32.toNatClampNeg a1))) < 0) then ((f_Tape_addToken N v0 3 a1 0).bind (fun q11 => (some (q11.1, q11.2.1, q11.2.2.1, q11.2.2.2)))) else (if (a1 < 0 ∨ 1000 ≤ Int32.toNatClampNeg a1) then none else ((f_Tape_addToken N v0 ((Tape_signs v0) (Int32.toNatClampNeg a1)) a1 0).bind (fun q13 => (some (q13.1, q13.2.1, q13.2.2.1, q13.2.2.2)))))))))))
set_option maxRecDepth 20000 in
set_option maxHeartbeats 4000000 in
theorem c_Tape_scanToken_L4 {Z : zCtx} {D n0w nf mcw msw : Nat} (hZ : zOk Z zMX7_scanToken) (hR : zCan Z D mcw msw) (hDd : 12 ≤ D) (hN : zNew Z n0w nf) (hRm : zRoom Z 0 0) (N : Nat) : ∀ (fuel : Nat) (v0 : VTape) (y1 : Int32) (y2 : Int32) (x3 : Int32) (q : (Int32)), f_Tape_scanToken_L4 N fuel v0 y1 y2 x3 = some q → (AW Z 0 0 31 [some (.ref 0), some (.int y1), some (.int y2), some (.int q)] [] ([kTape 0 v0] : List (List zE)).flatten) → AW Z 0 0 4 [some (.ref 0), some (.int y1), some (.int y2), some (.int x3)] [] ([kTape 0 v0] : List (List zE)).flatten := by
  intro fuel
  induction fuel with
  | zero =>
    intro v0 y1 y2 x3 q hf hk0
    simp [f_Tape_scanToken_L4] at hf
  | succ fuel ih =>
    intro v0 y1 y2 x3 q hf hk0
    rw [f_Tape_scanToken_L4] at hf
    refine AW.run hZ hRm [18, 31] 400 ?_
    show ((((Tape_length v0) ≤ x3) → AW Z 0 0 31 [some (.ref 0), some (.int y1), some (.int y2), some (.int x3)] [] ([kTape 0 v0] : List (List zE)).flatten) ∧ (¬ ((Tape_length v0) ≤ x3) → (¬ (x3 < 0 ∨ 1000 ≤ Int32.toNatClampNeg x3) ∧ AW Z 0 0 18 [some (.ref 0), some (.int y1), some (.int y2), some (.int x3)] [.int ((Tape_signs v0) (Int32.toNatClampNeg x3))] ([kTape 0 v0] : List (List zE)).flatten)))
    refine ⟨fun c1 => ?_, fun c1 => ?_⟩
    · rw [if_pos c1] at hf
      cases hf
      exact hk0
    · rw [if_neg c1] at hf
      obtain ⟨b5, hf⟩ := zneed hf
      refine ⟨b5, ?_⟩
      obtain ⟨q2, h4, hf⟩ := zbind hf
      refine AW.callSc hZ hR hN (c_Tape_sortOf N ((Tape_signs v0) (Int32.toNatClampNeg x3)) q2 h4) zMX7_sortOf_ok rfl rfl zK_BorrowedLives_Tape_41 zV_X7_sortOf rfl [5] [] [] rfl rfl rfl (by decide) (by decide) (by omega) (by decide) (Nat.zero_le _) (Nat.zero_le _) rfl rfl ?_
      rintro v cc ⟨rfl, rfl⟩
      refine ⟨_, rfl, rfl, ?_⟩
      show AW Z 0 0 21 [some (.ref 0), some (.int y1), some (.int y2), some (.int x3)] [.int q2] ([kTape 0 v0] : List (List zE)).flatten
      refine AW.run hZ hRm [4, 31] 400 ?_
      show ((¬ (q2 = y2) → AW Z 0 0 31 [some (.ref 0), some (.int y1), some (.int y2), some (.int x3)] [] ([kTape 0 v0] : List (List zE)).flatten) ∧ ((q2 = y2) → AW Z 0 0 4 [some (.ref 0), some (.int y1), some (.int y2), some (.int (x3 + 1))] [] ([kTape 0 v0] : List (List zE)).flatten))
      refine ⟨fun c3 => ?_, fun c3 => ?_⟩
      · rw [if_neg c3] at hf
        cases hf
        exact hk0
      · rw [if_pos c3] at hf
        exact ih v0 y1 y2 (x3 + 1) q hf hk0
set_option maxRecDepth 20000 in
set_option maxHeartbeats 4000000 in
theorem c_Tape_scanToken (N : Nat) (v0 : VTape) (a1 : Int32) (a2 : Int32) (R : (Nat → Int32) × (Nat → Int32) × (Nat → Int64) × Int32) (hf : f_Tape_scanToken N v0 a1 a2 = some R) : Ct zMX7_scanToken 12 0 0 0 [.ref 0, .int a1, .int a2] ([kTape 0 v0] : List (List zE)).flatten (fun v cc => v = none ∧ cc = ([kTape 0 (Tape_s_tokens_places_values_tokenCount v0 R.1 R.2.1 R.2.2.1 R.2.2.2)] : List (List zE)).flatten) := by
  refine Ct.of zMX7_scanToken_ok (by decide) (Nat.le_of_ble_eq_true rfl) ?_
  intro Z hZ hR hN hE
  have hRm : zRoom Z 0 0 := zRoom0 Z
  unfold f_Tape_scanToken at hf
  show AW Z 0 0 0 [some (.ref 0), some (.int a1), some (.int a2), none] [] ([kTape 0 v0] : List (List zE)).flatten
  refine AW.run hZ hRm [4] 400 ?_
  show AW Z 0 0 4 [some (.ref 0), some (.int a1), some (.int a2), some (.int (a1 + 1))] [] ([kTape 0 v0] : List (List zE)).flatten
  obtain ⟨q6, h7, hf⟩ := zbind hf
  refine c_Tape_scanToken_L4 hZ hR (by omega) hN hRm N N v0 a1 a2 (a1 + 1) q6 h7 ?_
  show AW Z 0 0 31 [some (.ref 0), some (.int a1), some (.int a2), some (.int q6)] [] ([kTape 0 v0] : List (List zE)).flatten
  refine AW.run hZ hRm [39, 53, 60] 400 ?_
  show ((¬ (a2 = 1) → ((¬ (a2 = 2) → AW Z 0 0 60 [some (.ref 0), some (.int a1), some (.int a2), some (.int q6)] [.ref 0] ([kTape 0 v0] : List (List zE)).flatten) ∧ ((a2 = 2) → AW Z 0 0 53 [some (.ref 0), some (.int a1), some (.int a2), some (.int q6)] [.int q6, .int a1, .ref 0] ([kTape 0 v0] : List (List zE)).flatten))) ∧ ((a2 = 1) → AW Z 0 0 39 [some (.ref 0), some (.int a1), some (.int a2), some (.int q6)] [.int q6, .int a1, .ref 0] ([kTape 0 v0] : List (List zE)).flatten))
  refine ⟨fun c8 => ?_, fun c8 => ?_⟩
  · rw [if_neg c8] at hf
    refine ⟨fun c9 => ?_, fun c9 => ?_⟩
    · rw [if_neg c9] at hf
      refine AW.ldcT0 hZ rfl rfl rfl ?_
      show AW Z 0 0 62 [some (.ref 0), some (.int a1), some (.int a2), some (.int q6)] [.ref 1000000, .ref 0] ([kTape 0 v0] : List (List zE)).flatten
      refine AW.run hZ hRm [68] 400 ?_
      show (¬ (a1 < 0 ∨ 1000 ≤ Int32.toNatClampNeg a1) ∧ AW Z 0 0 68 [some (.ref 0), some (.int a1), some (.int a2), some (.int q6)] [.int ((Tape_signs v0) (Int32.toNatClampNeg a1)), .ref 1000000, .ref 0] ([kTape 0 v0] : List (List zE)).flatten)
      obtain ⟨b16, hf⟩ := zneed hf
      refine ⟨b16, ?_⟩
      refine AW.callVs (i := 0) (by decide) (ps := []) rfl rfl hZ hR hN (c_J_indexOf (c := ((Tape_signs v0) (Int32.toNatClampNeg a1)))) zMJ0_indexOf_0f7a4_ok rfl rfl zK_BorrowedLives_Tape_61 zV_J0_indexOf_0f7a4 rfl rfl (by decide) (Or.inl rfl) (by decide) (by omega) (by decide) (Nat.zero_le _) (Nat.zero_le _) rfl rfl ?_
      rintro v cc ⟨rfl, rfl⟩ -
      show AW Z 0 0 71 [some (.ref 0), some (.int a1), some (.int a2), some (.int q6)] [.int (zidx ((Tape_signs v0) (Int32.toNatClampNeg a1))), .ref 0] ([kTape 0 v0] : List (List zE)).flatten
      refine AW.run hZ hRm [86] 400 ?_
      show ((((zidx ((Tape_signs v0) (Int32.toNatClampNeg a1))) < 0) → AW Z 0 0 86 [some (.ref 0), some (.int a1), some (.int a2), some (.int q6)] [.long 0, .int a1, .int 3, .ref 0] ([kTape 0 v0] : List (List zE)).flatten) ∧ (¬ ((zidx ((Tape_signs v0) (Int32.toNatClampNeg a1))) < 0) → (¬ (a1 < 0 ∨ 1000 ≤ Int32.toNatClampNeg a1) ∧ AW Z 0 0 86 [some (.ref 0), some (.int a1), some (.int a2), some (.int q6)] [.long 0, .int a1, .int ((Tape_signs v0) (Int32.toNatClampNeg a1)), .ref 0] ([kTape 0 v0] : List (List zE)).flatten)))
      refine ⟨fun c10 => ?_, fun c10 => ?_⟩
      · rw [if_pos c10] at hf
        obtain ⟨q11, h12, hf⟩ := zbind hf
        refine AW.callVc hZ hR hN (c_Tape_addToken N v0 3 a1 0 q11 h12) zMX7_addToken_ok rfl rfl zK_BorrowedLives_Tape_49 zV_X7_addToken rfl [5] [0] [0, 1, 2, 3, 4] rfl rfl rfl (by decide) (by decide) (by omega) (by decide) (Nat.zero_le _) (Nat.zero_le _) rfl rfl rfl rfl rfl ?_
        rintro v cc ⟨rfl, rfl⟩
        refine ⟨_, rfl, rfl, ?_⟩
        show AW Z 0 0 89 [some (.ref 0), some (.int a1), some (.int a2), some (.int q6)] [] ([kTape 0 (Tape_s_tokens_places_values_tokenCount v0 q11.1 q11.2.1 q11.2.2.1 q11.2.2.2)] : List (List zE)).flatten
        cases hf
        exact AW.vret hZ hE rfl rfl rfl (Nat.le_refl 0) (Nat.le_refl 0) rfl ⟨rfl, rfl⟩
      · rw [if_neg c10] at hf
        obtain ⟨b15, hf⟩ := zneed hf
        refine ⟨b15, ?_⟩
        obtain ⟨q13, h14, hf⟩ := zbind hf
        refine AW.callVc hZ hR hN (c_Tape_addToken N v0 ((Tape_signs v0) (Int32.toNatClampNeg a1)) a1 0 q13 h14) zMX7_addToken_ok rfl rfl zK_BorrowedLives_Tape_49 zV_X7_addToken rfl [5] [0] [0, 1, 2, 3, 4] rfl rfl rfl (by decide) (by decide) (by omega) (by decide) (Nat.zero_le _) (Nat.zero_le _) rfl rfl rfl rfl rfl ?_
        rintro v cc ⟨rfl, rfl⟩
        refine ⟨_, rfl, rfl, ?_⟩
        show AW Z 0 0 89 [some (.ref 0), some (.int a1), some (.int a2), some (.int q6)] [] ([kTape 0 (Tape_s_tokens_places_values_tokenCount v0 q13.1 q13.2.1 q13.2.2.1 q13.2.2.2)] : List (List zE)).flatten
        cases hf
        exact AW.vret hZ hE rfl rfl rfl (Nat.le_refl 0) (Nat.le_refl 0) rfl ⟨rfl, rfl⟩
    · rw [if_pos c9] at hf
      obtain ⟨q17, h18, hf⟩ := zbind hf
      refine AW.callVc hZ hR hN (c_Tape_scanNumber N v0 a1 q6 q17 h18) zMX7_scanNumber_ok rfl rfl zK_BorrowedLives_Tape_56 zV_X7_scanNumber rfl [5] [0] [0, 1, 2, 3, 4] rfl rfl rfl (by decide) (by decide) (by omega) (by decide) (Nat.zero_le _) (Nat.zero_le _) rfl rfl rfl rfl rfl ?_
      rintro v cc ⟨rfl, rfl⟩
      refine ⟨_, rfl, rfl, ?_⟩
      show AW Z 0 0 56 [some (.ref 0), some (.int a1), some (.int a2), some (.int q6)] [] ([kTape 0 (Tape_s_tokens_places_values_tokenCount v0 q17.1 q17.2.1 q17.2.2.1 q17.2.2.2)] : List (List zE)).flatten
      refine AW.run hZ hRm [89] 400 ?_
      show AW Z 0 0 89 [some (.ref 0), some (.int a1), some (.int a2), some (.int q6)] [] ([kTape 0 (Tape_s_tokens_places_values_tokenCount v0 q17.1 q17.2.1 q17.2.2.1 q17.2.2.2)] : List (List zE)).flatten
      cases hf
      exact AW.vret hZ hE rfl rfl rfl (Nat.le_refl 0) (Nat.le_refl 0) rfl ⟨rfl, rfl⟩
  · rw [if_pos c8] at hf
    obtain ⟨q19, h20, hf⟩ := zbind hf
    refine AW.callVc hZ hR hN (c_Tape_scanWord N v0 a1 q6 q19 h20) zMX7_scanWord_ok rfl rfl zK_BorrowedLives_Tape_53 zV_X7_scanWord rfl [5] [0] [0, 1, 2, 3, 4] rfl rfl rfl (by decide) (by decide) (by omega) (by decide) (Nat.zero_le _) (Nat.zero_le _) rfl rfl rfl rfl rfl ?_
    rintro v cc ⟨rfl, rfl⟩
    refine ⟨_, rfl, rfl, ?_⟩
    show AW Z 0 0 42 [some (.ref 0), some (.int a1), some (.int a2), some (.int q6)] [] ([kTape 0 (Tape_s_tokens_places_values_tokenCount v0 q19.1 q19.2.1 q19.2.2.1 q19.2.2.2)] : List (List zE)).flatten
    refine AW.run hZ hRm [89] 400 ?_
    show AW Z 0 0 89 [some (.ref 0), some (.int a1), some (.int a2), some (.int q6)] [] ([kTape 0 (Tape_s_tokens_places_values_tokenCount v0 q19.1 q19.2.1 q19.2.2.1 q19.2.2.2)] : List (List zE)).flatten
    cases hf
    exact AW.vret hZ hE rfl rfl rfl (Nat.le_refl 0) (Nat.le_refl 0) rfl ⟨rfl, rfl⟩
def f_Tape_takeAll_L17 (N : Nat) : Nat → VTape → Int32 → (Nat → Int32) → (Nat → Int32) → (Nat → Int64) → Int32 → Option ((Nat → Int32) × (Nat → Int32) × (Nat → Int64) × Int32)
  | 0, _, _, _, _, _, _ => none
  | fuel + 1, v0, x1, m_tokens0, m_places1, m_values2, m_tokenCount3 => (if ((Tape_length v0) ≤ x1) then (some (m_tokens0, m_places1, m_values2, m_tokenCount3)) else (if (x1 < 0 ∨ 1000 ≤ Int32.toNatClampNeg x1) then none else ((f_Tape_sortOf N ((Tape_signs v0) (Int32.toNatClampNeg x1))).bind (fun q2 => (if (x1 ≤ 0) then (if (q2 = 0) then (f_Tape_takeAll_L17 N fuel v0 (x1 + 1) m_tokens0 m_places1 m_values2 m_tokenCount3) else (if ((0 : Int32) = 0) then ((f_Tape_scanToken N (Tape_s_tokens_places_values_tokenCount v0 m_tokens0 m_places1 m_values2 m_tokenCount3) x1 q2).bind (fun q6 => (f_Tape_takeAll_L17 N fuel v0 (x1 + 1) q6.1 q6.2.1 q6.2.2.1 q6.2.2.2))) else (f_Tape_takeAll_L17 N fuel v0 (x1 + 1) m_tokens0 m_places1 m_values2 m_tokenCount3))) else (if (q2 = 3) then (if (q2 = 0) then (f_Tape_takeAll_L17 N fuel v0 (x1 + 1) m_tokens0 m_places1 m_values2 m_tokenCount3) else (if ((0 : Int32) = 0) then ((f_Tape_scanToken N (Tape_s_tokens_places_values_tokenCount v0 m_tokens0 m_places1 m_values2 m_tokenCount3) x1 q2).bind (fun q11 => (f_Tape_takeAll_L17 N fuel v0 (x1 + 1) q11.1 q11.2.1 q11.2.2.1 q11.2.2.2))) else (f_Tape_takeAll_L17 N fuel v0 (x1 + 1) m_tokens0 m_places1 m_values2 m_tokenCount3))) else (if ((x1 - 1) < 0 ∨ 1000 ≤ Int32.toNatClampNeg (x1 - 1)) then none else ((f_Tape_sortOf N ((Tape_signs v0) (Int32.toNatClampNeg (x1 - 1)))).bind (fun q13 => (if (q2 = 0) then (f_Tape_takeAll_L17 N fuel v0 (x1 + 1) m_tokens0 m_places1 m_values2 m_tokenCount3) else (if (((if (q13 = q2) then 1 else 0) : Int32) = 0) then ((f_Tape_scanToken N (Tape_s_tokens_places_values_tokenCount v0 m_tokens0 m_places1 m_values2 m_tokenCount3) x1 q2).bind (fun q18 => (f_Tape_takeAll_L17 N fuel v0 (x1 + 1) q18.1 q18.2.1 q18.2.2.1 q18.2.2.2))) else (f_Tape_takeAll_L17 N fuel v0 (x1 + 1) m_tokens0 m_places1 m_values2 m_tokenCount3))))))))))))
def f_Tape_takeAll (N : Nat) (v0 : VTape) : Option (Int32 × (Nat → Int32) × (Nat → Int32) × (Nat → Int64) × Int32 × Int32 × Int32) := ((f_Tape_takeAll_L17 N N (Tape_s_tokenCount_at_fault v0 0 0 0) 0 (Tape_tokens v0) (Tape_places v0) (Tape_values v0) 0).bind (fun q24 => ((f_Tape_addToken N (Tape_s_tokens_places_values_tokenCount_at_fault v0 q24.1 q24.2.1 q24.2.2.1 q24.2.2.2 0 0) 0 (Tape_length v0) 0).bind (fun q26 => (some (0, q26.1, q26.2.1, q26.2.2.1, q26.2.2.2, 0, 0))))))
set_option maxRecDepth 20000 in
set_option maxHeartbeats 4000000 in
theorem c_Tape_takeAll_L17 {Z : zCtx} {D n0w nf mcw msw : Nat} (hZ : zOk Z zMX7_takeAll) (hR : zCan Z D mcw msw) (hDd : 13 ≤ D) (hN : zNew Z n0w nf) (hRm : zRoom Z 0 0) (N : Nat) : ∀ (fuel : Nat) (v0 : VTape) (x1 : Int32) (m_tokens0 : (Nat → Int32)) (m_places1 : (Nat → Int32)) (m_values2 : (Nat → Int64)) (m_tokenCount3 : Int32) (q : ((Nat → Int32) × (Nat → Int32) × (Nat → Int64) × Int32)), f_Tape_takeAll_L17 N fuel v0 x1 m_tokens0 m_places1 m_values2 m_tokenCount3 = some q → (AW Z 0 0 85 [some (.ref 0), none, none, none] [] ([kTape 0 (Tape_s_tokens_places_values_tokenCount v0 q.1 q.2.1 q.2.2.1 q.2.2.2)] : List (List zE)).flatten) → AW Z 0 0 17 [some (.ref 0), some (.int x1), none, none] [] ([kTape 0 (Tape_s_tokens_places_values_tokenCount v0 m_tokens0 m_places1 m_values2 m_tokenCount3)] : List (List zE)).flatten := by
  intro fuel
  induction fuel with
  | zero =>
    intro v0 x1 m_tokens0 m_places1 m_values2 m_tokenCount3 q hf hk0
    simp [f_Tape_takeAll_L17] at hf
  | succ fuel ih =>
    intro v0 x1 m_tokens0 m_places1 m_values2 m_tokenCount3 q hf hk0
    rw [f_Tape_takeAll_L17] at hf
    refine AW.run hZ hRm [31, 85] 400 ?_
    show ((((Tape_length v0) ≤ x1) → AW Z 0 0 85 [some (.ref 0), some (.int x1), none, none] [] ([kTape 0 (Tape_s_tokens_places_values_tokenCount v0 m_tokens0 m_places1 m_values2 m_tokenCount3)] : List (List zE)).flatten) ∧ (¬ ((Tape_length v0) ≤ x1) → (¬ (x1 < 0 ∨ 1000 ≤ Int32.toNatClampNeg x1) ∧ AW Z 0 0 31 [some (.ref 0), some (.int x1), none, none] [.int ((Tape_signs v0) (Int32.toNatClampNeg x1))] ([kTape 0 (Tape_s_tokens_places_values_tokenCount v0 m_tokens0 m_places1 m_values2 m_tokenCount3)] : List (List zE)).flatten)))
    refine ⟨fun c1 => ?_, fun c1 => ?_⟩
    · rw [if_pos c1] at hf
      cases hf
      refine AW.forget [true, false, false, false] ?_
      show AW Z 0 0 85 [some (.ref 0), none, none, none] [] ([kTape 0 (Tape_s_tokens_places_values_tokenCount v0 m_tokens0 m_places1 m_values2 m_tokenCount3)] : List (List zE)).flatten
      exact hk0
    · rw [if_neg c1] at hf
      obtain ⟨b23, hf⟩ := zneed hf
      refine ⟨b23, ?_⟩
      obtain ⟨q2, h22, hf⟩ := zbind hf
      refine AW.callSc hZ hR hN (c_Tape_sortOf N ((Tape_signs v0) (Int32.toNatClampNeg x1)) q2 h22) zMX7_sortOf_ok rfl rfl zK_BorrowedLives_Tape_41 zV_X7_sortOf rfl [5] [] [] rfl rfl rfl (by decide) (by decide) (by omega) (by decide) (Nat.zero_le _) (Nat.zero_le _) rfl rfl ?_
      rintro v cc ⟨rfl, rfl⟩
      refine ⟨_, rfl, rfl, ?_⟩
      show AW Z 0 0 34 [some (.ref 0), some (.int x1), none, none] [.int q2] ([kTape 0 (Tape_s_tokens_places_values_tokenCount v0 m_tokens0 m_places1 m_values2 m_tokenCount3)] : List (List zE)).flatten
      refine AW.run hZ hRm [17, 52, 76] 400 ?_
      show (((x1 ≤ 0) → (((q2 = 0) → AW Z 0 0 17 [some (.ref 0), some (.int (x1 + 1)), some (.int q2), some (.int 0)] [] ([kTape 0 (Tape_s_tokens_places_values_tokenCount v0 m_tokens0 m_places1 m_values2 m_tokenCount3)] : List (List zE)).flatten) ∧ (¬ (q2 = 0) → ((¬ ((0 : Int32) = 0) → AW Z 0 0 17 [some (.ref 0), some (.int (x1 + 1)), some (.int q2), some (.int 0)] [] ([kTape 0 (Tape_s_tokens_places_values_tokenCount v0 m_tokens0 m_places1 m_values2 m_tokenCount3)] : List (List zE)).flatten) ∧ (((0 : Int32) = 0) → AW Z 0 0 76 [some (.ref 0), some (.int x1), some (.int q2), some (.int 0)] [.int q2, .int x1, .ref 0] ([kTape 0 (Tape_s_tokens_places_values_tokenCount v0 m_tokens0 m_places1 m_values2 m_tokenCount3)] : List (List zE)).flatten))))) ∧ (¬ (x1 ≤ 0) → (((q2 = 3) → (((q2 = 0) → AW Z 0 0 17 [some (.ref 0), some (.int (x1 + 1)), some (.int q2), some (.int 0)] [] ([kTape 0 (Tape_s_tokens_places_values_tokenCount v0 m_tokens0 m_places1 m_values2 m_tokenCount3)] : List (List zE)).flatten) ∧ (¬ (q2 = 0) → ((¬ ((0 : Int32) = 0) → AW Z 0 0 17 [some (.ref 0), some (.int (x1 + 1)), some (.int q2), some (.int 0)] [] ([kTape 0 (Tape_s_tokens_places_values_tokenCount v0 m_tokens0 m_places1 m_values2 m_tokenCount3)] : List (List zE)).flatten) ∧ (((0 : Int32) = 0) → AW Z 0 0 76 [some (.ref 0), some (.int x1), some (.int q2), some (.int 0)] [.int q2, .int x1, .ref 0] ([kTape 0 (Tape_s_tokens_places_values_tokenCount v0 m_tokens0 m_places1 m_values2 m_tokenCount3)] : List (List zE)).flatten))))) ∧ (¬ (q2 = 3) → (¬ ((x1 - 1) < 0 ∨ 1000 ≤ Int32.toNatClampNeg (x1 - 1)) ∧ AW Z 0 0 52 [some (.ref 0), some (.int x1), some (.int q2), none] [.int ((Tape_signs v0) (Int32.toNatClampNeg (x1 - 1)))] ([kTape 0 (Tape_s_tokens_places_values_tokenCount v0 m_tokens0 m_places1 m_values2 m_tokenCount3)] : List (List zE)).flatten)))))
      refine ⟨fun c3 => ?_, fun c3 => ?_⟩
      · rw [if_pos c3] at hf
        refine ⟨fun c4 => ?_, fun c4 => ?_⟩
        · rw [if_pos c4] at hf
          refine AW.forget [true, true, false, false] ?_
          show AW Z 0 0 17 [some (.ref 0), some (.int (x1 + 1)), none, none] [] ([kTape 0 (Tape_s_tokens_places_values_tokenCount v0 m_tokens0 m_places1 m_values2 m_tokenCount3)] : List (List zE)).flatten
          exact ih v0 (x1 + 1) m_tokens0 m_places1 m_values2 m_tokenCount3 q hf hk0
        · rw [if_neg c4] at hf
          refine ⟨fun c5 => ?_, fun c5 => ?_⟩
          · rw [if_neg c5] at hf
            refine AW.forget [true, true, false, false] ?_
            show AW Z 0 0 17 [some (.ref 0), some (.int (x1 + 1)), none, none] [] ([kTape 0 (Tape_s_tokens_places_values_tokenCount v0 m_tokens0 m_places1 m_values2 m_tokenCount3)] : List (List zE)).flatten
            exact ih v0 (x1 + 1) m_tokens0 m_places1 m_values2 m_tokenCount3 q hf hk0
          · rw [if_pos c5] at hf
            obtain ⟨q6, h7, hf⟩ := zbind hf
            refine AW.callVc hZ hR hN (c_Tape_scanToken N (Tape_s_tokens_places_values_tokenCount v0 m_tokens0 m_places1 m_values2 m_tokenCount3) x1 q2 q6 h7) zMX7_scanToken_ok rfl rfl zK_BorrowedLives_Tape_45 zV_X7_scanToken rfl [5] [0] [0, 1, 2, 3, 4] rfl rfl rfl (by decide) (by decide) (by omega) (by decide) (Nat.zero_le _) (Nat.zero_le _) rfl rfl rfl rfl rfl ?_
            rintro v cc ⟨rfl, rfl⟩
            refine ⟨_, rfl, rfl, ?_⟩
            show AW Z 0 0 79 [some (.ref 0), some (.int x1), some (.int q2), some (.int 0)] [] ([kTape 0 (Tape_s_tokens_places_values_tokenCount v0 q6.1 q6.2.1 q6.2.2.1 q6.2.2.2)] : List (List zE)).flatten
            refine AW.run hZ hRm [17] 400 ?_
            show AW Z 0 0 17 [some (.ref 0), some (.int (x1 + 1)), some (.int q2), some (.int 0)] [] ([kTape 0 (Tape_s_tokens_places_values_tokenCount v0 q6.1 q6.2.1 q6.2.2.1 q6.2.2.2)] : List (List zE)).flatten
            refine AW.forget [true, true, false, false] ?_
            show AW Z 0 0 17 [some (.ref 0), some (.int (x1 + 1)), none, none] [] ([kTape 0 (Tape_s_tokens_places_values_tokenCount v0 q6.1 q6.2.1 q6.2.2.1 q6.2.2.2)] : List (List zE)).flatten
            exact ih v0 (x1 + 1) q6.1 q6.2.1 q6.2.2.1 q6.2.2.2 q hf hk0
      · rw [if_neg c3] at hf
        refine ⟨fun c8 => ?_, fun c8 => ?_⟩
        · rw [if_pos c8] at hf
          refine ⟨fun c9 => ?_, fun c9 => ?_⟩
          · rw [if_pos c9] at hf
            refine AW.forget [true, true, false, false] ?_
            show AW Z 0 0 17 [some (.ref 0), some (.int (x1 + 1)), none, none] [] ([kTape 0 (Tape_s_tokens_places_values_tokenCount v0 m_tokens0 m_places1 m_values2 m_tokenCount3)] : List (List zE)).flatten
            exact ih v0 (x1 + 1) m_tokens0 m_places1 m_values2 m_tokenCount3 q hf hk0
          · rw [if_neg c9] at hf
            refine ⟨fun c10 => ?_, fun c10 => ?_⟩
            · rw [if_neg c10] at hf
              refine AW.forget [true, true, false, false] ?_
              show AW Z 0 0 17 [some (.ref 0), some (.int (x1 + 1)), none, none] [] ([kTape 0 (Tape_s_tokens_places_values_tokenCount v0 m_tokens0 m_places1 m_values2 m_tokenCount3)] : List (List zE)).flatten
              exact ih v0 (x1 + 1) m_tokens0 m_places1 m_values2 m_tokenCount3 q hf hk0
            · rw [if_pos c10] at hf
              obtain ⟨q11, h12, hf⟩ := zbind hf
              refine AW.callVc hZ hR hN (c_Tape_scanToken N (Tape_s_tokens_places_values_tokenCount v0 m_tokens0 m_places1 m_values2 m_tokenCount3) x1 q2 q11 h12) zMX7_scanToken_ok rfl rfl zK_BorrowedLives_Tape_45 zV_X7_scanToken rfl [5] [0] [0, 1, 2, 3, 4] rfl rfl rfl (by decide) (by decide) (by omega) (by decide) (Nat.zero_le _) (Nat.zero_le _) rfl rfl rfl rfl rfl ?_
              rintro v cc ⟨rfl, rfl⟩
              refine ⟨_, rfl, rfl, ?_⟩
              show AW Z 0 0 79 [some (.ref 0), some (.int x1), some (.int q2), some (.int 0)] [] ([kTape 0 (Tape_s_tokens_places_values_tokenCount v0 q11.1 q11.2.1 q11.2.2.1 q11.2.2.2)] : List (List zE)).flatten
              refine AW.run hZ hRm [17] 400 ?_
              show AW Z 0 0 17 [some (.ref 0), some (.int (x1 + 1)), some (.int q2), some (.int 0)] [] ([kTape 0 (Tape_s_tokens_places_values_tokenCount v0 q11.1 q11.2.1 q11.2.2.1 q11.2.2.2)] : List (List zE)).flatten
              refine AW.forget [true, true, false, false] ?_
              show AW Z 0 0 17 [some (.ref 0), some (.int (x1 + 1)), none, none] [] ([kTape 0 (Tape_s_tokens_places_values_tokenCount v0 q11.1 q11.2.1 q11.2.2.1 q11.2.2.2)] : List (List zE)).flatten
              exact ih v0 (x1 + 1) q11.1 q11.2.1 q11.2.2.1 q11.2.2.2 q hf hk0
        · rw [if_neg c8] at hf
          obtain ⟨b21, hf⟩ := zneed hf
          refine ⟨b21, ?_⟩
          obtain ⟨q13, h20, hf⟩ := zbind hf
          refine AW.callSc hZ hR hN (c_Tape_sortOf N ((Tape_signs v0) (Int32.toNatClampNeg (x1 - 1))) q13 h20) zMX7_sortOf_ok rfl rfl zK_BorrowedLives_Tape_41 zV_X7_sortOf rfl [5] [] [] rfl rfl rfl (by decide) (by decide) (by omega) (by decide) (Nat.zero_le _) (Nat.zero_le _) rfl rfl ?_
          rintro v cc ⟨rfl, rfl⟩
          refine ⟨_, rfl, rfl, ?_⟩
          show AW Z 0 0 55 [some (.ref 0), some (.int x1), some (.int q2), none] [.int q13] ([kTape 0 (Tape_s_tokens_places_values_tokenCount v0 m_tokens0 m_places1 m_values2 m_tokenCount3)] : List (List zE)).flatten
          refine AW.run hZ hRm [56] 400 ?_
          show AW Z 0 0 56 [some (.ref 0), some (.int x1), some (.int q2), none] [.int q2, .int q13] ([kTape 0 (Tape_s_tokens_places_values_tokenCount v0 m_tokens0 m_places1 m_values2 m_tokenCount3)] : List (List zE)).flatten
          suffices H14 : AW Z 0 0 64 [some (.ref 0), some (.int x1), some (.int q2), none] [.int (if (q13 = q2) then 1 else 0)] ([kTape 0 (Tape_s_tokens_places_values_tokenCount v0 m_tokens0 m_places1 m_values2 m_tokenCount3)] : List (List zE)).flatten from by
            refine AW.run hZ hRm [64] 400 ?_
            show ((¬ (q13 = q2) → AW Z 0 0 64 [some (.ref 0), some (.int x1), some (.int q2), none] [.int 0] ([kTape 0 (Tape_s_tokens_places_values_tokenCount v0 m_tokens0 m_places1 m_values2 m_tokenCount3)] : List (List zE)).flatten) ∧ ((q13 = q2) → AW Z 0 0 64 [some (.ref 0), some (.int x1), some (.int q2), none] [.int 1] ([kTape 0 (Tape_s_tokens_places_values_tokenCount v0 m_tokens0 m_places1 m_values2 m_tokenCount3)] : List (List zE)).flatten))
            refine ⟨fun c15 => ?_, fun c15 => ?_⟩
            · simpa only [if_neg c15] using H14
            · simpa only [if_pos c15] using H14
          refine AW.run hZ hRm [17, 76] 400 ?_
          show (((q2 = 0) → AW Z 0 0 17 [some (.ref 0), some (.int (x1 + 1)), some (.int q2), some (.int (if (q13 = q2) then 1 else 0))] [] ([kTape 0 (Tape_s_tokens_places_values_tokenCount v0 m_tokens0 m_places1 m_values2 m_tokenCount3)] : List (List zE)).flatten) ∧ (¬ (q2 = 0) → ((¬ (((if (q13 = q2) then 1 else 0) : Int32) = 0) → AW Z 0 0 17 [some (.ref 0), some (.int (x1 + 1)), some (.int q2), some (.int (if (q13 = q2) then 1 else 0))] [] ([kTape 0 (Tape_s_tokens_places_values_tokenCount v0 m_tokens0 m_places1 m_values2 m_tokenCount3)] : List (List zE)).flatten) ∧ ((((if (q13 = q2) then 1 else 0) : Int32) = 0) → AW Z 0 0 76 [some (.ref 0), some (.int x1), some (.int q2), some (.int (if (q13 = q2) then 1 else 0))] [.int q2, .int x1, .ref 0] ([kTape 0 (Tape_s_tokens_places_values_tokenCount v0 m_tokens0 m_places1 m_values2 m_tokenCount3)] : List (List zE)).flatten))))
          refine ⟨fun c16 => ?_, fun c16 => ?_⟩
          · rw [if_pos c16] at hf
            refine AW.forget [true, true, false, false] ?_
            show AW Z 0 0 17 [some (.ref 0), some (.int (x1 + 1)), none, none] [] ([kTape 0 (Tape_s_tokens_places_values_tokenCount v0 m_tokens0 m_places1 m_values2 m_tokenCount3)] : List (List zE)).flatten
            exact ih v0 (x1 + 1) m_tokens0 m_places1 m_values2 m_tokenCount3 q hf hk0
          · rw [if_neg c16] at hf
            refine ⟨fun c17 => ?_, fun c17 => ?_⟩
            · rw [if_neg c17] at hf
              refine AW.forget [true, true, false, false] ?_
              show AW Z 0 0 17 [some (.ref 0), some (.int (x1 + 1)), none, none] [] ([kTape 0 (Tape_s_tokens_places_values_tokenCount v0 m_tokens0 m_places1 m_values2 m_tokenCount3)] : List (List zE)).flatten
              exact ih v0 (x1 + 1) m_tokens0 m_places1 m_values2 m_tokenCount3 q hf hk0
            · rw [if_pos c17] at hf
              obtain ⟨q18, h19, hf⟩ := zbind hf
              refine AW.callVc hZ hR hN (c_Tape_scanToken N (Tape_s_tokens_places_values_tokenCount v0 m_tokens0 m_places1 m_values2 m_tokenCount3) x1 q2 q18 h19) zMX7_scanToken_ok rfl rfl zK_BorrowedLives_Tape_45 zV_X7_scanToken rfl [5] [0] [0, 1, 2, 3, 4] rfl rfl rfl (by decide) (by decide) (by omega) (by decide) (Nat.zero_le _) (Nat.zero_le _) rfl rfl rfl rfl rfl ?_
              rintro v cc ⟨rfl, rfl⟩
              refine ⟨_, rfl, rfl, ?_⟩
              show AW Z 0 0 79 [some (.ref 0), some (.int x1), some (.int q2), some (.int (if (q13 = q2) then 1 else 0))] [] ([kTape 0 (Tape_s_tokens_places_values_tokenCount v0 q18.1 q18.2.1 q18.2.2.1 q18.2.2.2)] : List (List zE)).flatten
              refine AW.run hZ hRm [17] 400 ?_
              show AW Z 0 0 17 [some (.ref 0), some (.int (x1 + 1)), some (.int q2), some (.int (if (q13 = q2) then 1 else 0))] [] ([kTape 0 (Tape_s_tokens_places_values_tokenCount v0 q18.1 q18.2.1 q18.2.2.1 q18.2.2.2)] : List (List zE)).flatten
              refine AW.forget [true, true, false, false] ?_
              show AW Z 0 0 17 [some (.ref 0), some (.int (x1 + 1)), none, none] [] ([kTape 0 (Tape_s_tokens_places_values_tokenCount v0 q18.1 q18.2.1 q18.2.2.1 q18.2.2.2)] : List (List zE)).flatten
              exact ih v0 (x1 + 1) q18.1 q18.2.1 q18.2.2.1 q18.2.2.2 q hf hk0
set_option maxRecDepth 20000 in
set_option maxHeartbeats 4000000 in
theorem c_Tape_takeAll (N : Nat) (v0 : VTape) (R : Int32 × (Nat → Int32) × (Nat → Int32) × (Nat → Int64) × Int32 × Int32 × Int32) (hf : f_Tape_takeAll N v0 = some R) : Ct zMX7_takeAll 13 0 0 0 [.ref 0] ([kTape 0 v0] : List (List zE)).flatten (fun v cc => v = none ∧ cc = ([kTape 0 (Tape_s_length_tokens_places_values_tokenCount_at_fault v0 R.1 R.2.1 R.2.2.1 R.2.2.2.1 R.2.2.2.2.1 R.2.2.2.2.2.1 R.2.2.2.2.2.2)] : List (List zE)).flatten) := by
  refine Ct.of zMX7_takeAll_ok (by decide) (Nat.le_of_ble_eq_true rfl) ?_
  intro Z hZ hR hN hE
  have hRm : zRoom Z 0 0 := zRoom0 Z
  unfold f_Tape_takeAll at hf
  show AW Z 0 0 0 [some (.ref 0), none, none, none] [] ([kTape 0 v0] : List (List zE)).flatten
  refine AW.run hZ hRm [17] 400 ?_
  show AW Z 0 0 17 [some (.ref 0), some (.int 0), none, none] [] ([kTape 0 (Tape_s_tokenCount_at_fault v0 0 0 0)] : List (List zE)).flatten
  obtain ⟨q24, h25, hf⟩ := zbind hf
  refine c_Tape_takeAll_L17 hZ hR (by omega) hN hRm N N (Tape_s_tokenCount_at_fault v0 0 0 0) 0 (Tape_tokens v0) (Tape_places v0) (Tape_values v0) 0 q24 h25 ?_
  show AW Z 0 0 85 [some (.ref 0), none, none, none] [] ([kTape 0 (Tape_s_tokens_places_values_tokenCount_at_fault v0 q24.1 q24.2.1 q24.2.2.1 q24.2.2.2 0 0)] : List (List zE)).flatten
  refine AW.run hZ hRm [92] 400 ?_
  show AW Z 0 0 92 [some (.ref 0), none, none, none] [.long 0, .int (Tape_length v0), .int 0, .ref 0] ([kTape 0 (Tape_s_tokens_places_values_tokenCount_at_fault v0 q24.1 q24.2.1 q24.2.2.1 q24.2.2.2 0 0)] : List (List zE)).flatten
  obtain ⟨q26, h27, hf⟩ := zbind hf
  refine AW.callVc hZ hR hN (c_Tape_addToken N (Tape_s_tokens_places_values_tokenCount_at_fault v0 q24.1 q24.2.1 q24.2.2.1 q24.2.2.2 0 0) 0 (Tape_length v0) 0 q26 h27) zMX7_addToken_ok rfl rfl zK_BorrowedLives_Tape_49 zV_X7_addToken rfl [5] [0] [0, 1, 2, 3, 4] rfl rfl rfl (by decide) (by decide) (by omega) (by decide) (Nat.zero_le _) (Nat.zero_le _) rfl rfl rfl rfl rfl ?_
  rintro v cc ⟨rfl, rfl⟩
  refine ⟨_, rfl, rfl, ?_⟩
  show AW Z 0 0 95 [some (.ref 0), none, none, none] [] ([kTape 0 (Tape_s_tokens_places_values_tokenCount_at_fault v0 q26.1 q26.2.1 q26.2.2.1 q26.2.2.2 0 0)] : List (List zE)).flatten
  refine AW.run hZ hRm [100] 400 ?_
  show AW Z 0 0 100 [some (.ref 0), none, none, none] [] ([kTape 0 (Tape_s_length_tokens_places_values_tokenCount_at_fault v0 0 q26.1 q26.2.1 q26.2.2.1 q26.2.2.2 0 0)] : List (List zE)).flatten
  cases hf
  exact AW.vret hZ hE rfl rfl rfl (Nat.le_refl 0) (Nat.le_refl 0) rfl ⟨rfl, rfl⟩
def f_Tape_token (N : Nat) (v0 : VTape) : Option (Int32) := (if ((Tape_fault v0) = 0) then (if ((Tape_at v0) < (Tape_tokenCount v0)) then (if ((Tape_at v0) < 0 ∨ 1001 ≤ Int32.toNatClampNeg (Tape_at v0)) then none else (some ((Tape_tokens v0) (Int32.toNatClampNeg (Tape_at v0))))) else (some 4)) else (some 4))
set_option maxRecDepth 20000 in
set_option maxHeartbeats 4000000 in
theorem c_Tape_token (N : Nat) (v0 : VTape) (R : Int32) (hf : f_Tape_token N v0 = some R) : Ct zMX7_token 1 0 0 0 [.ref 0] ([kTape 0 v0] : List (List zE)).flatten (fun v cc => v = some (.int R) ∧ cc = ([kTape 0 v0] : List (List zE)).flatten) := by
  refine Ct.of zMX7_token_ok (by decide) (Nat.le_of_ble_eq_true rfl) ?_
  intro Z hZ hR hN hE
  have hRm : zRoom Z 0 0 := zRoom0 Z
  unfold f_Tape_token at hf
  show AW Z 0 0 0 [some (.ref 0)] [] ([kTape 0 v0] : List (List zE)).flatten
  refine AW.run hZ hRm [31] 400 ?_
  show ((¬ ((Tape_fault v0) = 0) → AW Z 0 0 31 [some (.ref 0)] [.int 4] ([kTape 0 v0] : List (List zE)).flatten) ∧ (((Tape_fault v0) = 0) → ((((Tape_at v0) < (Tape_tokenCount v0)) → (¬ ((Tape_at v0) < 0 ∨ 1001 ≤ Int32.toNatClampNeg (Tape_at v0)) ∧ AW Z 0 0 31 [some (.ref 0)] [.int ((Tape_tokens v0) (Int32.toNatClampNeg (Tape_at v0)))] ([kTape 0 v0] : List (List zE)).flatten)) ∧ (¬ ((Tape_at v0) < (Tape_tokenCount v0)) → AW Z 0 0 31 [some (.ref 0)] [.int 4] ([kTape 0 v0] : List (List zE)).flatten))))
  refine ⟨fun c1 => ?_, fun c1 => ?_⟩
  · rw [if_neg c1] at hf
    cases hf
    exact AW.iret hZ hE rfl rfl rfl rfl (Nat.le_refl 0) (Nat.le_refl 0) rfl ⟨rfl, rfl⟩
  · rw [if_pos c1] at hf
    refine ⟨fun c2 => ?_, fun c2 => ?_⟩
    · rw [if_pos c2] at hf
      obtain ⟨b3, hf⟩ := zneed hf
      refine ⟨b3, ?_⟩
      cases hf
      exact AW.iret hZ hE rfl rfl rfl rfl (Nat.le_refl 0) (Nat.le_refl 0) rfl ⟨rfl, rfl⟩
    · rw [if_neg c2] at hf
      cases hf
      exact AW.iret hZ hE rfl rfl rfl rfl (Nat.le_refl 0) (Nat.le_refl 0) rfl ⟨rfl, rfl⟩
def f_Tape_value (N : Nat) (v0 : VTape) : Option (Int64) := (if ((Tape_tokenCount v0) ≤ (Tape_at v0)) then (some 0) else (if ((Tape_at v0) < 0 ∨ 1001 ≤ Int32.toNatClampNeg (Tape_at v0)) then none else (some ((Tape_values v0) (Int32.toNatClampNeg (Tape_at v0))))))
set_option maxRecDepth 20000 in
set_option maxHeartbeats 4000000 in
theorem c_Tape_value (N : Nat) (v0 : VTape) (R : Int64) (hf : f_Tape_value N v0 = some R) : Ct zMX7_value 1 0 0 0 [.ref 0] ([kTape 0 v0] : List (List zE)).flatten (fun v cc => v = some (.long R) ∧ cc = ([kTape 0 v0] : List (List zE)).flatten) := by
  refine Ct.of zMX7_value_ok (by decide) (Nat.le_of_ble_eq_true rfl) ?_
  intro Z hZ hR hN hE
  have hRm : zRoom Z 0 0 := zRoom0 Z
  unfold f_Tape_value at hf
  show AW Z 0 0 0 [some (.ref 0)] [] ([kTape 0 v0] : List (List zE)).flatten
  refine AW.run hZ hRm [24] 400 ?_
  show ((((Tape_tokenCount v0) ≤ (Tape_at v0)) → AW Z 0 0 24 [some (.ref 0)] [.long 0] ([kTape 0 v0] : List (List zE)).flatten) ∧ (¬ ((Tape_tokenCount v0) ≤ (Tape_at v0)) → (¬ ((Tape_at v0) < 0 ∨ 1001 ≤ Int32.toNatClampNeg (Tape_at v0)) ∧ AW Z 0 0 24 [some (.ref 0)] [.long ((Tape_values v0) (Int32.toNatClampNeg (Tape_at v0)))] ([kTape 0 v0] : List (List zE)).flatten)))
  refine ⟨fun c1 => ?_, fun c1 => ?_⟩
  · rw [if_pos c1] at hf
    cases hf
    exact AW.lret hZ hE rfl rfl rfl (Nat.le_refl 0) (Nat.le_refl 0) rfl ⟨rfl, rfl⟩
  · rw [if_neg c1] at hf
    obtain ⟨b2, hf⟩ := zneed hf
    refine ⟨b2, ?_⟩
    cases hf
    exact AW.lret hZ hE rfl rfl rfl (Nat.le_refl 0) (Nat.le_refl 0) rfl ⟨rfl, rfl⟩
def f_Tape_goesOn (N : Nat) (v0 : VTape) : Option (Int32) := ((f_Tape_token N v0).bind (fun q1 => (if (q1 = 0) then (some 0) else (if (q1 = 4) then (some 0) else (some 1)))))
set_option maxRecDepth 20000 in
set_option maxHeartbeats 4000000 in
theorem c_Tape_goesOn (N : Nat) (v0 : VTape) (R : Int32) (hf : f_Tape_goesOn N v0 = some R) : Ct zMX7_goesOn 2 0 0 0 [.ref 0] ([kTape 0 v0] : List (List zE)).flatten (fun v cc => v = some (.int R) ∧ cc = ([kTape 0 v0] : List (List zE)).flatten) := by
  refine Ct.of zMX7_goesOn_ok (by decide) (Nat.le_of_ble_eq_true rfl) ?_
  intro Z hZ hR hN hE
  have hRm : zRoom Z 0 0 := zRoom0 Z
  unfold f_Tape_goesOn at hf
  show AW Z 0 0 0 [some (.ref 0), none] [] ([kTape 0 v0] : List (List zE)).flatten
  refine AW.run hZ hRm [1] 400 ?_
  show AW Z 0 0 1 [some (.ref 0), none] [.ref 0] ([kTape 0 v0] : List (List zE)).flatten
  obtain ⟨q1, h4, hf⟩ := zbind hf
  refine AW.callVc hZ hR hN (c_Tape_token N v0 q1 h4) zMX7_token_ok rfl rfl zK_BorrowedLives_Tape_82 zV_X7_token rfl [5] [0] [0, 1, 2, 3, 4] rfl rfl rfl (by decide) (by decide) (by omega) (by decide) (Nat.zero_le _) (Nat.zero_le _) rfl rfl rfl rfl rfl ?_
  rintro v cc ⟨rfl, rfl⟩
  refine ⟨_, rfl, rfl, ?_⟩
  show AW Z 0 0 4 [some (.ref 0), none] [.int q1] ([kTape 0 v0] : List (List zE)).flatten
  refine AW.run hZ hRm [19] 400 ?_
  show (((q1 = 0) → AW Z 0 0 19 [some (.ref 0), some (.int q1)] [.int 0] ([kTape 0 v0] : List (List zE)).flatten) ∧ (¬ (q1 = 0) → (((q1 = 4) → AW Z 0 0 19 [some (.ref 0), some (.int q1)] [.int 0] ([kTape 0 v0] : List (List zE)).flatten) ∧ (¬ (q1 = 4) → AW Z 0 0 19 [some (.ref 0), some (.int q1)] [.int 1] ([kTape 0 v0] : List (List zE)).flatten))))
  refine ⟨fun c2 => ?_, fun c2 => ?_⟩
  · rw [if_pos c2] at hf
    cases hf
    exact AW.iret hZ hE rfl rfl rfl rfl (Nat.le_refl 0) (Nat.le_refl 0) rfl ⟨rfl, rfl⟩
  · rw [if_neg c2] at hf
    refine ⟨fun c3 => ?_, fun c3 => ?_⟩
    · rw [if_pos c3] at hf
      cases hf
      exact AW.iret hZ hE rfl rfl rfl rfl (Nat.le_refl 0) (Nat.le_refl 0) rfl ⟨rfl, rfl⟩
    · rw [if_neg c3] at hf
      cases hf
      exact AW.iret hZ hE rfl rfl rfl rfl (Nat.le_refl 0) (Nat.le_refl 0) rfl ⟨rfl, rfl⟩
def f_Tape_advance (N : Nat) (v0 : VTape) : Option (Int32) := (zlet ((if ((Tape_fault v0) = 0) then (if ((Tape_tokenCount v0) ≤ ((Tape_at v0) + 1)) then (Tape_at v0) else ((Tape_at v0) + 1)) else (Tape_at v0)) : Int32) (fun z4 => (some z4)))
set_option maxRecDepth 20000 in
set_option maxHeartbeats 4000000 in
theorem c_Tape_advance (N : Nat) (v0 : VTape) (R : Int32) (hf : f_Tape_advance N v0 = some R) : Ct zMX7_advance 1 0 0 0 [.ref 0] ([kTape 0 v0] : List (List zE)).flatten (fun v cc => v = none ∧ cc = ([kTape 0 (Tape_at_s v0 R)] : List (List zE)).flatten) := by
  refine Ct.of zMX7_advance_ok (by decide) (Nat.le_of_ble_eq_true rfl) ?_
  intro Z hZ hR hN hE
  have hRm : zRoom Z 0 0 := zRoom0 Z
  unfold f_Tape_advance at hf
  show AW Z 0 0 0 [some (.ref 0)] [] ([kTape 0 v0] : List (List zE)).flatten
  refine AW.run hZ hRm [4] 400 ?_
  show AW Z 0 0 4 [some (.ref 0)] [.int (Tape_fault v0)] ([kTape 0 v0] : List (List zE)).flatten
  suffices H1 : AW Z 0 0 30 [none] [] ([kTape 0 (Tape_at_s v0 (if ((Tape_fault v0) = 0) then (if ((Tape_tokenCount v0) ≤ ((Tape_at v0) + 1)) then (Tape_at v0) else ((Tape_at v0) + 1)) else (Tape_at v0)))] : List (List zE)).flatten from by
    refine AW.run hZ hRm [30] 400 ?_
    show ((¬ ((Tape_fault v0) = 0) → AW Z 0 0 30 [some (.ref 0)] [] ([kTape 0 v0] : List (List zE)).flatten) ∧ (((Tape_fault v0) = 0) → ((((Tape_tokenCount v0) ≤ ((Tape_at v0) + 1)) → AW Z 0 0 30 [some (.ref 0)] [] ([kTape 0 v0] : List (List zE)).flatten) ∧ (¬ ((Tape_tokenCount v0) ≤ ((Tape_at v0) + 1)) → AW Z 0 0 30 [some (.ref 0)] [] ([kTape 0 (Tape_at_s v0 ((Tape_at v0) + 1))] : List (List zE)).flatten))))
    refine ⟨fun c2 => ?_, fun c2 => ?_⟩
    · refine AW.forget [false] ?_
      show AW Z 0 0 30 [none] [] ([kTape 0 v0] : List (List zE)).flatten
      show AW Z 0 0 30 [none] [] ([kTape 0 (Tape_at_s v0 (Tape_at v0))] : List (List zE)).flatten
      simpa only [if_neg c2] using H1
    · refine ⟨fun c3 => ?_, fun c3 => ?_⟩
      · refine AW.forget [false] ?_
        show AW Z 0 0 30 [none] [] ([kTape 0 v0] : List (List zE)).flatten
        show AW Z 0 0 30 [none] [] ([kTape 0 (Tape_at_s v0 (Tape_at v0))] : List (List zE)).flatten
        simpa only [if_pos c2, if_pos c3] using H1
      · refine AW.forget [false] ?_
        show AW Z 0 0 30 [none] [] ([kTape 0 (Tape_at_s v0 ((Tape_at v0) + 1))] : List (List zE)).flatten
        simpa only [if_pos c2, if_neg c3] using H1
  replace hf := zlet_gen hf
  generalize ((if ((Tape_fault v0) = 0) then (if ((Tape_tokenCount v0) ≤ ((Tape_at v0) + 1)) then (Tape_at v0) else ((Tape_at v0) + 1)) else (Tape_at v0)) : Int32) = z4 at hf ⊢
  cases hf
  exact AW.vret hZ hE rfl rfl rfl (Nat.le_refl 0) (Nat.le_refl 0) rfl ⟨rfl, rfl⟩
def f_Tape_wrong (N : Nat) (v0 : VTape) (a1 : Int32) : Option (Int32) := (if ((Tape_fault v0) = 0) then (if ((Tape_tokenCount v0) ≤ (Tape_at v0)) then (some (Tape_fault v0)) else (if ((Tape_at v0) < 0 ∨ 1001 ≤ Int32.toNatClampNeg (Tape_at v0)) then none else (some (a1 + (16 * ((Tape_places v0) (Int32.toNatClampNeg (Tape_at v0)))))))) else (some (Tape_fault v0)))
set_option maxRecDepth 20000 in
set_option maxHeartbeats 4000000 in
theorem c_Tape_wrong (N : Nat) (v0 : VTape) (a1 : Int32) (R : Int32) (hf : f_Tape_wrong N v0 a1 = some R) : Ct zMX7_wrong 1 0 0 0 [.ref 0, .int a1] ([kTape 0 v0] : List (List zE)).flatten (fun v cc => v = none ∧ cc = ([kTape 0 (Tape_fault_s v0 R)] : List (List zE)).flatten) := by
  refine Ct.of zMX7_wrong_ok (by decide) (Nat.le_of_ble_eq_true rfl) ?_
  intro Z hZ hR hN hE
  have hRm : zRoom Z 0 0 := zRoom0 Z
  unfold f_Tape_wrong at hf
  show AW Z 0 0 0 [some (.ref 0), some (.int a1)] [] ([kTape 0 v0] : List (List zE)).flatten
  refine AW.run hZ hRm [36] 400 ?_
  show ((¬ ((Tape_fault v0) = 0) → AW Z 0 0 36 [some (.ref 0), some (.int a1)] [] ([kTape 0 v0] : List (List zE)).flatten) ∧ (((Tape_fault v0) = 0) → ((((Tape_tokenCount v0) ≤ (Tape_at v0)) → AW Z 0 0 36 [some (.ref 0), some (.int a1)] [] ([kTape 0 v0] : List (List zE)).flatten) ∧ (¬ ((Tape_tokenCount v0) ≤ (Tape_at v0)) → (¬ ((Tape_at v0) < 0 ∨ 1001 ≤ Int32.toNatClampNeg (Tape_at v0)) ∧ AW Z 0 0 36 [some (.ref 0), some (.int a1)] [] ([kTape 0 (Tape_fault_s v0 (a1 + (16 * ((Tape_places v0) (Int32.toNatClampNeg (Tape_at v0))))))] : List (List zE)).flatten)))))
  refine ⟨fun c1 => ?_, fun c1 => ?_⟩
  · rw [if_neg c1] at hf
    cases hf
    exact AW.vret hZ hE rfl rfl rfl (Nat.le_refl 0) (Nat.le_refl 0) rfl ⟨rfl, rfl⟩
  · rw [if_pos c1] at hf
    refine ⟨fun c2 => ?_, fun c2 => ?_⟩
    · rw [if_pos c2] at hf
      cases hf
      exact AW.vret hZ hE rfl rfl rfl (Nat.le_refl 0) (Nat.le_refl 0) rfl ⟨rfl, rfl⟩
    · rw [if_neg c2] at hf
      obtain ⟨b3, hf⟩ := zneed hf
      refine ⟨b3, ?_⟩
      cases hf
      exact AW.vret hZ hE rfl rfl rfl (Nat.le_refl 0) (Nat.le_refl 0) rfl ⟨rfl, rfl⟩
