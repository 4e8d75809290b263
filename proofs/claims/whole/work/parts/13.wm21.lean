def f_R_rests_L84 (N : Nat) : Nat → VR → Int32 → Int32 → Int32 → Int32 → Int32 → Int32 → Int32 → Int32 → Int32 → Int32 → Int32 → Int32 → Option (Int32)
  | 0, _, _, _, _, _, _, _, _, _, _, _, _, _ => none
  | fuel + 1, v0, y1, y2, y3, y4, y5, y6, y7, y8, y9, y10, x11, x12 => (if (6 ≤ x12) then (some x11) else (if (x11 = 0) then (f_R_rests_L84 N fuel v0 y1 y2 y3 y4 y5 y6 y7 y8 y9 y10 0 (x12 + 1)) else ((f_R_caresFor N y1 y2 y3 x12 y10).bind (fun q7 => ((f_R_caresFor N y1 y2 y3 y9 y10).bind (fun q8 => (if (q8 < q7) then (f_R_rests_L84 N fuel v0 y1 y2 y3 y4 y5 y6 y7 y8 y9 y10 0 (x12 + 1)) else ((f_R_caresFor N y1 y2 y3 x12 y9).bind (fun q10 => ((f_R_caresFor N y1 y2 y3 y10 y9).bind (fun q11 => (f_R_rests_L84 N fuel v0 y1 y2 y3 y4 y5 y6 y7 y8 y9 y10 (if (q11 < q10) then 0 else 1) (x12 + 1)))))))))))))
def f_R_rests_L52 (N : Nat) : Nat → VR → Int32 → Int32 → Int32 → Int32 → Int32 → Int32 → Int32 → Int32 → Option (Int32 × Int32)
  | 0, _, _, _, _, _, _, _, _, _ => none
  | fuel + 1, v0, y1, y2, y3, y4, y5, x6, x7, x8 => (if (36 ≤ x8) then (some (x6, x7)) else (if (y5 = 0) then (some (x6, x7)) else ((f_R_rests_L84 N N v0 y1 y2 y3 y4 y5 x6 x7 x8 (x8 / 6) (x8 - x8 / 6 * 6) 1 0).bind (fun q18 => (zlet ((if (q18 = 0) then x7 else (if (x6 = y4) then ((10 * (x8 / 6)) + (x8 - x8 / 6 * 6)) else x7)) : Int32) (fun z23 => (f_R_rests_L52 N fuel v0 y1 y2 y3 y4 y5 (x6 + (if (q18 = 0) then 0 else 1)) z23 (x8 + 1))))))))
def f_R_rests (N : Nat) (v0 : VR) (a1 : Int32) (a2 : Int32) (a3 : Int32) (a4 : Int32) : Option (Int32 × Int32) := ((f_R_within N a1 0 9).bind (fun q1 => (if (q1 = 0) then ((f_R_rests_L52 N N v0 a1 a2 a3 a4 0 0 (-1) 0).bind (fun q26 => (some (0, 1)))) else ((f_R_within N a2 0 9).bind (fun q28 => (if (q28 = 0) then ((f_R_rests_L52 N N v0 a1 a2 a3 a4 0 0 (-1) 0).bind (fun q30 => (some (0, 1)))) else ((f_R_within N a3 0 9).bind (fun q32 => ((f_R_rests_L52 N N v0 a1 a2 a3 a4 (if (q32 = 0) then 0 else (if (a4 < (-1)) then 0 else 1)) 0 (-1) 0).bind (fun q36 => (zlet ((if (((if (q32 = 0) then 0 else (if (a4 < (-1)) then 0 else 1)) : Int32) = 0) then 1 else (if (a4 < 0) then 0 else (if (q36.2 < 0) then 1 else 0))) : Int32) (fun z42 => (if (z42 ≤ 0) then (if (0 ≤ a4) then (some (q36.2, z42)) else (some (q36.1, z42))) else (some (0, z42)))))))))))))))
set_option maxRecDepth 20000 in
set_option maxHeartbeats 4000000 in
theorem c_R_rests_L84 {Z : zCtx} {D n0w nf mcw msw : Nat} (hZ : zOk Z zMX12_rests) (hR : zCan Z D mcw msw) (hDd : 2 ≤ D) (hN : zNew Z n0w nf) (hRm : zRoom Z 0 0) (N : Nat) : ∀ (fuel : Nat) (v0 : VR) (y1 : Int32) (y2 : Int32) (y3 : Int32) (y4 : Int32) (y5 : Int32) (y6 : Int32) (y7 : Int32) (y8 : Int32) (y9 : Int32) (y10 : Int32) (x11 : Int32) (x12 : Int32) (q : (Int32)), f_R_rests_L84 N fuel v0 y1 y2 y3 y4 y5 y6 y7 y8 y9 y10 x11 x12 = some q → (AW Z 0 0 155 [some (.ref 0), some (.int y1), some (.int y2), some (.int y3), some (.int y4), some (.int y5), some (.int y6), some (.int y7), some (.int y8), some (.int y9), some (.int y10), some (.int q), none] [] ([kR 0 v0] : List (List zE)).flatten) → AW Z 0 0 84 [some (.ref 0), some (.int y1), some (.int y2), some (.int y3), some (.int y4), some (.int y5), some (.int y6), some (.int y7), some (.int y8), some (.int y9), some (.int y10), some (.int x11), some (.int x12)] [] ([kR 0 v0] : List (List zE)).flatten := by
  intro fuel
  induction fuel with
  | zero =>
    intro v0 y1 y2 y3 y4 y5 y6 y7 y8 y9 y10 x11 x12 q hf hk0
    simp [f_R_rests_L84] at hf
  | succ fuel ih =>
    intro v0 y1 y2 y3 y4 y5 y6 y7 y8 y9 y10 x11 x12 q hf hk0
    rw [f_R_rests_L84] at hf
    refine AW.run hZ hRm [84, 103, 155] 400 ?_
    show (((6 ≤ x12) → AW Z 0 0 155 [some (.ref 0), some (.int y1), some (.int y2), some (.int y3), some (.int y4), some (.int y5), some (.int y6), some (.int y7), some (.int y8), some (.int y9), some (.int y10), some (.int x11), some (.int x12)] [] ([kR 0 v0] : List (List zE)).flatten) ∧ (¬ (6 ≤ x12) → (((x11 = 0) → AW Z 0 0 84 [some (.ref 0), some (.int y1), some (.int y2), some (.int y3), some (.int y4), some (.int y5), some (.int y6), some (.int y7), some (.int y8), some (.int y9), some (.int y10), some (.int 0), some (.int (x12 + 1))] [] ([kR 0 v0] : List (List zE)).flatten) ∧ (¬ (x11 = 0) → AW Z 0 0 103 [some (.ref 0), some (.int y1), some (.int y2), some (.int y3), some (.int y4), some (.int y5), some (.int y6), some (.int y7), some (.int y8), some (.int y9), some (.int y10), some (.int x11), some (.int x12)] [.int y10, .int x12, .int y3, .int y2, .int y1] ([kR 0 v0] : List (List zE)).flatten))))
    refine ⟨fun c5 => ?_, fun c5 => ?_⟩
    · rw [if_pos c5] at hf
      cases hf
      refine AW.forget [true, true, true, true, true, true, true, true, true, true, true, true, false] ?_
      show AW Z 0 0 155 [some (.ref 0), some (.int y1), some (.int y2), some (.int y3), some (.int y4), some (.int y5), some (.int y6), some (.int y7), some (.int y8), some (.int y9), some (.int y10), some (.int x11), none] [] ([kR 0 v0] : List (List zE)).flatten
      exact hk0
    · rw [if_neg c5] at hf
      refine ⟨fun c6 => ?_, fun c6 => ?_⟩
      · rw [if_pos c6] at hf
        exact ih v0 y1 y2 y3 y4 y5 y6 y7 y8 y9 y10 0 (x12 + 1) q hf hk0
      · rw [if_neg c6] at hf
        obtain ⟨q7, h17, hf⟩ := zbind hf
        refine AW.callSc hZ hR hN (c_R_caresFor N y1 y2 y3 x12 y10 q7 h17) zMX12_caresFor_ok rfl rfl zK_BorrowedLivesModel_462 zV_X12_caresFor rfl [25] [] [] rfl rfl rfl (by decide) (by decide) (by omega) (by decide) (Nat.zero_le _) (Nat.zero_le _) rfl rfl ?_
        rintro v cc ⟨rfl, rfl⟩
        refine ⟨_, rfl, rfl, ?_⟩
        show AW Z 0 0 106 [some (.ref 0), some (.int y1), some (.int y2), some (.int y3), some (.int y4), some (.int y5), some (.int y6), some (.int y7), some (.int y8), some (.int y9), some (.int y10), some (.int x11), some (.int x12)] [.int q7] ([kR 0 v0] : List (List zE)).flatten
        refine AW.run hZ hRm [113] 400 ?_
        show AW Z 0 0 113 [some (.ref 0), some (.int y1), some (.int y2), some (.int y3), some (.int y4), some (.int y5), some (.int y6), some (.int y7), some (.int y8), some (.int y9), some (.int y10), some (.int x11), some (.int x12)] [.int y10, .int y9, .int y3, .int y2, .int y1, .int q7] ([kR 0 v0] : List (List zE)).flatten
        obtain ⟨q8, h16, hf⟩ := zbind hf
        refine AW.callSc hZ hR hN (c_R_caresFor N y1 y2 y3 y9 y10 q8 h16) zMX12_caresFor_ok rfl rfl zK_BorrowedLivesModel_462 zV_X12_caresFor rfl [25] [] [] rfl rfl rfl (by decide) (by decide) (by omega) (by decide) (Nat.zero_le _) (Nat.zero_le _) rfl rfl ?_
        rintro v cc ⟨rfl, rfl⟩
        refine ⟨_, rfl, rfl, ?_⟩
        show AW Z 0 0 116 [some (.ref 0), some (.int y1), some (.int y2), some (.int y3), some (.int y4), some (.int y5), some (.int y6), some (.int y7), some (.int y8), some (.int y9), some (.int y10), some (.int x11), some (.int x12)] [.int q8, .int q7] ([kR 0 v0] : List (List zE)).flatten
        refine AW.run hZ hRm [84, 126] 400 ?_
        show (((q8 < q7) → AW Z 0 0 84 [some (.ref 0), some (.int y1), some (.int y2), some (.int y3), some (.int y4), some (.int y5), some (.int y6), some (.int y7), some (.int y8), some (.int y9), some (.int y10), some (.int 0), some (.int (x12 + 1))] [] ([kR 0 v0] : List (List zE)).flatten) ∧ (¬ (q8 < q7) → AW Z 0 0 126 [some (.ref 0), some (.int y1), some (.int y2), some (.int y3), some (.int y4), some (.int y5), some (.int y6), some (.int y7), some (.int y8), some (.int y9), some (.int y10), some (.int x11), some (.int x12)] [.int y9, .int x12, .int y3, .int y2, .int y1] ([kR 0 v0] : List (List zE)).flatten))
        refine ⟨fun c9 => ?_, fun c9 => ?_⟩
        · rw [if_pos c9] at hf
          exact ih v0 y1 y2 y3 y4 y5 y6 y7 y8 y9 y10 0 (x12 + 1) q hf hk0
        · rw [if_neg c9] at hf
          obtain ⟨q10, h15, hf⟩ := zbind hf
          refine AW.callSc hZ hR hN (c_R_caresFor N y1 y2 y3 x12 y9 q10 h15) zMX12_caresFor_ok rfl rfl zK_BorrowedLivesModel_462 zV_X12_caresFor rfl [25] [] [] rfl rfl rfl (by decide) (by decide) (by omega) (by decide) (Nat.zero_le _) (Nat.zero_le _) rfl rfl ?_
          rintro v cc ⟨rfl, rfl⟩
          refine ⟨_, rfl, rfl, ?_⟩
          show AW Z 0 0 129 [some (.ref 0), some (.int y1), some (.int y2), some (.int y3), some (.int y4), some (.int y5), some (.int y6), some (.int y7), some (.int y8), some (.int y9), some (.int y10), some (.int x11), some (.int x12)] [.int q10] ([kR 0 v0] : List (List zE)).flatten
          refine AW.run hZ hRm [136] 400 ?_
          show AW Z 0 0 136 [some (.ref 0), some (.int y1), some (.int y2), some (.int y3), some (.int y4), some (.int y5), some (.int y6), some (.int y7), some (.int y8), some (.int y9), some (.int y10), some (.int x11), some (.int x12)] [.int y9, .int y10, .int y3, .int y2, .int y1, .int q10] ([kR 0 v0] : List (List zE)).flatten
          obtain ⟨q11, h14, hf⟩ := zbind hf
          refine AW.callSc hZ hR hN (c_R_caresFor N y1 y2 y3 y10 y9 q11 h14) zMX12_caresFor_ok rfl rfl zK_BorrowedLivesModel_462 zV_X12_caresFor rfl [25] [] [] rfl rfl rfl (by decide) (by decide) (by omega) (by decide) (Nat.zero_le _) (Nat.zero_le _) rfl rfl ?_
          rintro v cc ⟨rfl, rfl⟩
          refine ⟨_, rfl, rfl, ?_⟩
          show AW Z 0 0 139 [some (.ref 0), some (.int y1), some (.int y2), some (.int y3), some (.int y4), some (.int y5), some (.int y6), some (.int y7), some (.int y8), some (.int y9), some (.int y10), some (.int x11), some (.int x12)] [.int q11, .int q10] ([kR 0 v0] : List (List zE)).flatten
          suffices H12 : AW Z 0 0 147 [some (.ref 0), some (.int y1), some (.int y2), some (.int y3), some (.int y4), some (.int y5), some (.int y6), some (.int y7), some (.int y8), some (.int y9), some (.int y10), none, some (.int x12)] [.int (if (q11 < q10) then 0 else 1)] ([kR 0 v0] : List (List zE)).flatten from by
            refine AW.run hZ hRm [147] 400 ?_
            show (((q11 < q10) → AW Z 0 0 147 [some (.ref 0), some (.int y1), some (.int y2), some (.int y3), some (.int y4), some (.int y5), some (.int y6), some (.int y7), some (.int y8), some (.int y9), some (.int y10), some (.int x11), some (.int x12)] [.int 0] ([kR 0 v0] : List (List zE)).flatten) ∧ (¬ (q11 < q10) → AW Z 0 0 147 [some (.ref 0), some (.int y1), some (.int y2), some (.int y3), some (.int y4), some (.int y5), some (.int y6), some (.int y7), some (.int y8), some (.int y9), some (.int y10), some (.int x11), some (.int x12)] [.int 1] ([kR 0 v0] : List (List zE)).flatten))
            refine ⟨fun c13 => ?_, fun c13 => ?_⟩
            · refine AW.forget [true, true, true, true, true, true, true, true, true, true, true, false, true] ?_
              show AW Z 0 0 147 [some (.ref 0), some (.int y1), some (.int y2), some (.int y3), some (.int y4), some (.int y5), some (.int y6), some (.int y7), some (.int y8), some (.int y9), some (.int y10), none, some (.int x12)] [.int 0] ([kR 0 v0] : List (List zE)).flatten
              simpa only [if_pos c13] using H12
            · refine AW.forget [true, true, true, true, true, true, true, true, true, true, true, false, true] ?_
              show AW Z 0 0 147 [some (.ref 0), some (.int y1), some (.int y2), some (.int y3), some (.int y4), some (.int y5), some (.int y6), some (.int y7), some (.int y8), some (.int y9), some (.int y10), none, some (.int x12)] [.int 1] ([kR 0 v0] : List (List zE)).flatten
              simpa only [if_neg c13] using H12
          refine AW.run hZ hRm [84] 400 ?_
          show AW Z 0 0 84 [some (.ref 0), some (.int y1), some (.int y2), some (.int y3), some (.int y4), some (.int y5), some (.int y6), some (.int y7), some (.int y8), some (.int y9), some (.int y10), some (.int (if (q11 < q10) then 0 else 1)), some (.int (x12 + 1))] [] ([kR 0 v0] : List (List zE)).flatten
          exact ih v0 y1 y2 y3 y4 y5 y6 y7 y8 y9 y10 (if (q11 < q10) then 0 else 1) (x12 + 1) q hf hk0
set_option maxRecDepth 20000 in
set_option maxHeartbeats 4000000 in
theorem c_R_rests_L52 {Z : zCtx} {D n0w nf mcw msw : Nat} (hZ : zOk Z zMX12_rests) (hR : zCan Z D mcw msw) (hDd : 2 ≤ D) (hN : zNew Z n0w nf) (hRm : zRoom Z 0 0) (N : Nat) : ∀ (fuel : Nat) (v0 : VR) (y1 : Int32) (y2 : Int32) (y3 : Int32) (y4 : Int32) (y5 : Int32) (x6 : Int32) (x7 : Int32) (x8 : Int32) (q : (Int32 × Int32)), f_R_rests_L52 N fuel v0 y1 y2 y3 y4 y5 x6 x7 x8 = some q → (AW Z 0 0 203 [some (.ref 0), none, none, none, some (.int y4), some (.int y5), some (.int q.1), some (.int q.2), none, none, none, none, none] [] ([kR 0 v0] : List (List zE)).flatten) → AW Z 0 0 52 [some (.ref 0), some (.int y1), some (.int y2), some (.int y3), some (.int y4), some (.int y5), some (.int x6), some (.int x7), some (.int x8), none, none, none, none] [] ([kR 0 v0] : List (List zE)).flatten := by
  intro fuel
  induction fuel with
  | zero =>
    intro v0 y1 y2 y3 y4 y5 x6 x7 x8 q hf hk0
    simp [f_R_rests_L52] at hf
  | succ fuel ih =>
    intro v0 y1 y2 y3 y4 y5 x6 x7 x8 q hf hk0
    rw [f_R_rests_L52] at hf
    refine AW.run hZ hRm [84, 203] 400 ?_
    show (((36 ≤ x8) → AW Z 0 0 203 [some (.ref 0), some (.int y1), some (.int y2), some (.int y3), some (.int y4), some (.int y5), some (.int x6), some (.int x7), some (.int x8), none, none, none, none] [] ([kR 0 v0] : List (List zE)).flatten) ∧ (¬ (36 ≤ x8) → (((y5 = 0) → AW Z 0 0 203 [some (.ref 0), some (.int y1), some (.int y2), some (.int y3), some (.int y4), some (.int y5), some (.int x6), some (.int x7), some (.int x8), none, none, none, none] [] ([kR 0 v0] : List (List zE)).flatten) ∧ (¬ (y5 = 0) → (¬ ((6 : Int32) = 0) ∧ (¬ ((6 : Int32) = 0) ∧ AW Z 0 0 84 [some (.ref 0), some (.int y1), some (.int y2), some (.int y3), some (.int y4), some (.int y5), some (.int x6), some (.int x7), some (.int x8), some (.int (x8 / 6)), some (.int (x8 - x8 / 6 * 6)), some (.int 1), some (.int 0)] [] ([kR 0 v0] : List (List zE)).flatten))))))
    refine ⟨fun c3 => ?_, fun c3 => ?_⟩
    · rw [if_pos c3] at hf
      cases hf
      refine AW.forget [true, false, false, false, true, true, true, true, false, false, false, false, false] ?_
      show AW Z 0 0 203 [some (.ref 0), none, none, none, some (.int y4), some (.int y5), some (.int x6), some (.int x7), none, none, none, none, none] [] ([kR 0 v0] : List (List zE)).flatten
      exact hk0
    · rw [if_neg c3] at hf
      refine ⟨fun c4 => ?_, fun c4 => ?_⟩
      · rw [if_pos c4] at hf
        cases hf
        refine AW.forget [true, false, false, false, true, true, true, true, false, false, false, false, false] ?_
        show AW Z 0 0 203 [some (.ref 0), none, none, none, some (.int y4), some (.int y5), some (.int x6), some (.int x7), none, none, none, none, none] [] ([kR 0 v0] : List (List zE)).flatten
        exact hk0
      · rw [if_neg c4] at hf
        refine ⟨(by decide), ?_⟩
        refine ⟨(by decide), ?_⟩
        obtain ⟨q18, h19, hf⟩ := zbind hf
        refine c_R_rests_L84 hZ hR (by omega) hN hRm N N v0 y1 y2 y3 y4 y5 x6 x7 x8 (x8 / 6) (x8 - x8 / 6 * 6) 1 0 q18 h19 ?_
        show AW Z 0 0 155 [some (.ref 0), some (.int y1), some (.int y2), some (.int y3), some (.int y4), some (.int y5), some (.int x6), some (.int x7), some (.int x8), some (.int (x8 / 6)), some (.int (x8 - x8 / 6 * 6)), some (.int q18), none] [] ([kR 0 v0] : List (List zE)).flatten
        refine AW.run hZ hRm [157] 400 ?_
        show AW Z 0 0 157 [some (.ref 0), some (.int y1), some (.int y2), some (.int y3), some (.int y4), some (.int y5), some (.int x6), some (.int x7), some (.int x8), some (.int (x8 / 6)), some (.int (x8 - x8 / 6 * 6)), some (.int q18), none] [.int q18] ([kR 0 v0] : List (List zE)).flatten
        suffices H20 : AW Z 0 0 180 [some (.ref 0), some (.int y1), some (.int y2), some (.int y3), some (.int y4), some (.int y5), some (.int x6), none, some (.int x8), none, none, some (.int q18), none] [.int (if (q18 = 0) then x7 else (if (x6 = y4) then ((10 * (x8 / 6)) + (x8 - x8 / 6 * 6)) else x7))] ([kR 0 v0] : List (List zE)).flatten from by
          refine AW.run hZ hRm [180] 400 ?_
          show (((q18 = 0) → AW Z 0 0 180 [some (.ref 0), some (.int y1), some (.int y2), some (.int y3), some (.int y4), some (.int y5), some (.int x6), some (.int x7), some (.int x8), some (.int (x8 / 6)), some (.int (x8 - x8 / 6 * 6)), some (.int q18), none] [.int x7] ([kR 0 v0] : List (List zE)).flatten) ∧ (¬ (q18 = 0) → ((¬ (x6 = y4) → AW Z 0 0 180 [some (.ref 0), some (.int y1), some (.int y2), some (.int y3), some (.int y4), some (.int y5), some (.int x6), some (.int x7), some (.int x8), some (.int (x8 / 6)), some (.int (x8 - x8 / 6 * 6)), some (.int q18), none] [.int x7] ([kR 0 v0] : List (List zE)).flatten) ∧ ((x6 = y4) → AW Z 0 0 180 [some (.ref 0), some (.int y1), some (.int y2), some (.int y3), some (.int y4), some (.int y5), some (.int x6), some (.int x7), some (.int x8), some (.int (x8 / 6)), some (.int (x8 - x8 / 6 * 6)), some (.int q18), none] [.int ((10 * (x8 / 6)) + (x8 - x8 / 6 * 6))] ([kR 0 v0] : List (List zE)).flatten))))
          refine ⟨fun c21 => ?_, fun c21 => ?_⟩
          · refine AW.forget [true, true, true, true, true, true, true, false, true, false, false, true, false] ?_
            show AW Z 0 0 180 [some (.ref 0), some (.int y1), some (.int y2), some (.int y3), some (.int y4), some (.int y5), some (.int x6), none, some (.int x8), none, none, some (.int q18), none] [.int x7] ([kR 0 v0] : List (List zE)).flatten
            simpa only [if_pos c21] using H20
          · refine ⟨fun c22 => ?_, fun c22 => ?_⟩
            · refine AW.forget [true, true, true, true, true, true, true, false, true, false, false, true, false] ?_
              show AW Z 0 0 180 [some (.ref 0), some (.int y1), some (.int y2), some (.int y3), some (.int y4), some (.int y5), some (.int x6), none, some (.int x8), none, none, some (.int q18), none] [.int x7] ([kR 0 v0] : List (List zE)).flatten
              simpa only [if_neg c21, if_neg c22] using H20
            · refine AW.forget [true, true, true, true, true, true, true, false, true, false, false, true, false] ?_
              show AW Z 0 0 180 [some (.ref 0), some (.int y1), some (.int y2), some (.int y3), some (.int y4), some (.int y5), some (.int x6), none, some (.int x8), none, none, some (.int q18), none] [.int ((10 * (x8 / 6)) + (x8 - x8 / 6 * 6))] ([kR 0 v0] : List (List zE)).flatten
              simpa only [if_neg c21, if_pos c22] using H20
        replace hf := zlet_gen hf
        generalize ((if (q18 = 0) then x7 else (if (x6 = y4) then ((10 * (x8 / 6)) + (x8 - x8 / 6 * 6)) else x7)) : Int32) = z23 at hf ⊢
        refine AW.run hZ hRm [186] 400 ?_
        show AW Z 0 0 186 [some (.ref 0), some (.int y1), some (.int y2), some (.int y3), some (.int y4), some (.int y5), some (.int x6), some (.int z23), some (.int x8), none, none, some (.int q18), none] [.int q18, .int x6] ([kR 0 v0] : List (List zE)).flatten
        suffices H24 : AW Z 0 0 194 [some (.ref 0), some (.int y1), some (.int y2), some (.int y3), some (.int y4), some (.int y5), none, some (.int z23), some (.int x8), none, none, none, none] [.int (if (q18 = 0) then 0 else 1), .int x6] ([kR 0 v0] : List (List zE)).flatten from by
          refine AW.run hZ hRm [194] 400 ?_
          show (((q18 = 0) → AW Z 0 0 194 [some (.ref 0), some (.int y1), some (.int y2), some (.int y3), some (.int y4), some (.int y5), some (.int x6), some (.int z23), some (.int x8), none, none, some (.int q18), none] [.int 0, .int x6] ([kR 0 v0] : List (List zE)).flatten) ∧ (¬ (q18 = 0) → AW Z 0 0 194 [some (.ref 0), some (.int y1), some (.int y2), some (.int y3), some (.int y4), some (.int y5), some (.int x6), some (.int z23), some (.int x8), none, none, some (.int q18), none] [.int 1, .int x6] ([kR 0 v0] : List (List zE)).flatten))
          refine ⟨fun c25 => ?_, fun c25 => ?_⟩
          · refine AW.forget [true, true, true, true, true, true, false, true, true, false, false, false, false] ?_
            show AW Z 0 0 194 [some (.ref 0), some (.int y1), some (.int y2), some (.int y3), some (.int y4), some (.int y5), none, some (.int z23), some (.int x8), none, none, none, none] [.int 0, .int x6] ([kR 0 v0] : List (List zE)).flatten
            simpa only [if_pos c25] using H24
          · refine AW.forget [true, true, true, true, true, true, false, true, true, false, false, false, false] ?_
            show AW Z 0 0 194 [some (.ref 0), some (.int y1), some (.int y2), some (.int y3), some (.int y4), some (.int y5), none, some (.int z23), some (.int x8), none, none, none, none] [.int 1, .int x6] ([kR 0 v0] : List (List zE)).flatten
            simpa only [if_neg c25] using H24
        refine AW.run hZ hRm [52] 400 ?_
        show AW Z 0 0 52 [some (.ref 0), some (.int y1), some (.int y2), some (.int y3), some (.int y4), some (.int y5), some (.int (x6 + (if (q18 = 0) then 0 else 1))), some (.int z23), some (.int (x8 + 1)), none, none, none, none] [] ([kR 0 v0] : List (List zE)).flatten
        exact ih v0 y1 y2 y3 y4 y5 (x6 + (if (q18 = 0) then 0 else 1)) z23 (x8 + 1) q hf hk0
set_option maxRecDepth 20000 in
set_option maxHeartbeats 4000000 in
theorem c_R_rests (N : Nat) (v0 : VR) (a1 : Int32) (a2 : Int32) (a3 : Int32) (a4 : Int32) (R : Int32 × Int32) (hf : f_R_rests N v0 a1 a2 a3 a4 = some R) : Ct zMX12_rests 2 0 0 0 [.ref 0, .int a1, .int a2, .int a3, .int a4] ([kR 0 v0] : List (List zE)).flatten (fun v cc => v = some (.int R.1) ∧ cc = ([kR 0 (R_thrown_s v0 R.2)] : List (List zE)).flatten) := by
  refine Ct.of zMX12_rests_ok (by decide) (Nat.le_of_ble_eq_true rfl) ?_
  intro Z hZ hR hN hE
  have hRm : zRoom Z 0 0 := zRoom0 Z
  unfold f_R_rests at hf
  show AW Z 0 0 0 [some (.ref 0), some (.int a1), some (.int a2), some (.int a3), some (.int a4), none, none, none, none, none, none, none, none] [] ([kR 0 v0] : List (List zE)).flatten
  refine AW.run hZ hRm [4] 400 ?_
  show AW Z 0 0 4 [some (.ref 0), some (.int a1), some (.int a2), some (.int a3), some (.int a4), none, none, none, none, none, none, none, none] [.int 9, .int 0, .int a1] ([kR 0 v0] : List (List zE)).flatten
  obtain ⟨q1, h47, hf⟩ := zbind hf
  refine AW.callSc hZ hR hN (c_R_within N a1 0 9 q1 h47) zMX12_within_ok rfl rfl zK_BorrowedLivesModel_359 zV_X12_within rfl [25] [] [] rfl rfl rfl (by decide) (by decide) (by omega) (by decide) (Nat.zero_le _) (Nat.zero_le _) rfl rfl ?_
  rintro v cc ⟨rfl, rfl⟩
  refine ⟨_, rfl, rfl, ?_⟩
  show AW Z 0 0 7 [some (.ref 0), some (.int a1), some (.int a2), some (.int a3), some (.int a4), none, none, none, none, none, none, none, none] [.int q1] ([kR 0 v0] : List (List zE)).flatten
  refine AW.run hZ hRm [14, 52] 400 ?_
  show (((q1 = 0) → AW Z 0 0 52 [some (.ref 0), some (.int a1), some (.int a2), some (.int a3), some (.int a4), some (.int 0), some (.int 0), some (.int (-1)), some (.int 0), none, none, none, none] [] ([kR 0 v0] : List (List zE)).flatten) ∧ (¬ (q1 = 0) → AW Z 0 0 14 [some (.ref 0), some (.int a1), some (.int a2), some (.int a3), some (.int a4), none, none, none, none, none, none, none, none] [.int 9, .int 0, .int a2] ([kR 0 v0] : List (List zE)).flatten))
  refine ⟨fun c2 => ?_, fun c2 => ?_⟩
  · rw [if_pos c2] at hf
    obtain ⟨q26, h27, hf⟩ := zbind hf
    refine c_R_rests_L52 hZ hR (by omega) hN hRm N N v0 a1 a2 a3 a4 0 0 (-1) 0 q26 h27 ?_
    show AW Z 0 0 203 [some (.ref 0), none, none, none, some (.int a4), some (.int 0), some (.int q26.1), some (.int q26.2), none, none, none, none, none] [] ([kR 0 v0] : List (List zE)).flatten
    refine AW.run hZ hRm [211, 250] 400 ?_
    show ((((0 : Int32) = 0) → ((((1 : Int32) ≤ 0) → (((0 ≤ a4) → AW Z 0 0 250 [some (.ref 0), none, none, none, some (.int a4), some (.int 0), some (.int q26.1), some (.int q26.2), none, none, none, none, none] [.int q26.2] ([kR 0 (R_thrown_s v0 1)] : List (List zE)).flatten) ∧ (¬ (0 ≤ a4) → AW Z 0 0 250 [some (.ref 0), none, none, none, some (.int a4), some (.int 0), some (.int q26.1), some (.int q26.2), none, none, none, none, none] [.int q26.1] ([kR 0 (R_thrown_s v0 1)] : List (List zE)).flatten))) ∧ (¬ ((1 : Int32) ≤ 0) → AW Z 0 0 250 [some (.ref 0), none, none, none, some (.int a4), some (.int 0), some (.int q26.1), some (.int q26.2), none, none, none, none, none] [.int 0] ([kR 0 (R_thrown_s v0 1)] : List (List zE)).flatten))) ∧ (¬ ((0 : Int32) = 0) → AW Z 0 0 211 [some (.ref 0), none, none, none, some (.int a4), some (.int 0), some (.int q26.1), some (.int q26.2), none, none, none, none, none] [.int a4, .ref 0] ([kR 0 v0] : List (List zE)).flatten))
    refine ⟨fun _ => ?_, fun h => absurd h (by decide)⟩
    refine ⟨fun h => absurd h (by decide), fun _ => ?_⟩
    cases hf
    exact AW.iret hZ hE rfl rfl rfl rfl (Nat.le_refl 0) (Nat.le_refl 0) rfl ⟨rfl, rfl⟩
  · rw [if_neg c2] at hf
    obtain ⟨q28, h46, hf⟩ := zbind hf
    refine AW.callSc hZ hR hN (c_R_within N a2 0 9 q28 h46) zMX12_within_ok rfl rfl zK_BorrowedLivesModel_359 zV_X12_within rfl [25] [] [] rfl rfl rfl (by decide) (by decide) (by omega) (by decide) (Nat.zero_le _) (Nat.zero_le _) rfl rfl ?_
    rintro v cc ⟨rfl, rfl⟩
    refine ⟨_, rfl, rfl, ?_⟩
    show AW Z 0 0 17 [some (.ref 0), some (.int a1), some (.int a2), some (.int a3), some (.int a4), none, none, none, none, none, none, none, none] [.int q28] ([kR 0 v0] : List (List zE)).flatten
    refine AW.run hZ hRm [24, 52] 400 ?_
    show (((q28 = 0) → AW Z 0 0 52 [some (.ref 0), some (.int a1), some (.int a2), some (.int a3), some (.int a4), some (.int 0), some (.int 0), some (.int (-1)), some (.int 0), none, none, none, none] [] ([kR 0 v0] : List (List zE)).flatten) ∧ (¬ (q28 = 0) → AW Z 0 0 24 [some (.ref 0), some (.int a1), some (.int a2), some (.int a3), some (.int a4), none, none, none, none, none, none, none, none] [.int 9, .int 0, .int a3] ([kR 0 v0] : List (List zE)).flatten))
    refine ⟨fun c29 => ?_, fun c29 => ?_⟩
    · rw [if_pos c29] at hf
      obtain ⟨q30, h31, hf⟩ := zbind hf
      refine c_R_rests_L52 hZ hR (by omega) hN hRm N N v0 a1 a2 a3 a4 0 0 (-1) 0 q30 h31 ?_
      show AW Z 0 0 203 [some (.ref 0), none, none, none, some (.int a4), some (.int 0), some (.int q30.1), some (.int q30.2), none, none, none, none, none] [] ([kR 0 v0] : List (List zE)).flatten
      refine AW.run hZ hRm [211, 250] 400 ?_
      show ((((0 : Int32) = 0) → ((((1 : Int32) ≤ 0) → (((0 ≤ a4) → AW Z 0 0 250 [some (.ref 0), none, none, none, some (.int a4), some (.int 0), some (.int q30.1), some (.int q30.2), none, none, none, none, none] [.int q30.2] ([kR 0 (R_thrown_s v0 1)] : List (List zE)).flatten) ∧ (¬ (0 ≤ a4) → AW Z 0 0 250 [some (.ref 0), none, none, none, some (.int a4), some (.int 0), some (.int q30.1), some (.int q30.2), none, none, none, none, none] [.int q30.1] ([kR 0 (R_thrown_s v0 1)] : List (List zE)).flatten))) ∧ (¬ ((1 : Int32) ≤ 0) → AW Z 0 0 250 [some (.ref 0), none, none, none, some (.int a4), some (.int 0), some (.int q30.1), some (.int q30.2), none, none, none, none, none] [.int 0] ([kR 0 (R_thrown_s v0 1)] : List (List zE)).flatten))) ∧ (¬ ((0 : Int32) = 0) → AW Z 0 0 211 [some (.ref 0), none, none, none, some (.int a4), some (.int 0), some (.int q30.1), some (.int q30.2), none, none, none, none, none] [.int a4, .ref 0] ([kR 0 v0] : List (List zE)).flatten))
      refine ⟨fun _ => ?_, fun h => absurd h (by decide)⟩
      refine ⟨fun h => absurd h (by decide), fun _ => ?_⟩
      cases hf
      exact AW.iret hZ hE rfl rfl rfl rfl (Nat.le_refl 0) (Nat.le_refl 0) rfl ⟨rfl, rfl⟩
    · rw [if_neg c29] at hf
      obtain ⟨q32, h45, hf⟩ := zbind hf
      refine AW.callSc hZ hR hN (c_R_within N a3 0 9 q32 h45) zMX12_within_ok rfl rfl zK_BorrowedLivesModel_359 zV_X12_within rfl [25] [] [] rfl rfl rfl (by decide) (by decide) (by omega) (by decide) (Nat.zero_le _) (Nat.zero_le _) rfl rfl ?_
      rintro v cc ⟨rfl, rfl⟩
      refine ⟨_, rfl, rfl, ?_⟩
      show AW Z 0 0 27 [some (.ref 0), some (.int a1), some (.int a2), some (.int a3), some (.int a4), none, none, none, none, none, none, none, none] [.int q32] ([kR 0 v0] : List (List zE)).flatten
      suffices H33 : AW Z 0 0 41 [some (.ref 0), some (.int a1), some (.int a2), some (.int a3), some (.int a4), none, none, none, none, none, none, none, none] [.int (if (q32 = 0) then 0 else (if (a4 < (-1)) then 0 else 1))] ([kR 0 v0] : List (List zE)).flatten from by
        refine AW.run hZ hRm [41] 400 ?_
        show (((q32 = 0) → AW Z 0 0 41 [some (.ref 0), some (.int a1), some (.int a2), some (.int a3), some (.int a4), none, none, none, none, none, none, none, none] [.int 0] ([kR 0 v0] : List (List zE)).flatten) ∧ (¬ (q32 = 0) → (((a4 < (-1)) → AW Z 0 0 41 [some (.ref 0), some (.int a1), some (.int a2), some (.int a3), some (.int a4), none, none, none, none, none, none, none, none] [.int 0] ([kR 0 v0] : List (List zE)).flatten) ∧ (¬ (a4 < (-1)) → AW Z 0 0 41 [some (.ref 0), some (.int a1), some (.int a2), some (.int a3), some (.int a4), none, none, none, none, none, none, none, none] [.int 1] ([kR 0 v0] : List (List zE)).flatten))))
        refine ⟨fun c34 => ?_, fun c34 => ?_⟩
        · simpa only [if_pos c34] using H33
        · refine ⟨fun c35 => ?_, fun c35 => ?_⟩
          · simpa only [if_neg c34, if_pos c35] using H33
          · simpa only [if_neg c34, if_neg c35] using H33
      refine AW.run hZ hRm [52] 400 ?_
      show AW Z 0 0 52 [some (.ref 0), some (.int a1), some (.int a2), some (.int a3), some (.int a4), some (.int (if (q32 = 0) then 0 else (if (a4 < (-1)) then 0 else 1))), some (.int 0), some (.int (-1)), some (.int 0), none, none, none, none] [] ([kR 0 v0] : List (List zE)).flatten
      obtain ⟨q36, h37, hf⟩ := zbind hf
      refine c_R_rests_L52 hZ hR (by omega) hN hRm N N v0 a1 a2 a3 a4 (if (q32 = 0) then 0 else (if (a4 < (-1)) then 0 else 1)) 0 (-1) 0 q36 h37 ?_
      show AW Z 0 0 203 [some (.ref 0), none, none, none, some (.int a4), some (.int (if (q32 = 0) then 0 else (if (a4 < (-1)) then 0 else 1))), some (.int q36.1), some (.int q36.2), none, none, none, none, none] [] ([kR 0 v0] : List (List zE)).flatten
      refine AW.run hZ hRm [206] 400 ?_
      show AW Z 0 0 206 [some (.ref 0), none, none, none, some (.int a4), some (.int (if (q32 = 0) then 0 else (if (a4 < (-1)) then 0 else 1))), some (.int q36.1), some (.int q36.2), none, none, none, none, none] [.int (if (q32 = 0) then 0 else (if (a4 < (-1)) then 0 else 1)), .ref 0] ([kR 0 v0] : List (List zE)).flatten
      suffices H38 : AW Z 0 0 224 [some (.ref 0), none, none, none, some (.int a4), none, some (.int q36.1), some (.int q36.2), none, none, none, none, none] [.int (if (((if (q32 = 0) then 0 else (if (a4 < (-1)) then 0 else 1)) : Int32) = 0) then 1 else (if (a4 < 0) then 0 else (if (q36.2 < 0) then 1 else 0))), .ref 0] ([kR 0 v0] : List (List zE)).flatten from by
        refine AW.run hZ hRm [224] 400 ?_
        show (((((if (q32 = 0) then 0 else (if (a4 < (-1)) then 0 else 1)) : Int32) = 0) → AW Z 0 0 224 [some (.ref 0), none, none, none, some (.int a4), some (.int (if (q32 = 0) then 0 else (if (a4 < (-1)) then 0 else 1))), some (.int q36.1), some (.int q36.2), none, none, none, none, none] [.int 1, .ref 0] ([kR 0 v0] : List (List zE)).flatten) ∧ (¬ (((if (q32 = 0) then 0 else (if (a4 < (-1)) then 0 else 1)) : Int32) = 0) → (((a4 < 0) → AW Z 0 0 224 [some (.ref 0), none, none, none, some (.int a4), some (.int (if (q32 = 0) then 0 else (if (a4 < (-1)) then 0 else 1))), some (.int q36.1), some (.int q36.2), none, none, none, none, none] [.int 0, .ref 0] ([kR 0 v0] : List (List zE)).flatten) ∧ (¬ (a4 < 0) → (((q36.2 < 0) → AW Z 0 0 224 [some (.ref 0), none, none, none, some (.int a4), some (.int (if (q32 = 0) then 0 else (if (a4 < (-1)) then 0 else 1))), some (.int q36.1), some (.int q36.2), none, none, none, none, none] [.int 1, .ref 0] ([kR 0 v0] : List (List zE)).flatten) ∧ (¬ (q36.2 < 0) → AW Z 0 0 224 [some (.ref 0), none, none, none, some (.int a4), some (.int (if (q32 = 0) then 0 else (if (a4 < (-1)) then 0 else 1))), some (.int q36.1), some (.int q36.2), none, none, none, none, none] [.int 0, .ref 0] ([kR 0 v0] : List (List zE)).flatten))))))
        refine ⟨fun c39 => ?_, fun c39 => ?_⟩
        · refine AW.forget [true, false, false, false, true, false, true, true, false, false, false, false, false] ?_
          show AW Z 0 0 224 [some (.ref 0), none, none, none, some (.int a4), none, some (.int q36.1), some (.int q36.2), none, none, none, none, none] [.int 1, .ref 0] ([kR 0 v0] : List (List zE)).flatten
          simpa only [if_pos c39] using H38
        · refine ⟨fun c40 => ?_, fun c40 => ?_⟩
          · refine AW.forget [true, false, false, false, true, false, true, true, false, false, false, false, false] ?_
            show AW Z 0 0 224 [some (.ref 0), none, none, none, some (.int a4), none, some (.int q36.1), some (.int q36.2), none, none, none, none, none] [.int 0, .ref 0] ([kR 0 v0] : List (List zE)).flatten
            simpa only [if_neg c39, if_pos c40] using H38
          · refine ⟨fun c41 => ?_, fun c41 => ?_⟩
            · refine AW.forget [true, false, false, false, true, false, true, true, false, false, false, false, false] ?_
              show AW Z 0 0 224 [some (.ref 0), none, none, none, some (.int a4), none, some (.int q36.1), some (.int q36.2), none, none, none, none, none] [.int 1, .ref 0] ([kR 0 v0] : List (List zE)).flatten
              simpa only [if_neg c39, if_neg c40, if_pos c41] using H38
            · refine AW.forget [true, false, false, false, true, false, true, true, false, false, false, false, false] ?_
              show AW Z 0 0 224 [some (.ref 0), none, none, none, some (.int a4), none, some (.int q36.1), some (.int q36.2), none, none, none, none, none] [.int 0, .ref 0] ([kR 0 v0] : List (List zE)).flatten
              simpa only [if_neg c39, if_neg c40, if_neg c41] using H38
      replace hf := zlet_gen hf
      generalize ((if (((if (q32 = 0) then 0 else (if (a4 < (-1)) then 0 else 1)) : Int32) = 0) then 1 else (if (a4 < 0) then 0 else (if (q36.2 < 0) then 1 else 0))) : Int32) = z42 at hf ⊢
      refine AW.run hZ hRm [250] 400 ?_
      show (((z42 ≤ 0) → (((0 ≤ a4) → AW Z 0 0 250 [some (.ref 0), none, none, none, some (.int a4), none, some (.int q36.1), some (.int q36.2), none, none, none, none, none] [.int q36.2] ([kR 0 (R_thrown_s v0 z42)] : List (List zE)).flatten) ∧ (¬ (0 ≤ a4) → AW Z 0 0 250 [some (.ref 0), none, none, none, some (.int a4), none, some (.int q36.1), some (.int q36.2), none, none, none, none, none] [.int q36.1] ([kR 0 (R_thrown_s v0 z42)] : List (List zE)).flatten))) ∧ (¬ (z42 ≤ 0) → AW Z 0 0 250 [some (.ref 0), none, none, none, some (.int a4), none, some (.int q36.1), some (.int q36.2), none, none, none, none, none] [.int 0] ([kR 0 (R_thrown_s v0 z42)] : List (List zE)).flatten))
      refine ⟨fun c43 => ?_, fun c43 => ?_⟩
      · rw [if_pos c43] at hf
        refine ⟨fun c44 => ?_, fun c44 => ?_⟩
        · rw [if_pos c44] at hf
          cases hf
          exact AW.iret hZ hE rfl rfl rfl rfl (Nat.le_refl 0) (Nat.le_refl 0) rfl ⟨rfl, rfl⟩
        · rw [if_neg c44] at hf
          cases hf
          exact AW.iret hZ hE rfl rfl rfl rfl (Nat.le_refl 0) (Nat.le_refl 0) rfl ⟨rfl, rfl⟩
      · rw [if_neg c43] at hf
        cases hf
        exact AW.iret hZ hE rfl rfl rfl rfl (Nat.le_refl 0) (Nat.le_refl 0) rfl ⟨rfl, rfl⟩
def f_R_pursesOf_L4 (N : Nat) : Nat → VR → Int32 → Int32 → Int32 → Option (Int32)
  | 0, _, _, _, _ => none
  | fuel + 1, v0, y1, x2, x3 => ((f_R_people N v0).bind (fun q1 => (if (q1 ≤ x3) then (some x2) else (if (((y1 + 4) + x3) < 0 ∨ 1656 ≤ Int32.toNatClampNeg ((y1 + 4) + x3)) then none else (f_R_pursesOf_L4 N fuel v0 y1 (x2 + ((R_state v0) (Int32.toNatClampNeg ((y1 + 4) + x3)))) (x3 + 1))))))
def f_R_pursesOf (N : Nat) (v0 : VR) (a1 : Int32) : Option (Int32) := ((f_R_pursesOf_L4 N N v0 a1 0 0).bind (fun q5 => (some q5)))
set_option maxRecDepth 20000 in
set_option maxHeartbeats 4000000 in
theorem c_R_pursesOf_L4 {Z : zCtx} {D n0w nf mcw msw : Nat} (hZ : zOk Z zMX12_pursesOf) (hR : zCan Z D mcw msw) (hDd : 2 ≤ D) (hN : zNew Z n0w nf) (hRm : zRoom Z 0 0) (N : Nat) : ∀ (fuel : Nat) (v0 : VR) (y1 : Int32) (x2 : Int32) (x3 : Int32) (q : (Int32)), f_R_pursesOf_L4 N fuel v0 y1 x2 x3 = some q → (AW Z 0 0 31 [none, none, some (.int q), none] [] ([kR 0 v0] : List (List zE)).flatten) → AW Z 0 0 4 [some (.ref 0), some (.int y1), some (.int x2), some (.int x3)] [] ([kR 0 v0] : List (List zE)).flatten := by
  intro fuel
  induction fuel with
  | zero =>
    intro v0 y1 x2 x3 q hf hk0
    simp [f_R_pursesOf_L4] at hf
  | succ fuel ih =>
    intro v0 y1 x2 x3 q hf hk0
    rw [f_R_pursesOf_L4] at hf
    refine AW.run hZ hRm [6] 400 ?_
    show AW Z 0 0 6 [some (.ref 0), some (.int y1), some (.int x2), some (.int x3)] [.ref 0, .int x3] ([kR 0 v0] : List (List zE)).flatten
    obtain ⟨q1, h4, hf⟩ := zbind hf
    refine AW.callVc hZ hR hN (c_R_people N v0 q1 h4) zMX12_people_ok rfl rfl zK_BorrowedLivesModel_291 zV_X12_people rfl [25] [0] [0, 1, 2, 3, 4, 5, 6, 7, 8, 9, 10, 11, 12, 13, 14, 15, 16, 17, 18, 19, 20, 21, 22, 23, 24] rfl rfl rfl (by decide) (by decide) (by omega) (by decide) (Nat.zero_le _) (Nat.zero_le _) rfl rfl rfl rfl rfl ?_
    rintro v cc ⟨rfl, rfl⟩
    refine ⟨_, rfl, rfl, ?_⟩
    show AW Z 0 0 9 [some (.ref 0), some (.int y1), some (.int x2), some (.int x3)] [.int q1, .int x3] ([kR 0 v0] : List (List zE)).flatten
    refine AW.run hZ hRm [4, 31] 400 ?_
    show (((q1 ≤ x3) → AW Z 0 0 31 [some (.ref 0), some (.int y1), some (.int x2), some (.int x3)] [] ([kR 0 v0] : List (List zE)).flatten) ∧ (¬ (q1 ≤ x3) → (¬ (((y1 + 4) + x3) < 0 ∨ 1656 ≤ Int32.toNatClampNeg ((y1 + 4) + x3)) ∧ AW Z 0 0 4 [some (.ref 0), some (.int y1), some (.int (x2 + ((R_state v0) (Int32.toNatClampNeg ((y1 + 4) + x3))))), some (.int (x3 + 1))] [] ([kR 0 v0] : List (List zE)).flatten)))
    refine ⟨fun c2 => ?_, fun c2 => ?_⟩
    · rw [if_pos c2] at hf
      cases hf
      refine AW.forget [false, false, true, false] ?_
      show AW Z 0 0 31 [none, none, some (.int x2), none] [] ([kR 0 v0] : List (List zE)).flatten
      exact hk0
    · rw [if_neg c2] at hf
      obtain ⟨b3, hf⟩ := zneed hf
      refine ⟨b3, ?_⟩
      exact ih v0 y1 (x2 + ((R_state v0) (Int32.toNatClampNeg ((y1 + 4) + x3)))) (x3 + 1) q hf hk0
set_option maxRecDepth 20000 in
set_option maxHeartbeats 4000000 in
theorem c_R_pursesOf (N : Nat) (v0 : VR) (a1 : Int32) (R : Int32) (hf : f_R_pursesOf N v0 a1 = some R) : Ct zMX12_pursesOf 2 0 0 0 [.ref 0, .int a1] ([kR 0 v0] : List (List zE)).flatten (fun v cc => v = some (.int R) ∧ cc = ([kR 0 v0] : List (List zE)).flatten) := by
  refine Ct.of zMX12_pursesOf_ok (by decide) (Nat.le_of_ble_eq_true rfl) ?_
  intro Z hZ hR hN hE
  have hRm : zRoom Z 0 0 := zRoom0 Z
  unfold f_R_pursesOf at hf
  show AW Z 0 0 0 [some (.ref 0), some (.int a1), none, none] [] ([kR 0 v0] : List (List zE)).flatten
  refine AW.run hZ hRm [4] 400 ?_
  show AW Z 0 0 4 [some (.ref 0), some (.int a1), some (.int 0), some (.int 0)] [] ([kR 0 v0] : List (List zE)).flatten
  obtain ⟨q5, h6, hf⟩ := zbind hf
  refine c_R_pursesOf_L4 hZ hR (by omega) hN hRm N N v0 a1 0 0 q5 h6 ?_
  show AW Z 0 0 31 [none, none, some (.int q5), none] [] ([kR 0 v0] : List (List zE)).flatten
  refine AW.run hZ hRm [32] 400 ?_
  show AW Z 0 0 32 [none, none, some (.int q5), none] [.int q5] ([kR 0 v0] : List (List zE)).flatten
  cases hf
  exact AW.iret hZ hE rfl rfl rfl rfl (Nat.le_refl 0) (Nat.le_refl 0) rfl ⟨rfl, rfl⟩
def f_R_hidesByDraw_L2 (N : Nat) : Nat → VR → Int32 → (Nat → Int32) → Int64 → Option ((Nat → Int32) × Int64)
  | 0, _, _, _, _ => none
  | fuel + 1, v0, x1, m_state0, m_g1 => ((f_R_people N (R_s_state_g v0 m_state0 m_g1)).bind (fun q1 => (if (q1 ≤ x1) then (some (m_state0, m_g1)) else ((f_R_draw N (R_s_state_g v0 m_state0 m_g1) 3).bind (fun q3 => (if (q3.1 = 0) then (if ((1588 + x1) < 0 ∨ 1656 ≤ Int32.toNatClampNeg (1588 + x1)) then none else (zlet ((if ((m_state0 (Int32.toNatClampNeg (1588 + x1))) < 20) then 0 else 1) : Int32) (fun z10 => (if (z10 = 0) then (if ((1606 + x1) < 0 ∨ 1656 ≤ Int32.toNatClampNeg (1606 + x1)) then none else (if ((1606 + x1) < 0 ∨ 1656 ≤ Int32.toNatClampNeg (1606 + x1)) then none else (zlet ((upd m_state0 (Int32.toNatClampNeg (1606 + x1)) (m_state0 (Int32.toNatClampNeg (1606 + x1)))) : (Nat → Int32)) (fun z12 => (f_R_hidesByDraw_L2 N fuel v0 (x1 + 1) z12 q3.2))))) else (if ((1606 + x1) < 0 ∨ 1656 ≤ Int32.toNatClampNeg (1606 + x1)) then none else (zlet ((upd m_state0 (Int32.toNatClampNeg (1606 + x1)) 20) : (Nat → Int32)) (fun z15 => (f_R_hidesByDraw_L2 N fuel v0 (x1 + 1) z15 q3.2)))))))) else (if ((1606 + x1) < 0 ∨ 1656 ≤ Int32.toNatClampNeg (1606 + x1)) then none else (if ((1606 + x1) < 0 ∨ 1656 ≤ Int32.toNatClampNeg (1606 + x1)) then none else (zlet ((upd m_state0 (Int32.toNatClampNeg (1606 + x1)) (m_state0 (Int32.toNatClampNeg (1606 + x1)))) : (Nat → Int32)) (fun z5 => (f_R_hidesByDraw_L2 N fuel v0 (x1 + 1) z5 q3.2)))))))))))
def f_R_hidesByDraw (N : Nat) (v0 : VR) : Option ((Nat → Int32) × Int64) := ((f_R_hidesByDraw_L2 N N v0 0 (R_state v0) (R_g v0)).bind (fun q20 => (some (q20.1, q20.2))))
set_option maxRecDepth 20000 in
set_option maxHeartbeats 4000000 in
theorem c_R_hidesByDraw_L2 {Z : zCtx} {D n0w nf mcw msw : Nat} (hZ : zOk Z zMX12_hidesByDraw) (hR : zCan Z D mcw msw) (hDd : 2 ≤ D) (hN : zNew Z n0w nf) (hRm : zRoom Z 0 0) (N : Nat) : ∀ (fuel : Nat) (v0 : VR) (x1 : Int32) (m_state0 : (Nat → Int32)) (m_g1 : Int64) (q : ((Nat → Int32) × Int64)), f_R_hidesByDraw_L2 N fuel v0 x1 m_state0 m_g1 = some q → (AW Z 0 0 74 [none, none, none] [] ([kR 0 (R_s_state_g v0 q.1 q.2)] : List (List zE)).flatten) → AW Z 0 0 2 [some (.ref 0), some (.int x1), none] [] ([kR 0 (R_s_state_g v0 m_state0 m_g1)] : List (List zE)).flatten := by
  intro fuel
  induction fuel with
  | zero =>
    intro v0 x1 m_state0 m_g1 q hf hk0
    simp [f_R_hidesByDraw_L2] at hf
  | succ fuel ih =>
    intro v0 x1 m_state0 m_g1 q hf hk0
    rw [f_R_hidesByDraw_L2] at hf
    refine AW.run hZ hRm [4] 400 ?_
    show AW Z 0 0 4 [some (.ref 0), some (.int x1), none] [.ref 0, .int x1] ([kR 0 (R_s_state_g v0 m_state0 m_g1)] : List (List zE)).flatten
    obtain ⟨q1, h19, hf⟩ := zbind hf
    refine AW.callVc hZ hR hN (c_R_people N (R_s_state_g v0 m_state0 m_g1) q1 h19) zMX12_people_ok rfl rfl zK_BorrowedLivesModel_291 zV_X12_people rfl [25] [0] [0, 1, 2, 3, 4, 5, 6, 7, 8, 9, 10, 11, 12, 13, 14, 15, 16, 17, 18, 19, 20, 21, 22, 23, 24] rfl rfl rfl (by decide) (by decide) (by omega) (by decide) (Nat.zero_le _) (Nat.zero_le _) rfl rfl rfl rfl rfl ?_
    rintro v cc ⟨rfl, rfl⟩
    refine ⟨_, rfl, rfl, ?_⟩
    show AW Z 0 0 7 [some (.ref 0), some (.int x1), none] [.int q1, .int x1] ([kR 0 (R_s_state_g v0 m_state0 m_g1)] : List (List zE)).flatten
    refine AW.run hZ hRm [12, 74] 400 ?_
    show (((q1 ≤ x1) → AW Z 0 0 74 [some (.ref 0), some (.int x1), none] [] ([kR 0 (R_s_state_g v0 m_state0 m_g1)] : List (List zE)).flatten) ∧ (¬ (q1 ≤ x1) → AW Z 0 0 12 [some (.ref 0), some (.int x1), none] [.int 3, .ref 0] ([kR 0 (R_s_state_g v0 m_state0 m_g1)] : List (List zE)).flatten))
    refine ⟨fun c2 => ?_, fun c2 => ?_⟩
    · rw [if_pos c2] at hf
      cases hf
      refine AW.forget [false, false, false] ?_
      show AW Z 0 0 74 [none, none, none] [] ([kR 0 (R_s_state_g v0 m_state0 m_g1)] : List (List zE)).flatten
      exact hk0
    · rw [if_neg c2] at hf
      obtain ⟨q3, h18, hf⟩ := zbind hf
      refine AW.callVc hZ hR hN (c_R_draw N (R_s_state_g v0 m_state0 m_g1) 3 q3 h18) zMX12_draw_ok rfl rfl zK_BorrowedLivesModel_384 zV_X12_draw rfl [25] [0] [0, 1, 2, 3, 4, 5, 6, 7, 8, 9, 10, 11, 12, 13, 14, 15, 16, 17, 18, 19, 20, 21, 22, 23, 24] rfl rfl rfl (by decide) (by decide) (by omega) (by decide) (Nat.zero_le _) (Nat.zero_le _) rfl rfl rfl rfl rfl ?_
      rintro v cc ⟨rfl, rfl⟩
      refine ⟨_, rfl, rfl, ?_⟩
      show AW Z 0 0 15 [some (.ref 0), some (.int x1), none] [.int q3.1] ([kR 0 (R_s_state_g v0 m_state0 q3.2)] : List (List zE)).flatten
      refine AW.run hZ hRm [30, 68] 400 ?_
      show ((¬ (q3.1 = 0) → ((((0 : Int32) = 0) → (¬ ((1606 + x1) < 0 ∨ 1656 ≤ Int32.toNatClampNeg (1606 + x1)) ∧ (¬ ((1606 + x1) < 0 ∨ 1656 ≤ Int32.toNatClampNeg (1606 + x1)) ∧ AW Z 0 0 68 [some (.ref 0), some (.int x1), some (.int 0)] [] ([kR 0 (R_s_state_g v0 (upd m_state0 (Int32.toNatClampNeg (1606 + x1)) (m_state0 (Int32.toNatClampNeg (1606 + x1)))) q3.2)] : List (List zE)).flatten))) ∧ (¬ ((0 : Int32) = 0) → (¬ ((1606 + x1) < 0 ∨ 1656 ≤ Int32.toNatClampNeg (1606 + x1)) ∧ AW Z 0 0 68 [some (.ref 0), some (.int x1), some (.int 0)] [] ([kR 0 (R_s_state_g v0 (upd m_state0 (Int32.toNatClampNeg (1606 + x1)) 20) q3.2)] : List (List zE)).flatten)))) ∧ ((q3.1 = 0) → (¬ ((1588 + x1) < 0 ∨ 1656 ≤ Int32.toNatClampNeg (1588 + x1)) ∧ AW Z 0 0 30 [some (.ref 0), some (.int x1), none] [.int 20, .int (m_state0 (Int32.toNatClampNeg (1588 + x1)))] ([kR 0 (R_s_state_g v0 m_state0 q3.2)] : List (List zE)).flatten)))
      refine ⟨fun c4 => ?_, fun c4 => ?_⟩
      · rw [if_neg c4] at hf
        refine ⟨fun _ => ?_, fun h => absurd h (by decide)⟩
        obtain ⟨b7, hf⟩ := zneed hf
        refine ⟨b7, ?_⟩
        obtain ⟨b6, hf⟩ := zneed hf
        refine ⟨b6, ?_⟩
        replace hf := zlet_gen hf
        generalize ((upd m_state0 (Int32.toNatClampNeg (1606 + x1)) (m_state0 (Int32.toNatClampNeg (1606 + x1)))) : (Nat → Int32)) = z5 at hf ⊢
        as_aux_lemma =>
          refine AW.run hZ hRm [2] 400 ?_
          show AW Z 0 0 2 [some (.ref 0), some (.int (x1 + 1)), some (.int 0)] [] ([kR 0 (R_s_state_g v0 z5 q3.2)] : List (List zE)).flatten
          refine AW.forget [true, true, false] ?_
          show AW Z 0 0 2 [some (.ref 0), some (.int (x1 + 1)), none] [] ([kR 0 (R_s_state_g v0 z5 q3.2)] : List (List zE)).flatten
          exact ih v0 (x1 + 1) z5 q3.2 q hf hk0
      · rw [if_pos c4] at hf
        obtain ⟨b17, hf⟩ := zneed hf
        refine ⟨b17, ?_⟩
        suffices H8 : AW Z 0 0 38 [some (.ref 0), some (.int x1), none] [.int (if ((m_state0 (Int32.toNatClampNeg (1588 + x1))) < 20) then 0 else 1)] ([kR 0 (R_s_state_g v0 m_state0 q3.2)] : List (List zE)).flatten from by
          refine AW.run hZ hRm [38] 400 ?_
          show ((((m_state0 (Int32.toNatClampNeg (1588 + x1))) < 20) → AW Z 0 0 38 [some (.ref 0), some (.int x1), none] [.int 0] ([kR 0 (R_s_state_g v0 m_state0 q3.2)] : List (List zE)).flatten) ∧ (¬ ((m_state0 (Int32.toNatClampNeg (1588 + x1))) < 20) → AW Z 0 0 38 [some (.ref 0), some (.int x1), none] [.int 1] ([kR 0 (R_s_state_g v0 m_state0 q3.2)] : List (List zE)).flatten))
          refine ⟨fun c9 => ?_, fun c9 => ?_⟩
          · simpa only [if_pos c9] using H8
          · simpa only [if_neg c9] using H8
        replace hf := zlet_gen hf
        generalize ((if ((m_state0 (Int32.toNatClampNeg (1588 + x1))) < 20) then 0 else 1) : Int32) = z10 at hf ⊢
        refine AW.run hZ hRm [68] 400 ?_
        show (((z10 = 0) → (¬ ((1606 + x1) < 0 ∨ 1656 ≤ Int32.toNatClampNeg (1606 + x1)) ∧ (¬ ((1606 + x1) < 0 ∨ 1656 ≤ Int32.toNatClampNeg (1606 + x1)) ∧ AW Z 0 0 68 [some (.ref 0), some (.int x1), some (.int z10)] [] ([kR 0 (R_s_state_g v0 (upd m_state0 (Int32.toNatClampNeg (1606 + x1)) (m_state0 (Int32.toNatClampNeg (1606 + x1)))) q3.2)] : List (List zE)).flatten))) ∧ (¬ (z10 = 0) → (¬ ((1606 + x1) < 0 ∨ 1656 ≤ Int32.toNatClampNeg (1606 + x1)) ∧ AW Z 0 0 68 [some (.ref 0), some (.int x1), some (.int z10)] [] ([kR 0 (R_s_state_g v0 (upd m_state0 (Int32.toNatClampNeg (1606 + x1)) 20) q3.2)] : List (List zE)).flatten)))
        refine ⟨fun c11 => ?_, fun c11 => ?_⟩
        · rw [if_pos c11] at hf
          obtain ⟨b14, hf⟩ := zneed hf
          refine ⟨b14, ?_⟩
          obtain ⟨b13, hf⟩ := zneed hf
          refine ⟨b13, ?_⟩
          replace hf := zlet_gen hf
          generalize ((upd m_state0 (Int32.toNatClampNeg (1606 + x1)) (m_state0 (Int32.toNatClampNeg (1606 + x1)))) : (Nat → Int32)) = z12 at hf ⊢
          as_aux_lemma =>
            refine AW.run hZ hRm [2] 400 ?_
            show AW Z 0 0 2 [some (.ref 0), some (.int (x1 + 1)), some (.int z10)] [] ([kR 0 (R_s_state_g v0 z12 q3.2)] : List (List zE)).flatten
            refine AW.forget [true, true, false] ?_
            show AW Z 0 0 2 [some (.ref 0), some (.int (x1 + 1)), none] [] ([kR 0 (R_s_state_g v0 z12 q3.2)] : List (List zE)).flatten
            exact ih v0 (x1 + 1) z12 q3.2 q hf hk0
        · rw [if_neg c11] at hf
          obtain ⟨b16, hf⟩ := zneed hf
          refine ⟨b16, ?_⟩
          replace hf := zlet_gen hf
          generalize ((upd m_state0 (Int32.toNatClampNeg (1606 + x1)) 20) : (Nat → Int32)) = z15 at hf ⊢
          as_aux_lemma =>
            refine AW.run hZ hRm [2] 400 ?_
            show AW Z 0 0 2 [some (.ref 0), some (.int (x1 + 1)), some (.int z10)] [] ([kR 0 (R_s_state_g v0 z15 q3.2)] : List (List zE)).flatten
            refine AW.forget [true, true, false] ?_
            show AW Z 0 0 2 [some (.ref 0), some (.int (x1 + 1)), none] [] ([kR 0 (R_s_state_g v0 z15 q3.2)] : List (List zE)).flatten
            exact ih v0 (x1 + 1) z15 q3.2 q hf hk0
set_option maxRecDepth 20000 in
set_option maxHeartbeats 4000000 in
theorem c_R_hidesByDraw (N : Nat) (v0 : VR) (R : (Nat → Int32) × Int64) (hf : f_R_hidesByDraw N v0 = some R) : Ct zMX12_hidesByDraw 2 0 0 0 [.ref 0] ([kR 0 v0] : List (List zE)).flatten (fun v cc => v = none ∧ cc = ([kR 0 (R_s_state_g v0 R.1 R.2)] : List (List zE)).flatten) := by
  refine Ct.of zMX12_hidesByDraw_ok (by decide) (Nat.le_of_ble_eq_true rfl) ?_
  intro Z hZ hR hN hE
  have hRm : zRoom Z 0 0 := zRoom0 Z
  unfold f_R_hidesByDraw at hf
  show AW Z 0 0 0 [some (.ref 0), none, none] [] ([kR 0 v0] : List (List zE)).flatten
  refine AW.run hZ hRm [2] 400 ?_
  show AW Z 0 0 2 [some (.ref 0), some (.int 0), none] [] ([kR 0 v0] : List (List zE)).flatten
  obtain ⟨q20, h21, hf⟩ := zbind hf
  refine c_R_hidesByDraw_L2 hZ hR (by omega) hN hRm N N v0 0 (R_state v0) (R_g v0) q20 h21 ?_
  show AW Z 0 0 74 [none, none, none] [] ([kR 0 (R_s_state_g v0 q20.1 q20.2)] : List (List zE)).flatten
  cases hf
  exact AW.vret hZ hE rfl rfl rfl (Nat.le_refl 0) (Nat.le_refl 0) rfl ⟨rfl, rfl⟩
