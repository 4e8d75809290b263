def f_R_prepare_L82 (N : Nat) : Nat → VR → Int32 → Int32 → Int32 → Int32 → Int64 → Int32 → Int64 → Int32 → (Nat → Int32) → (Nat → Int32) → (Nat → Int32) → Option (Int64 × (Nat → Int32) × (Nat → Int32) × (Nat → Int32))
  | 0, _, _, _, _, _, _, _, _, _, _, _, _ => none
  | fuel + 1, v0, y1, y2, y3, y4, y5, y7, x8, x10, m_facts0, m_pile1, m_state2 => (if ((R_lotsMany v0) ≤ x10) then (some (x8, m_facts0, m_pile1, m_state2)) else ((f_R_weekBy N (R_s_facts_pile_state v0 m_facts0 m_pile1 m_state2) x10).bind (fun q9 => ((f_R_harmOf N (R_s_facts_pile_state v0 q9.1 q9.2.1 q9.2.2) 1584 y1 0).bind (fun q10 => (f_R_prepare_L82 N fuel v0 y1 y2 y3 y4 y5 y7 (x8 + (Int32.toInt64 q10)) (x10 + 1) q9.1 q9.2.1 q9.2.2))))))
def f_R_prepare_L52 (N : Nat) : Nat → VR → Int32 → Int32 → Int32 → Int32 → Int64 → Int32 → (Nat → Int32) → (Nat → Int32) → (Nat → Int32) → Option (Int32 × Int64 × (Nat → Int32) × (Nat → Int32) × (Nat → Int32))
  | 0, _, _, _, _, _, _, _, _, _, _ => none
  | fuel + 1, v0, y1, y2, y3, x4, x5, x7, m_facts0, m_pile1, m_state2 => (if ((4 + y1) < 0 ∨ 1656 ≤ Int32.toNatClampNeg (4 + y1)) then none else (if ((m_state2 (Int32.toNatClampNeg (4 + y1))) < x7) then (some (x4, x5, m_facts0, m_pile1, m_state2)) else (if ((22 + y1) < 0 ∨ 1656 ≤ Int32.toNatClampNeg (22 + y1)) then none else (zlet ((upd m_state2 (Int32.toNatClampNeg (22 + y1)) x7) : (Nat → Int32)) (fun z7 => ((f_R_prepare_L82 N N (R_s_facts_pile_state v0 m_facts0 m_pile1 z7) y1 y2 y3 x4 x5 x7 0 0 m_facts0 m_pile1 z7).bind (fun q13 => (zlet ((if ((lg_cmp x5 0) < 0) then x7 else (if (0 ≤ (lg_cmp q13.1 x5)) then x4 else x7)) : Int32) (fun z18 => (zlet ((if ((lg_cmp x5 0) < 0) then q13.1 else (if (0 ≤ (lg_cmp q13.1 x5)) then x5 else q13.1)) : Int64) (fun z22 => (f_R_prepare_L52 N fuel v0 y1 y2 y3 z18 z22 (x7 + 25) q13.2.1 q13.2.2.1 q13.2.2.2))))))))))))
def f_R_prepare (N : Nat) (v0 : VR) (a1 : Int32) (a2 : Int32) : Option (Int32 × Int32 × (Nat → Int32) × (Nat → Int32) × (Nat → Int32)) := ((f_R_isPerson N (R_thrown_s v0 0) a1).bind (fun q1 => (if (q1 = 0) then (some ((-1), 0, (R_facts v0), (R_pile v0), (R_state v0))) else ((f_R_within N a2 0 1).bind (fun q3 => (if (q3 = 0) then (some ((-1), 0, (R_facts v0), (R_pile v0), (R_state v0))) else (if ((R_lotsMany v0) = 0) then (some ((-1), 0, (R_facts v0), (R_pile v0), (R_state v0))) else (if ((22 + a1) < 0 ∨ 1656 ≤ Int32.toNatClampNeg (22 + a1)) then none else ((f_R_prepare_L52 N N (R_thrown_s v0 0) a1 a2 ((R_state v0) (Int32.toNatClampNeg (22 + a1))) 0 (-1) 0 (R_facts v0) (R_pile v0) (R_state v0)).bind (fun q25 => (if ((22 + a1) < 0 ∨ 1656 ≤ Int32.toNatClampNeg (22 + a1)) then none else (zlet ((upd q25.2.2.2.2 (Int32.toNatClampNeg (22 + a1)) ((R_state v0) (Int32.toNatClampNeg (22 + a1)))) : (Nat → Int32)) (fun z27 => (if (a2 = 0) then (some (q25.1, 0, q25.2.2.1, q25.2.2.2.1, z27)) else (if ((Int32.toInt64 (R_lotsMany v0)) = 0) then none else (some ((Int64.toInt32 ((q25.2.1 * 1000) / (Int32.toInt64 (R_lotsMany v0)))), 0, q25.2.2.1, q25.2.2.2.1, z27)))))))))))))))))
set_option maxRecDepth 20000 in
set_option maxHeartbeats 4000000 in
theorem c_R_prepare_L82 {Z : zCtx} {D n0w nf mcw msw : Nat} (hZ : zOk Z zMX12_prepare) (hR : zCan Z D mcw msw) (hDd : 6 ≤ D) (hN : zNew Z n0w nf) (hRm : zRoom Z 0 0) (N : Nat) : ∀ (fuel : Nat) (v0 : VR) (y1 : Int32) (y2 : Int32) (y3 : Int32) (y4 : Int32) (y5 : Int64) (y7 : Int32) (x8 : Int64) (x10 : Int32) (m_facts0 : (Nat → Int32)) (m_pile1 : (Nat → Int32)) (m_state2 : (Nat → Int32)) (q : (Int64 × (Nat → Int32) × (Nat → Int32) × (Nat → Int32))), f_R_prepare_L82 N fuel v0 y1 y2 y3 y4 y5 y7 x8 x10 m_facts0 m_pile1 m_state2 = some q → (AW Z 0 0 118 [some (.ref 0), some (.int y1), some (.int y2), some (.int y3), some (.int y4), some (.long y5), none, some (.int y7), some (.long q.1), none, none] [] ([kR 0 (R_s_facts_pile_state v0 q.2.1 q.2.2.1 q.2.2.2)] : List (List zE)).flatten) → AW Z 0 0 82 [some (.ref 0), some (.int y1), some (.int y2), some (.int y3), some (.int y4), some (.long y5), none, some (.int y7), some (.long x8), none, some (.int x10)] [] ([kR 0 (R_s_facts_pile_state v0 m_facts0 m_pile1 m_state2)] : List (List zE)).flatten := by
  intro fuel
  induction fuel with
  | zero =>
    intro v0 y1 y2 y3 y4 y5 y7 x8 x10 m_facts0 m_pile1 m_state2 q hf hk0
    simp [f_R_prepare_L82] at hf
  | succ fuel ih =>
    intro v0 y1 y2 y3 y4 y5 y7 x8 x10 m_facts0 m_pile1 m_state2 q hf hk0
    rw [f_R_prepare_L82] at hf
    refine AW.run hZ hRm [94, 118] 400 ?_
    show ((((R_lotsMany v0) ≤ x10) → AW Z 0 0 118 [some (.ref 0), some (.int y1), some (.int y2), some (.int y3), some (.int y4), some (.long y5), none, some (.int y7), some (.long x8), none, some (.int x10)] [] ([kR 0 (R_s_facts_pile_state v0 m_facts0 m_pile1 m_state2)] : List (List zE)).flatten) ∧ (¬ ((R_lotsMany v0) ≤ x10) → AW Z 0 0 94 [some (.ref 0), some (.int y1), some (.int y2), some (.int y3), some (.int y4), some (.long y5), none, some (.int y7), some (.long x8), none, some (.int x10)] [.int x10, .ref 0] ([kR 0 (R_s_facts_pile_state v0 m_facts0 m_pile1 m_state2)] : List (List zE)).flatten))
    refine ⟨fun c8 => ?_, fun c8 => ?_⟩
    · rw [if_pos c8] at hf
      cases hf
      refine AW.forget [true, true, true, true, true, true, false, true, true, false, false] ?_
      show AW Z 0 0 118 [some (.ref 0), some (.int y1), some (.int y2), some (.int y3), some (.int y4), some (.long y5), none, some (.int y7), some (.long x8), none, none] [] ([kR 0 (R_s_facts_pile_state v0 m_facts0 m_pile1 m_state2)] : List (List zE)).flatten
      exact hk0
    · rw [if_neg c8] at hf
      obtain ⟨q9, h12, hf⟩ := zbind hf
      refine AW.callVc hZ hR hN (c_R_weekBy N (R_s_facts_pile_state v0 m_facts0 m_pile1 m_state2) x10 q9 h12) zMX12_weekBy_ok rfl rfl zK_BorrowedLivesModel_415 zV_X12_weekBy rfl [25] [0] [0, 1, 2, 3, 4, 5, 6, 7, 8, 9, 10, 11, 12, 13, 14, 15, 16, 17, 18, 19, 20, 21, 22, 23, 24] rfl rfl rfl (by decide) (by decide) (by omega) (by decide) (Nat.zero_le _) (Nat.zero_le _) rfl rfl rfl rfl rfl ?_
      rintro v cc ⟨rfl, rfl⟩
      refine ⟨_, rfl, rfl, ?_⟩
      show AW Z 0 0 97 [some (.ref 0), some (.int y1), some (.int y2), some (.int y3), some (.int y4), some (.long y5), none, some (.int y7), some (.long x8), none, some (.int x10)] [] ([kR 0 (R_s_facts_pile_state v0 q9.1 q9.2.1 q9.2.2)] : List (List zE)).flatten
      refine AW.run hZ hRm [105] 400 ?_
      show AW Z 0 0 105 [some (.ref 0), some (.int y1), some (.int y2), some (.int y3), some (.int y4), some (.long y5), none, some (.int y7), some (.long x8), none, some (.int x10)] [.int 0, .int y1, .int 1584, .ref 0, .long x8] ([kR 0 (R_s_facts_pile_state v0 q9.1 q9.2.1 q9.2.2)] : List (List zE)).flatten
      obtain ⟨q10, h11, hf⟩ := zbind hf
      refine AW.callVc hZ hR hN (c_R_harmOf N (R_s_facts_pile_state v0 q9.1 q9.2.1 q9.2.2) 1584 y1 0 q10 h11) zMX12_harmOf_ok rfl rfl zK_BorrowedLivesModel_349 zV_X12_harmOf rfl [25] [0] [0, 1, 2, 3, 4, 5, 6, 7, 8, 9, 10, 11, 12, 13, 14, 15, 16, 17, 18, 19, 20, 21, 22, 23, 24] rfl rfl rfl (by decide) (by decide) (by omega) (by decide) (Nat.zero_le _) (Nat.zero_le _) rfl rfl rfl rfl rfl ?_
      rintro v cc ⟨rfl, rfl⟩
      refine ⟨_, rfl, rfl, ?_⟩
      show AW Z 0 0 108 [some (.ref 0), some (.int y1), some (.int y2), some (.int y3), some (.int y4), some (.long y5), none, some (.int y7), some (.long x8), none, some (.int x10)] [.int q10, .long x8] ([kR 0 (R_s_facts_pile_state v0 q9.1 q9.2.1 q9.2.2)] : List (List zE)).flatten
      refine AW.run hZ hRm [82] 400 ?_
      show AW Z 0 0 82 [some (.ref 0), some (.int y1), some (.int y2), some (.int y3), some (.int y4), some (.long y5), none, some (.int y7), some (.long (x8 + (Int32.toInt64 q10))), none, some (.int (x10 + 1))] [] ([kR 0 (R_s_facts_pile_state v0 q9.1 q9.2.1 q9.2.2)] : List (List zE)).flatten
      exact ih v0 y1 y2 y3 y4 y5 y7 (x8 + (Int32.toInt64 q10)) (x10 + 1) q9.1 q9.2.1 q9.2.2 q hf hk0
set_option maxRecDepth 20000 in
set_option maxHeartbeats 4000000 in
theorem c_R_prepare_L52 {Z : zCtx} {D n0w nf mcw msw : Nat} (hZ : zOk Z zMX12_prepare) (hR : zCan Z D mcw msw) (hDd : 6 ≤ D) (hN : zNew Z n0w nf) (hRm : zRoom Z 0 0) (N : Nat) : ∀ (fuel : Nat) (v0 : VR) (y1 : Int32) (y2 : Int32) (y3 : Int32) (x4 : Int32) (x5 : Int64) (x7 : Int32) (m_facts0 : (Nat → Int32)) (m_pile1 : (Nat → Int32)) (m_state2 : (Nat → Int32)) (q : (Int32 × Int64 × (Nat → Int32) × (Nat → Int32) × (Nat → Int32))), f_R_prepare_L52 N fuel v0 y1 y2 y3 x4 x5 x7 m_facts0 m_pile1 m_state2 = some q → (AW Z 0 0 172 [some (.ref 0), some (.int y1), some (.int y2), some (.int y3), some (.int q.1), some (.long q.2.1), none, none, none, none, none] [] ([kR 0 (R_s_facts_pile_state v0 q.2.2.1 q.2.2.2.1 q.2.2.2.2)] : List (List zE)).flatten) → AW Z 0 0 52 [some (.ref 0), some (.int y1), some (.int y2), some (.int y3), some (.int x4), some (.long x5), none, some (.int x7), none, none, none] [] ([kR 0 (R_s_facts_pile_state v0 m_facts0 m_pile1 m_state2)] : List (List zE)).flatten := by
  intro fuel
  induction fuel with
  | zero =>
    intro v0 y1 y2 y3 x4 x5 x7 m_facts0 m_pile1 m_state2 q hf hk0
    simp [f_R_prepare_L52] at hf
  | succ fuel ih =>
    intro v0 y1 y2 y3 x4 x5 x7 m_facts0 m_pile1 m_state2 q hf hk0
    rw [f_R_prepare_L52] at hf
    refine AW.run hZ hRm [76, 172] 400 ?_
    show (¬ ((4 + y1) < 0 ∨ 1656 ≤ Int32.toNatClampNeg (4 + y1)) ∧ ((((m_state2 (Int32.toNatClampNeg (4 + y1))) < x7) → AW Z 0 0 172 [some (.ref 0), some (.int y1), some (.int y2), some (.int y3), some (.int x4), some (.long x5), none, some (.int x7), none, none, none] [] ([kR 0 (R_s_facts_pile_state v0 m_facts0 m_pile1 m_state2)] : List (List zE)).flatten) ∧ (¬ ((m_state2 (Int32.toNatClampNeg (4 + y1))) < x7) → (¬ ((22 + y1) < 0 ∨ 1656 ≤ Int32.toNatClampNeg (22 + y1)) ∧ AW Z 0 0 76 [some (.ref 0), some (.int y1), some (.int y2), some (.int y3), some (.int x4), some (.long x5), none, some (.int x7), none, none, none] [] ([kR 0 (R_s_facts_pile_state v0 m_facts0 m_pile1 (upd m_state2 (Int32.toNatClampNeg (22 + y1)) x7))] : List (List zE)).flatten))))
    obtain ⟨b24, hf⟩ := zneed hf
    refine ⟨b24, ?_⟩
    refine ⟨fun c6 => ?_, fun c6 => ?_⟩
    · rw [if_pos c6] at hf
      cases hf
      refine AW.forget [true, true, true, true, true, true, false, false, false, false, false] ?_
      show AW Z 0 0 172 [some (.ref 0), some (.int y1), some (.int y2), some (.int y3), some (.int x4), some (.long x5), none, none, none, none, none] [] ([kR 0 (R_s_facts_pile_state v0 m_facts0 m_pile1 m_state2)] : List (List zE)).flatten
      exact hk0
    · rw [if_neg c6] at hf
      obtain ⟨b23, hf⟩ := zneed hf
      refine ⟨b23, ?_⟩
      replace hf := zlet_gen hf
      generalize ((upd m_state2 (Int32.toNatClampNeg (22 + y1)) x7) : (Nat → Int32)) = z7 at hf ⊢
      as_aux_lemma =>
        refine AW.run hZ hRm [82] 400 ?_
        show AW Z 0 0 82 [some (.ref 0), some (.int y1), some (.int y2), some (.int y3), some (.int x4), some (.long x5), none, some (.int x7), some (.long 0), none, some (.int 0)] [] ([kR 0 (R_s_facts_pile_state v0 m_facts0 m_pile1 z7)] : List (List zE)).flatten
        obtain ⟨q13, h14, hf⟩ := zbind hf
        refine c_R_prepare_L82 hZ hR (by omega) hN hRm N N (R_s_facts_pile_state v0 m_facts0 m_pile1 z7) y1 y2 y3 x4 x5 x7 0 0 m_facts0 m_pile1 z7 q13 h14 ?_
        show AW Z 0 0 118 [some (.ref 0), some (.int y1), some (.int y2), some (.int y3), some (.int x4), some (.long x5), none, some (.int x7), some (.long q13.1), none, none] [] ([kR 0 (R_s_facts_pile_state v0 q13.2.1 q13.2.2.1 q13.2.2.2)] : List (List zE)).flatten
        refine AW.run hZ hRm [122] 400 ?_
        show AW Z 0 0 122 [some (.ref 0), some (.int y1), some (.int y2), some (.int y3), some (.int x4), some (.long x5), none, some (.int x7), some (.long q13.1), none, none] [.int (lg_cmp x5 0)] ([kR 0 (R_s_facts_pile_state v0 q13.2.1 q13.2.2.1 q13.2.2.2)] : List (List zE)).flatten
        suffices H15 : AW Z 0 0 140 [some (.ref 0), some (.int y1), some (.int y2), some (.int y3), none, some (.long x5), none, some (.int x7), some (.long q13.1), none, none] [.int (if ((lg_cmp x5 0) < 0) then x7 else (if (0 ≤ (lg_cmp q13.1 x5)) then x4 else x7))] ([kR 0 (R_s_facts_pile_state v0 q13.2.1 q13.2.2.1 q13.2.2.2)] : List (List zE)).flatten from by
          refine AW.run hZ hRm [140] 400 ?_
          show ((((lg_cmp x5 0) < 0) → AW Z 0 0 140 [some (.ref 0), some (.int y1), some (.int y2), some (.int y3), some (.int x4), some (.long x5), none, some (.int x7), some (.long q13.1), none, none] [.int x7] ([kR 0 (R_s_facts_pile_state v0 q13.2.1 q13.2.2.1 q13.2.2.2)] : List (List zE)).flatten) ∧ (¬ ((lg_cmp x5 0) < 0) → (((0 ≤ (lg_cmp q13.1 x5)) → AW Z 0 0 140 [some (.ref 0), some (.int y1), some (.int y2), some (.int y3), some (.int x4), some (.long x5), none, some (.int x7), some (.long q13.1), none, none] [.int x4] ([kR 0 (R_s_facts_pile_state v0 q13.2.1 q13.2.2.1 q13.2.2.2)] : List (List zE)).flatten) ∧ (¬ (0 ≤ (lg_cmp q13.1 x5)) → AW Z 0 0 140 [some (.ref 0), some (.int y1), some (.int y2), some (.int y3), some (.int x4), some (.long x5), none, some (.int x7), some (.long q13.1), none, none] [.int x7] ([kR 0 (R_s_facts_pile_state v0 q13.2.1 q13.2.2.1 q13.2.2.2)] : List (List zE)).flatten))))
          refine ⟨fun c16 => ?_, fun c16 => ?_⟩
          · refine AW.forget [true, true, true, true, false, true, false, true, true, false, false] ?_
            show AW Z 0 0 140 [some (.ref 0), some (.int y1), some (.int y2), some (.int y3), none, some (.long x5), none, some (.int x7), some (.long q13.1), none, none] [.int x7] ([kR 0 (R_s_facts_pile_state v0 q13.2.1 q13.2.2.1 q13.2.2.2)] : List (List zE)).flatten
            simpa only [if_pos c16] using H15
          · refine ⟨fun c17 => ?_, fun c17 => ?_⟩
            · refine AW.forget [true, true, true, true, false, true, false, true, true, false, false] ?_
              show AW Z 0 0 140 [some (.ref 0), some (.int y1), some (.int y2), some (.int y3), none, some (.long x5), none, some (.int x7), some (.long q13.1), none, none] [.int x4] ([kR 0 (R_s_facts_pile_state v0 q13.2.1 q13.2.2.1 q13.2.2.2)] : List (List zE)).flatten
              simpa only [if_neg c16, if_pos c17] using H15
            · refine AW.forget [true, true, true, true, false, true, false, true, true, false, false] ?_
              show AW Z 0 0 140 [some (.ref 0), some (.int y1), some (.int y2), some (.int y3), none, some (.long x5), none, some (.int x7), some (.long q13.1), none, none] [.int x7] ([kR 0 (R_s_facts_pile_state v0 q13.2.1 q13.2.2.1 q13.2.2.2)] : List (List zE)).flatten
              simpa only [if_neg c16, if_neg c17] using H15
        replace hf := zlet_gen hf
        generalize ((if ((lg_cmp x5 0) < 0) then x7 else (if (0 ≤ (lg_cmp q13.1 x5)) then x4 else x7)) : Int32) = z18 at hf ⊢
        refine AW.run hZ hRm [146] 400 ?_
        show AW Z 0 0 146 [some (.ref 0), some (.int y1), some (.int y2), some (.int y3), some (.int z18), some (.long x5), none, some (.int x7), some (.long q13.1), none, none] [.int (lg_cmp x5 0)] ([kR 0 (R_s_facts_pile_state v0 q13.2.1 q13.2.2.1 q13.2.2.2)] : List (List zE)).flatten
        suffices H19 : AW Z 0 0 164 [some (.ref 0), some (.int y1), some (.int y2), some (.int y3), some (.int z18), none, none, some (.int x7), none, none, none] [.long (if ((lg_cmp x5 0) < 0) then q13.1 else (if (0 ≤ (lg_cmp q13.1 x5)) then x5 else q13.1))] ([kR 0 (R_s_facts_pile_state v0 q13.2.1 q13.2.2.1 q13.2.2.2)] : List (List zE)).flatten from by
          refine AW.run hZ hRm [164] 400 ?_
          show ((((lg_cmp x5 0) < 0) → AW Z 0 0 164 [some (.ref 0), some (.int y1), some (.int y2), some (.int y3), some (.int z18), some (.long x5), none, some (.int x7), some (.long q13.1), none, none] [.long q13.1] ([kR 0 (R_s_facts_pile_state v0 q13.2.1 q13.2.2.1 q13.2.2.2)] : List (List zE)).flatten) ∧ (¬ ((lg_cmp x5 0) < 0) → (((0 ≤ (lg_cmp q13.1 x5)) → AW Z 0 0 164 [some (.ref 0), some (.int y1), some (.int y2), some (.int y3), some (.int z18), some (.long x5), none, some (.int x7), some (.long q13.1), none, none] [.long x5] ([kR 0 (R_s_facts_pile_state v0 q13.2.1 q13.2.2.1 q13.2.2.2)] : List (List zE)).flatten) ∧ (¬ (0 ≤ (lg_cmp q13.1 x5)) → AW Z 0 0 164 [some (.ref 0), some (.int y1), some (.int y2), some (.int y3), some (.int z18), some (.long x5), none, some (.int x7), some (.long q13.1), none, none] [.long q13.1] ([kR 0 (R_s_facts_pile_state v0 q13.2.1 q13.2.2.1 q13.2.2.2)] : List (List zE)).flatten))))
          refine ⟨fun c20 => ?_, fun c20 => ?_⟩
          · refine AW.forget [true, true, true, true, true, false, false, true, false, false, false] ?_
            show AW Z 0 0 164 [some (.ref 0), some (.int y1), some (.int y2), some (.int y3), some (.int z18), none, none, some (.int x7), none, none, none] [.long q13.1] ([kR 0 (R_s_facts_pile_state v0 q13.2.1 q13.2.2.1 q13.2.2.2)] : List (List zE)).flatten
            simpa only [if_pos c20] using H19
          · refine ⟨fun c21 => ?_, fun c21 => ?_⟩
            · refine AW.forget [true, true, true, true, true, false, false, true, false, false, false] ?_
              show AW Z 0 0 164 [some (.ref 0), some (.int y1), some (.int y2), some (.int y3), some (.int z18), none, none, some (.int x7), none, none, none] [.long x5] ([kR 0 (R_s_facts_pile_state v0 q13.2.1 q13.2.2.1 q13.2.2.2)] : List (List zE)).flatten
              simpa only [if_neg c20, if_pos c21] using H19
            · refine AW.forget [true, true, true, true, true, false, false, true, false, false, false] ?_
              show AW Z 0 0 164 [some (.ref 0), some (.int y1), some (.int y2), some (.int y3), some (.int z18), none, none, some (.int x7), none, none, none] [.long q13.1] ([kR 0 (R_s_facts_pile_state v0 q13.2.1 q13.2.2.1 q13.2.2.2)] : List (List zE)).flatten
              simpa only [if_neg c20, if_neg c21] using H19
        replace hf := zlet_gen hf
        generalize ((if ((lg_cmp x5 0) < 0) then q13.1 else (if (0 ≤ (lg_cmp q13.1 x5)) then x5 else q13.1)) : Int64) = z22 at hf ⊢
        refine AW.run hZ hRm [52] 400 ?_
        show AW Z 0 0 52 [some (.ref 0), some (.int y1), some (.int y2), some (.int y3), some (.int z18), some (.long z22), none, some (.int (x7 + 25)), none, none, none] [] ([kR 0 (R_s_facts_pile_state v0 q13.2.1 q13.2.2.1 q13.2.2.2)] : List (List zE)).flatten
        exact ih v0 y1 y2 y3 z18 z22 (x7 + 25) q13.2.1 q13.2.2.1 q13.2.2.2 q hf hk0
set_option maxRecDepth 20000 in
set_option maxHeartbeats 4000000 in
theorem c_R_prepare (N : Nat) (v0 : VR) (a1 : Int32) (a2 : Int32) (R : Int32 × Int32 × (Nat → Int32) × (Nat → Int32) × (Nat → Int32)) (hf : f_R_prepare N v0 a1 a2 = some R) : Ct zMX12_prepare 6 0 0 0 [.ref 0, .int a1, .int a2] ([kR 0 v0] : List (List zE)).flatten (fun v cc => v = some (.int R.1) ∧ cc = ([kR 0 (R_s_thrown_facts_pile_state v0 R.2.1 R.2.2.1 R.2.2.2.1 R.2.2.2.2)] : List (List zE)).flatten) := by
  refine Ct.of zMX12_prepare_ok (by decide) (Nat.le_of_ble_eq_true rfl) ?_
  intro Z hZ hR hN hE
  have hRm : zRoom Z 0 0 := zRoom0 Z
  unfold f_R_prepare at hf
  show AW Z 0 0 0 [some (.ref 0), some (.int a1), some (.int a2), none, none, none, none, none, none, none, none] [] ([kR 0 v0] : List (List zE)).flatten
  refine AW.run hZ hRm [7] 400 ?_
  show AW Z 0 0 7 [some (.ref 0), some (.int a1), some (.int a2), none, none, none, none, none, none, none, none] [.int a1, .ref 0] ([kR 0 (R_thrown_s v0 0)] : List (List zE)).flatten
  obtain ⟨q1, h33, hf⟩ := zbind hf
  refine AW.callVc hZ hR hN (c_R_isPerson N (R_thrown_s v0 0) a1 q1 h33) zMX12_isPerson_ok rfl rfl zK_BorrowedLivesModel_356 zV_X12_isPerson rfl [25] [0] [0, 1, 2, 3, 4, 5, 6, 7, 8, 9, 10, 11, 12, 13, 14, 15, 16, 17, 18, 19, 20, 21, 22, 23, 24] rfl rfl rfl (by decide) (by decide) (by omega) (by decide) (Nat.zero_le _) (Nat.zero_le _) rfl rfl rfl rfl rfl ?_
  rintro v cc ⟨rfl, rfl⟩
  refine ⟨_, rfl, rfl, ?_⟩
  show AW Z 0 0 10 [some (.ref 0), some (.int a1), some (.int a2), none, none, none, none, none, none, none, none] [.int q1] ([kR 0 (R_thrown_s v0 0)] : List (List zE)).flatten
  refine AW.run hZ hRm [16, 30] 400 ?_
  show (((q1 = 0) → AW Z 0 0 30 [some (.ref 0), some (.int a1), some (.int a2), none, none, none, none, none, none, none, none] [.int (-1)] ([kR 0 (R_thrown_s v0 0)] : List (List zE)).flatten) ∧ (¬ (q1 = 0) → AW Z 0 0 16 [some (.ref 0), some (.int a1), some (.int a2), none, none, none, none, none, none, none, none] [.int 1, .int 0, .int a2] ([kR 0 (R_thrown_s v0 0)] : List (List zE)).flatten))
  refine ⟨fun c2 => ?_, fun c2 => ?_⟩
  · rw [if_pos c2] at hf
    cases hf
    exact AW.iret hZ hE rfl rfl rfl rfl (Nat.le_refl 0) (Nat.le_refl 0) rfl ⟨rfl, rfl⟩
  · rw [if_neg c2] at hf
    obtain ⟨q3, h32, hf⟩ := zbind hf
    refine AW.callSc hZ hR hN (c_R_within N a2 0 1 q3 h32) zMX12_within_ok rfl rfl zK_BorrowedLivesModel_359 zV_X12_within rfl [25] [] [] rfl rfl rfl (by decide) (by decide) (by omega) (by decide) (Nat.zero_le _) (Nat.zero_le _) rfl rfl ?_
    rintro v cc ⟨rfl, rfl⟩
    refine ⟨_, rfl, rfl, ?_⟩
    show AW Z 0 0 19 [some (.ref 0), some (.int a1), some (.int a2), none, none, none, none, none, none, none, none] [.int q3] ([kR 0 (R_thrown_s v0 0)] : List (List zE)).flatten
    refine AW.run hZ hRm [30, 52] 400 ?_
    show (((q3 = 0) → AW Z 0 0 30 [some (.ref 0), some (.int a1), some (.int a2), none, none, none, none, none, none, none, none] [.int (-1)] ([kR 0 (R_thrown_s v0 0)] : List (List zE)).flatten) ∧ (¬ (q3 = 0) → ((¬ ((R_lotsMany v0) = 0) → (¬ ((22 + a1) < 0 ∨ 1656 ≤ Int32.toNatClampNeg (22 + a1)) ∧ AW Z 0 0 52 [some (.ref 0), some (.int a1), some (.int a2), some (.int ((R_state v0) (Int32.toNatClampNeg (22 + a1)))), some (.int 0), some (.long (-1)), none, some (.int 0), none, none, none] [] ([kR 0 (R_thrown_s v0 0)] : List (List zE)).flatten)) ∧ (((R_lotsMany v0) = 0) → AW Z 0 0 30 [some (.ref 0), some (.int a1), some (.int a2), none, none, none, none, none, none, none, none] [.int (-1)] ([kR 0 (R_thrown_s v0 0)] : List (List zE)).flatten))))
    refine ⟨fun c4 => ?_, fun c4 => ?_⟩
    · rw [if_pos c4] at hf
      cases hf
      exact AW.iret hZ hE rfl rfl rfl rfl (Nat.le_refl 0) (Nat.le_refl 0) rfl ⟨rfl, rfl⟩
    · rw [if_neg c4] at hf
      refine ⟨fun c5 => ?_, fun c5 => ?_⟩
      · rw [if_neg c5] at hf
        obtain ⟨b31, hf⟩ := zneed hf
        refine ⟨b31, ?_⟩
        obtain ⟨q25, h26, hf⟩ := zbind hf
        refine c_R_prepare_L52 hZ hR (by omega) hN hRm N N (R_thrown_s v0 0) a1 a2 ((R_state v0) (Int32.toNatClampNeg (22 + a1))) 0 (-1) 0 (R_facts v0) (R_pile v0) (R_state v0) q25 h26 ?_
        show AW Z 0 0 172 [some (.ref 0), some (.int a1), some (.int a2), some (.int ((R_state v0) (Int32.toNatClampNeg (22 + a1)))), some (.int q25.1), some (.long q25.2.1), none, none, none, none, none] [] ([kR 0 (R_s_thrown_facts_pile_state v0 0 q25.2.2.1 q25.2.2.2.1 q25.2.2.2.2)] : List (List zE)).flatten
        refine AW.run hZ hRm [182] 400 ?_
        show (¬ ((22 + a1) < 0 ∨ 1656 ≤ Int32.toNatClampNeg (22 + a1)) ∧ AW Z 0 0 182 [some (.ref 0), some (.int a1), some (.int a2), some (.int ((R_state v0) (Int32.toNatClampNeg (22 + a1)))), some (.int q25.1), some (.long q25.2.1), none, none, none, none, none] [] ([kR 0 (R_s_thrown_facts_pile_state v0 0 q25.2.2.1 q25.2.2.2.1 (upd q25.2.2.2.2 (Int32.toNatClampNeg (22 + a1)) ((R_state v0) (Int32.toNatClampNeg (22 + a1)))))] : List (List zE)).flatten)
        obtain ⟨b30, hf⟩ := zneed hf
        refine ⟨b30, ?_⟩
        replace hf := zlet_gen hf
        generalize ((upd q25.2.2.2.2 (Int32.toNatClampNeg (22 + a1)) ((R_state v0) (Int32.toNatClampNeg (22 + a1)))) : (Nat → Int32)) = z27 at hf ⊢
        as_aux_lemma =>
          refine AW.run hZ hRm [204] 400 ?_
          show ((¬ (a2 = 0) → (¬ ((Int32.toInt64 (R_lotsMany v0)) = 0) ∧ AW Z 0 0 204 [some (.ref 0), some (.int a1), some (.int a2), some (.int ((R_state v0) (Int32.toNatClampNeg (22 + a1)))), some (.int q25.1), some (.long q25.2.1), none, none, none, none, none] [.int (Int64.toInt32 ((q25.2.1 * 1000) / (Int32.toInt64 (R_lotsMany v0))))] ([kR 0 (R_s_thrown_facts_pile_state v0 0 q25.2.2.1 q25.2.2.2.1 z27)] : List (List zE)).flatten)) ∧ ((a2 = 0) → AW Z 0 0 204 [some (.ref 0), some (.int a1), some (.int a2), some (.int ((R_state v0) (Int32.toNatClampNeg (22 + a1)))), some (.int q25.1), some (.long q25.2.1), none, none, none, none, none] [.int q25.1] ([kR 0 (R_s_thrown_facts_pile_state v0 0 q25.2.2.1 q25.2.2.2.1 z27)] : List (List zE)).flatten))
          refine ⟨fun c28 => ?_, fun c28 => ?_⟩
          · rw [if_neg c28] at hf
            obtain ⟨b29, hf⟩ := zneed hf
            refine ⟨b29, ?_⟩
            cases hf
            exact AW.iret hZ hE rfl rfl rfl rfl (Nat.le_refl 0) (Nat.le_refl 0) rfl ⟨rfl, rfl⟩
          · rw [if_pos c28] at hf
            cases hf
            exact AW.iret hZ hE rfl rfl rfl rfl (Nat.le_refl 0) (Nat.le_refl 0) rfl ⟨rfl, rfl⟩
      · rw [if_pos c5] at hf
        cases hf
        exact AW.iret hZ hE rfl rfl rfl rfl (Nat.le_refl 0) (Nat.le_refl 0) rfl ⟨rfl, rfl⟩
def f_R_law_L35 (N : Nat) : Nat → VR → Int64 → Int32 → (Nat → Int32) → (Nat → Int32) → (Nat → Int32) → Option (Int64 × (Nat → Int32) × (Nat → Int32) × (Nat → Int32))
  | 0, _, _, _, _, _, _ => none
  | fuel + 1, v0, x2, x4, m_facts0, m_pile1, m_state2 => (if ((R_lotsMany v0) ≤ x4) then (some (x2, m_facts0, m_pile1, m_state2)) else ((f_R_weekBy N (R_s_facts_pile_state v0 m_facts0 m_pile1 m_state2) x4).bind (fun q5 => ((f_R_allHarm N (R_s_facts_pile_state v0 q5.1 q5.2.1 q5.2.2) 1584 0).bind (fun q6 => (f_R_law_L35 N fuel v0 (x2 + (Int32.toInt64 q6)) (x4 + 1) q5.1 q5.2.1 q5.2.2))))))
def f_R_law (N : Nat) (v0 : VR) (a1 : Int32) : Option (Int32 × Int32 × (Nat → Int32) × (Nat → Int32) × (Nat → Int32) × Int32) := ((f_R_within N a1 0 999).bind (fun q1 => (if (q1 = 0) then (some ((-1), 0, (R_facts v0), (R_pile v0), (R_state v0), (R_signed v0))) else (if ((R_lotsMany v0) = 0) then (some ((-1), 0, (R_facts v0), (R_pile v0), (R_state v0), (R_signed v0))) else ((f_R_law_L35 N N (R_s_thrown_signed v0 0 a1) 0 0 (R_facts v0) (R_pile v0) (R_state v0)).bind (fun q9 => (if ((Int32.toInt64 (R_lotsMany v0)) = 0) then none else (some ((Int64.toInt32 ((q9.1 * 1000) / (Int32.toInt64 (R_lotsMany v0)))), 0, q9.2.1, q9.2.2.1, q9.2.2.2, ((R_towns v0) (Int32.toNatClampNeg 2)))))))))))
set_option maxRecDepth 20000 in
set_option maxHeartbeats 4000000 in
theorem c_R_law_L35 {Z : zCtx} {D n0w nf mcw msw : Nat} (hZ : zOk Z zMX12_law) (hR : zCan Z D mcw msw) (hDd : 6 ≤ D) (hN : zNew Z n0w nf) (hRm : zRoom Z 0 0) (N : Nat) : ∀ (fuel : Nat) (v0 : VR) (x2 : Int64) (x4 : Int32) (m_facts0 : (Nat → Int32)) (m_pile1 : (Nat → Int32)) (m_state2 : (Nat → Int32)) (q : (Int64 × (Nat → Int32) × (Nat → Int32) × (Nat → Int32))), f_R_law_L35 N fuel v0 x2 x4 m_facts0 m_pile1 m_state2 = some q → (AW Z 0 0 68 [some (.ref 0), none, some (.long q.1), none, none] [] ([kR 0 (R_s_facts_pile_state v0 q.2.1 q.2.2.1 q.2.2.2)] : List (List zE)).flatten) → AW Z 0 0 35 [some (.ref 0), none, some (.long x2), none, some (.int x4)] [] ([kR 0 (R_s_facts_pile_state v0 m_facts0 m_pile1 m_state2)] : List (List zE)).flatten := by
  intro fuel
  induction fuel with
  | zero =>
    intro v0 x2 x4 m_facts0 m_pile1 m_state2 q hf hk0
    simp [f_R_law_L35] at hf
  | succ fuel ih =>
    intro v0 x2 x4 m_facts0 m_pile1 m_state2 q hf hk0
    rw [f_R_law_L35] at hf
    refine AW.run hZ hRm [47, 68] 400 ?_
    show ((((R_lotsMany v0) ≤ x4) → AW Z 0 0 68 [some (.ref 0), none, some (.long x2), none, some (.int x4)] [] ([kR 0 (R_s_facts_pile_state v0 m_facts0 m_pile1 m_state2)] : List (List zE)).flatten) ∧ (¬ ((R_lotsMany v0) ≤ x4) → AW Z 0 0 47 [some (.ref 0), none, some (.long x2), none, some (.int x4)] [.int x4, .ref 0] ([kR 0 (R_s_facts_pile_state v0 m_facts0 m_pile1 m_state2)] : List (List zE)).flatten))
    refine ⟨fun c4 => ?_, fun c4 => ?_⟩
    · rw [if_pos c4] at hf
      cases hf
      refine AW.forget [true, false, true, false, false] ?_
      show AW Z 0 0 68 [some (.ref 0), none, some (.long x2), none, none] [] ([kR 0 (R_s_facts_pile_state v0 m_facts0 m_pile1 m_state2)] : List (List zE)).flatten
      exact hk0
    · rw [if_neg c4] at hf
      obtain ⟨q5, h8, hf⟩ := zbind hf
      refine AW.callVc hZ hR hN (c_R_weekBy N (R_s_facts_pile_state v0 m_facts0 m_pile1 m_state2) x4 q5 h8) zMX12_weekBy_ok rfl rfl zK_BorrowedLivesModel_415 zV_X12_weekBy rfl [25] [0] [0, 1, 2, 3, 4, 5, 6, 7, 8, 9, 10, 11, 12, 13, 14, 15, 16, 17, 18, 19, 20, 21, 22, 23, 24] rfl rfl rfl (by decide) (by decide) (by omega) (by decide) (Nat.zero_le _) (Nat.zero_le _) rfl rfl rfl rfl rfl ?_
      rintro v cc ⟨rfl, rfl⟩
      refine ⟨_, rfl, rfl, ?_⟩
      show AW Z 0 0 50 [some (.ref 0), none, some (.long x2), none, some (.int x4)] [] ([kR 0 (R_s_facts_pile_state v0 q5.1 q5.2.1 q5.2.2)] : List (List zE)).flatten
      refine AW.run hZ hRm [56] 400 ?_
      show AW Z 0 0 56 [some (.ref 0), none, some (.long x2), none, some (.int x4)] [.int 0, .int 1584, .ref 0, .long x2] ([kR 0 (R_s_facts_pile_state v0 q5.1 q5.2.1 q5.2.2)] : List (List zE)).flatten
      obtain ⟨q6, h7, hf⟩ := zbind hf
      refine AW.callVc hZ hR hN (c_R_allHarm N (R_s_facts_pile_state v0 q5.1 q5.2.1 q5.2.2) 1584 0 q6 h7) zMX12_allHarm_ok rfl rfl zK_BorrowedLivesModel_352 zV_X12_allHarm rfl [25] [0] [0, 1, 2, 3, 4, 5, 6, 7, 8, 9, 10, 11, 12, 13, 14, 15, 16, 17, 18, 19, 20, 21, 22, 23, 24] rfl rfl rfl (by decide) (by decide) (by omega) (by decide) (Nat.zero_le _) (Nat.zero_le _) rfl rfl rfl rfl rfl ?_
      rintro v cc ⟨rfl, rfl⟩
      refine ⟨_, rfl, rfl, ?_⟩
      show AW Z 0 0 59 [some (.ref 0), none, some (.long x2), none, some (.int x4)] [.int q6, .long x2] ([kR 0 (R_s_facts_pile_state v0 q5.1 q5.2.1 q5.2.2)] : List (List zE)).flatten
      refine AW.run hZ hRm [35] 400 ?_
      show AW Z 0 0 35 [some (.ref 0), none, some (.long (x2 + (Int32.toInt64 q6))), none, some (.int (x4 + 1))] [] ([kR 0 (R_s_facts_pile_state v0 q5.1 q5.2.1 q5.2.2)] : List (List zE)).flatten
      exact ih v0 (x2 + (Int32.toInt64 q6)) (x4 + 1) q5.1 q5.2.1 q5.2.2 q hf hk0
set_option maxRecDepth 20000 in
set_option maxHeartbeats 4000000 in
theorem c_R_law (N : Nat) (v0 : VR) (a1 : Int32) (R : Int32 × Int32 × (Nat → Int32) × (Nat → Int32) × (Nat → Int32) × Int32) (hf : f_R_law N v0 a1 = some R) : Ct zMX12_law 6 0 0 0 [.ref 0, .int a1] ([kR 0 v0] : List (List zE)).flatten (fun v cc => v = some (.int R.1) ∧ cc = ([kR 0 (R_s_thrown_facts_pile_state_signed v0 R.2.1 R.2.2.1 R.2.2.2.1 R.2.2.2.2.1 R.2.2.2.2.2)] : List (List zE)).flatten) := by
  refine Ct.of zMX12_law_ok (by decide) (Nat.le_of_ble_eq_true rfl) ?_
  intro Z hZ hR hN hE
  have hRm : zRoom Z 0 0 := zRoom0 Z
  unfold f_R_law at hf
  show AW Z 0 0 0 [some (.ref 0), some (.int a1), none, none, none] [] ([kR 0 v0] : List (List zE)).flatten
  refine AW.run hZ hRm [10] 400 ?_
  show AW Z 0 0 10 [some (.ref 0), some (.int a1), none, none, none] [.int 999, .int 0, .int a1] ([kR 0 (R_thrown_s v0 0)] : List (List zE)).flatten
  obtain ⟨q1, h12, hf⟩ := zbind hf
  refine AW.callSc hZ hR hN (c_R_within N a1 0 999 q1 h12) zMX12_within_ok rfl rfl zK_BorrowedLivesModel_359 zV_X12_within rfl [25] [] [] rfl rfl rfl (by decide) (by decide) (by omega) (by decide) (Nat.zero_le _) (Nat.zero_le _) rfl rfl ?_
  rintro v cc ⟨rfl, rfl⟩
  refine ⟨_, rfl, rfl, ?_⟩
  show AW Z 0 0 13 [some (.ref 0), some (.int a1), none, none, none] [.int q1] ([kR 0 (R_thrown_s v0 0)] : List (List zE)).flatten
  refine AW.run hZ hRm [24, 35] 400 ?_
  show (((q1 = 0) → AW Z 0 0 24 [some (.ref 0), some (.int a1), none, none, none] [.int (-1)] ([kR 0 (R_thrown_s v0 0)] : List (List zE)).flatten) ∧ (¬ (q1 = 0) → ((¬ ((R_lotsMany v0) = 0) → AW Z 0 0 35 [some (.ref 0), some (.int a1), some (.long 0), none, some (.int 0)] [] ([kR 0 (R_s_thrown_signed v0 0 a1)] : List (List zE)).flatten) ∧ (((R_lotsMany v0) = 0) → AW Z 0 0 24 [some (.ref 0), some (.int a1), none, none, none] [.int (-1)] ([kR 0 (R_thrown_s v0 0)] : List (List zE)).flatten))))
  refine ⟨fun c2 => ?_, fun c2 => ?_⟩
  · rw [if_pos c2] at hf
    cases hf
    exact AW.iret hZ hE rfl rfl rfl rfl (Nat.le_refl 0) (Nat.le_refl 0) rfl ⟨rfl, rfl⟩
  · rw [if_neg c2] at hf
    refine ⟨fun c3 => ?_, fun c3 => ?_⟩
    · rw [if_neg c3] at hf
      obtain ⟨q9, h10, hf⟩ := zbind hf
      refine AW.forget [true, false, true, false, true] ?_
      show AW Z 0 0 35 [some (.ref 0), none, some (.long 0), none, some (.int 0)] [] ([kR 0 (R_s_thrown_signed v0 0 a1)] : List (List zE)).flatten
      refine c_R_law_L35 hZ hR (by omega) hN hRm N N (R_s_thrown_signed v0 0 a1) 0 0 (R_facts v0) (R_pile v0) (R_state v0) q9 h10 ?_
      show AW Z 0 0 68 [some (.ref 0), none, some (.long q9.1), none, none] [] ([kR 0 (R_s_thrown_facts_pile_state_signed v0 0 q9.2.1 q9.2.2.1 q9.2.2.2 a1)] : List (List zE)).flatten
      refine AW.run hZ hRm [90] 400 ?_
      show (¬ ((2 : Int32) < 0 ∨ 160 ≤ Int32.toNatClampNeg 2) ∧ (¬ ((Int32.toInt64 (R_lotsMany v0)) = 0) ∧ AW Z 0 0 90 [some (.ref 0), none, some (.long q9.1), none, none] [.int (Int64.toInt32 ((q9.1 * 1000) / (Int32.toInt64 (R_lotsMany v0))))] ([kR 0 (R_s_thrown_facts_pile_state_signed v0 0 q9.2.1 q9.2.2.1 q9.2.2.2 ((R_towns v0) (Int32.toNatClampNeg 2)))] : List (List zE)).flatten))
      refine ⟨(by decide), ?_⟩
      obtain ⟨b11, hf⟩ := zneed hf
      refine ⟨b11, ?_⟩
      cases hf
      exact AW.iret hZ hE rfl rfl rfl rfl (Nat.le_refl 0) (Nat.le_refl 0) rfl ⟨rfl, rfl⟩
    · rw [if_pos c3] at hf
      cases hf
      exact AW.iret hZ hE rfl rfl rfl rfl (Nat.le_refl 0) (Nat.le_refl 0) rfl ⟨rfl, rfl⟩
def f_R_goodOf (N : Nat) (v0 : VR) (a1 : Int32) (a2 : Int32) (a3 : Int32) : Option (Int32 × (Nat → Int32) × (Nat → Int32)) := (zlet ((upd (R_facts v0) (Int32.toNatClampNeg 0) a1) : (Nat → Int32)) (fun z1 => (zlet ((upd z1 (Int32.toNatClampNeg 1) a2) : (Nat → Int32)) (fun z2 => (zlet ((upd z2 (Int32.toNatClampNeg 2) a3) : (Nat → Int32)) (fun z3 => (if (0 ≤ ((R_towns v0) (Int32.toNatClampNeg 5))) then ((f_R_worthAt N (R_facts_s v0 z3) ((R_towns v0) (Int32.toNatClampNeg 5))).bind (fun q5 => (some (q5.1, z3, q5.2)))) else (some (((a1 - (a2 * 2)) + (a3 * 10)), z3, (R_pile v0))))))))))
set_option maxRecDepth 20000 in
set_option maxHeartbeats 4000000 in
theorem c_R_goodOf (N : Nat) (v0 : VR) (a1 : Int32) (a2 : Int32) (a3 : Int32) (R : Int32 × (Nat → Int32) × (Nat → Int32)) (hf : f_R_goodOf N v0 a1 a2 a3 = some R) : Ct zMX12_goodOf 3 0 0 0 [.ref 0, .int a1, .int a2, .int a3] ([kR 0 v0] : List (List zE)).flatten (fun v cc => v = some (.int R.1) ∧ cc = ([kR 0 (R_s_facts_pile v0 R.2.1 R.2.2)] : List (List zE)).flatten) := by
  refine Ct.of zMX12_goodOf_ok (by decide) (Nat.le_of_ble_eq_true rfl) ?_
  intro Z hZ hR hN hE
  have hRm : zRoom Z 0 0 := zRoom0 Z
  unfold f_R_goodOf at hf
  show AW Z 0 0 0 [some (.ref 0), some (.int a1), some (.int a2), some (.int a3)] [] ([kR 0 v0] : List (List zE)).flatten
  refine AW.run hZ hRm [7] 400 ?_
  show (¬ ((0 : Int32) < 0 ∨ 5 ≤ Int32.toNatClampNeg 0) ∧ AW Z 0 0 7 [some (.ref 0), some (.int a1), some (.int a2), some (.int a3)] [] ([kR 0 (R_facts_s v0 (upd (R_facts v0) (Int32.toNatClampNeg 0) a1))] : List (List zE)).flatten)
  refine ⟨(by decide), ?_⟩
  replace hf := zlet_gen hf
  generalize ((upd (R_facts v0) (Int32.toNatClampNeg 0) a1) : (Nat → Int32)) = z1 at hf ⊢
  as_aux_lemma =>
    refine AW.run hZ hRm [14] 400 ?_
    show (¬ ((1 : Int32) < 0 ∨ 5 ≤ Int32.toNatClampNeg 1) ∧ AW Z 0 0 14 [some (.ref 0), some (.int a1), some (.int a2), some (.int a3)] [] ([kR 0 (R_facts_s v0 (upd z1 (Int32.toNatClampNeg 1) a2))] : List (List zE)).flatten)
    refine ⟨(by decide), ?_⟩
    replace hf := zlet_gen hf
    generalize ((upd z1 (Int32.toNatClampNeg 1) a2) : (Nat → Int32)) = z2 at hf ⊢
    as_aux_lemma =>
      refine AW.run hZ hRm [21] 400 ?_
      show (¬ ((2 : Int32) < 0 ∨ 5 ≤ Int32.toNatClampNeg 2) ∧ AW Z 0 0 21 [some (.ref 0), some (.int a1), some (.int a2), some (.int a3)] [] ([kR 0 (R_facts_s v0 (upd z2 (Int32.toNatClampNeg 2) a3))] : List (List zE)).flatten)
      refine ⟨(by decide), ?_⟩
      replace hf := zlet_gen hf
      generalize ((upd z2 (Int32.toNatClampNeg 2) a3) : (Nat → Int32)) = z3 at hf ⊢
      as_aux_lemma =>
        refine AW.run hZ hRm [50, 53] 400 ?_
        show (¬ ((5 : Int32) < 0 ∨ 160 ≤ Int32.toNatClampNeg 5) ∧ (((0 ≤ ((R_towns v0) (Int32.toNatClampNeg 5))) → (¬ ((5 : Int32) < 0 ∨ 160 ≤ Int32.toNatClampNeg 5) ∧ AW Z 0 0 50 [some (.ref 0), some (.int a1), some (.int a2), some (.int a3)] [.int ((R_towns v0) (Int32.toNatClampNeg 5)), .ref 0] ([kR 0 (R_facts_s v0 z3)] : List (List zE)).flatten)) ∧ (¬ (0 ≤ ((R_towns v0) (Int32.toNatClampNeg 5))) → AW Z 0 0 53 [some (.ref 0), some (.int a1), some (.int a2), some (.int a3)] [.int ((a1 - (a2 * 2)) + (a3 * 10))] ([kR 0 (R_facts_s v0 z3)] : List (List zE)).flatten)))
        refine ⟨(by decide), ?_⟩
        refine ⟨fun c4 => ?_, fun c4 => ?_⟩
        · rw [if_pos c4] at hf
          refine ⟨(by decide), ?_⟩
          obtain ⟨q5, h6, hf⟩ := zbind hf
          refine AW.callVc hZ hR hN (c_R_worthAt N (R_facts_s v0 z3) ((R_towns v0) (Int32.toNatClampNeg 5)) q5 h6) zMX12_worthAt_ok rfl rfl zK_BorrowedLivesModel_331 zV_X12_worthAt rfl [25] [0] [0, 1, 2, 3, 4, 5, 6, 7, 8, 9, 10, 11, 12, 13, 14, 15, 16, 17, 18, 19, 20, 21, 22, 23, 24] rfl rfl rfl (by decide) (by decide) (by omega) (by decide) (Nat.zero_le _) (Nat.zero_le _) rfl rfl rfl rfl rfl ?_
          rintro v cc ⟨rfl, rfl⟩
          refine ⟨_, rfl, rfl, ?_⟩
          show AW Z 0 0 53 [some (.ref 0), some (.int a1), some (.int a2), some (.int a3)] [.int q5.1] ([kR 0 (R_s_facts_pile v0 z3 q5.2)] : List (List zE)).flatten
          cases hf
          exact AW.iret hZ hE rfl rfl rfl rfl (Nat.le_refl 0) (Nat.le_refl 0) rfl ⟨rfl, rfl⟩
        · rw [if_neg c4] at hf
          cases hf
          exact AW.iret hZ hE rfl rfl rfl rfl (Nat.le_refl 0) (Nat.le_refl 0) rfl ⟨rfl, rfl⟩
