def f_R_year_L11 (N : Nat) : Nat → VR → Int32 → Int32 → Int32 → (Nat → Int32) → Option (Int32 × Int32 × Int32 × (Nat → Int32))
  | 0, _, _, _, _, _ => none
  | fuel + 1, v0, x1, m_at0, m_fault1, m_lines2 => (if (m_fault1 = 0) then (if (m_at0 < 0 ∨ 1002 ≤ Int32.toNatClampNeg m_at0) then none else (if (((R_sort v0) (Int32.toNatClampNeg m_at0)) = 0) then (some (x1, m_at0, m_fault1, m_lines2)) else ((f_R_yearWord N (R_s_at_fault_lines v0 m_at0 m_fault1 m_lines2)).bind (fun q4 => (if (0 ≤ q4) then (if (x1 = 40) then ((f_R_wrong N (R_s_at_fault_lines v0 m_at0 m_fault1 m_lines2) 5).bind (fun q13 => ((f_R_takeSign N (R_s_at_fault_lines v0 m_at0 q13 m_lines2) 59).bind (fun q14 => (f_R_year_L11 N fuel v0 x1 q14.1 q14.2 m_lines2))))) else (if ((125 + (3 * x1)) < 0 ∨ 250 ≤ Int32.toNatClampNeg (125 + (3 * x1))) then none else (zlet ((upd m_lines2 (Int32.toNatClampNeg (125 + (3 * x1))) q4) : (Nat → Int32)) (fun z7 => ((f_R_readYear N (R_s_at_fault_lines v0 (m_at0 + 1) m_fault1 z7) q4 (126 + (3 * x1))).bind (fun q8 => ((f_R_takeSign N (R_s_at_fault_lines v0 q8.1 q8.2.1 q8.2.2) 59).bind (fun q9 => (f_R_year_L11 N fuel v0 (x1 + 1) q9.1 q9.2 q8.2.2))))))))) else ((f_R_wrong N (R_s_at_fault_lines v0 m_at0 m_fault1 m_lines2) 1).bind (fun q17 => ((f_R_takeSign N (R_s_at_fault_lines v0 m_at0 q17 m_lines2) 59).bind (fun q18 => (f_R_year_L11 N fuel v0 x1 q18.1 q18.2 m_lines2)))))))))) else (some (x1, m_at0, m_fault1, m_lines2)))
def f_R_year_L127 (N : Nat) : Nat → VR → Int32 → Int32 → (Nat → Int32) → Option ((Nat → Int32))
  | 0, _, _, _, _ => none
  | fuel + 1, v0, y1, x2, m_lines0 => (if ((3 * y1) ≤ x2) then (some m_lines0) else (if ((125 + x2) < 0 ∨ 250 ≤ Int32.toNatClampNeg (125 + x2)) then none else (if ((1 + x2) < 0 ∨ 250 ≤ Int32.toNatClampNeg (1 + x2)) then none else (zlet ((upd m_lines0 (Int32.toNatClampNeg (1 + x2)) (m_lines0 (Int32.toNatClampNeg (125 + x2)))) : (Nat → Int32)) (fun z28 => (f_R_year_L127 N fuel v0 y1 (x2 + 1) z28))))))
def f_R_year (N : Nat) (v0 : VR) : Option (Int32 × Int32 × Int32 × Int32 × (Nat → Int32) × (Nat → Int32) × (Nat → Int64) × Int32 × Int32 × (Nat → Int32)) := ((f_R_cutAll N (R_thrown_s v0 0)).bind (fun q1 => ((f_R_year_L11 N N (R_s_thrown_taped_size_sort_place_value_at_fault v0 0 q1.1 q1.2.1 q1.2.2.1 q1.2.2.2.1 q1.2.2.2.2.1 q1.2.2.2.2.2.1 q1.2.2.2.2.2.2) 0 q1.2.2.2.2.2.1 q1.2.2.2.2.2.2 (R_lines v0)).bind (fun q23 => (if (q23.2.2.1 ≤ 0) then (zlet ((upd q23.2.2.2 (Int32.toNatClampNeg 0) q23.1) : (Nat → Int32)) (fun z26 => ((f_R_year_L127 N N (R_s_thrown_taped_size_sort_place_value_at_fault_lines v0 0 q1.1 q1.2.1 q1.2.2.1 q1.2.2.2.1 q1.2.2.2.2.1 q23.2.1 q23.2.2.1 z26) q23.1 0 z26).bind (fun q31 => (some (0, 0, q1.1, q1.2.1, q1.2.2.1, q1.2.2.2.1, q1.2.2.2.2.1, q23.2.1, q23.2.2.1, q31)))))) else (some (q23.2.2.1, 0, q1.1, q1.2.1, q1.2.2.1, q1.2.2.2.1, q1.2.2.2.2.1, q23.2.1, q23.2.2.1, q23.2.2.2)))))))
set_option maxRecDepth 20000 in
set_option maxHeartbeats 4000000 in
theorem c_R_year_L11 {Z : zCtx} {D n0w nf mcw msw : Nat} (hZ : zOk Z zMX12_year) (hR : zCan Z D mcw msw) (hDd : 7 ≤ D) (hN : zNew Z n0w nf) (hRm : zRoom Z 0 0) (N : Nat) : ∀ (fuel : Nat) (v0 : VR) (x1 : Int32) (m_at0 : Int32) (m_fault1 : Int32) (m_lines2 : (Nat → Int32)) (q : (Int32 × Int32 × Int32 × (Nat → Int32))), f_R_year_L11 N fuel v0 x1 m_at0 m_fault1 m_lines2 = some q → (AW Z 0 0 106 [some (.ref 0), some (.int q.1), none] [] ([kR 0 (R_s_at_fault_lines v0 q.2.1 q.2.2.1 q.2.2.2)] : List (List zE)).flatten) → AW Z 0 0 11 [some (.ref 0), some (.int x1), none] [] ([kR 0 (R_s_at_fault_lines v0 m_at0 m_fault1 m_lines2)] : List (List zE)).flatten := by
  intro fuel
  induction fuel with
  | zero =>
    intro v0 x1 m_at0 m_fault1 m_lines2 q hf hk0
    simp [f_R_year_L11] at hf
  | succ fuel ih =>
    intro v0 x1 m_at0 m_fault1 m_lines2 q hf hk0
    rw [f_R_year_L11] at hf
    refine AW.run hZ hRm [31, 106] 400 ?_
    show ((¬ (m_fault1 = 0) → AW Z 0 0 106 [some (.ref 0), some (.int x1), none] [] ([kR 0 (R_s_at_fault_lines v0 m_at0 m_fault1 m_lines2)] : List (List zE)).flatten) ∧ ((m_fault1 = 0) → (¬ (m_at0 < 0 ∨ 1002 ≤ Int32.toNatClampNeg m_at0) ∧ (((((R_sort v0) (Int32.toNatClampNeg m_at0)) = 0) → AW Z 0 0 106 [some (.ref 0), some (.int x1), none] [] ([kR 0 (R_s_at_fault_lines v0 m_at0 m_fault1 m_lines2)] : List (List zE)).flatten) ∧ (¬ (((R_sort v0) (Int32.toNatClampNeg m_at0)) = 0) → AW Z 0 0 31 [some (.ref 0), some (.int x1), none] [.ref 0] ([kR 0 (R_s_at_fault_lines v0 m_at0 m_fault1 m_lines2)] : List (List zE)).flatten)))))
    refine ⟨fun c2 => ?_, fun c2 => ?_⟩
    · rw [if_neg c2] at hf
      cases hf
      exact hk0
    · rw [if_pos c2] at hf
      obtain ⟨b22, hf⟩ := zneed hf
      refine ⟨b22, ?_⟩
      refine ⟨fun c3 => ?_, fun c3 => ?_⟩
      · rw [if_pos c3] at hf
        cases hf
        exact hk0
      · rw [if_neg c3] at hf
        obtain ⟨q4, h21, hf⟩ := zbind hf
        refine AW.callVc hZ hR hN (c_R_yearWord N (R_s_at_fault_lines v0 m_at0 m_fault1 m_lines2) q4 h21) zMX12_yearWord_ok rfl rfl zK_BorrowedLivesModel_266 zV_X12_yearWord rfl [25] [0] [0, 1, 2, 3, 4, 5, 6, 7, 8, 9, 10, 11, 12, 13, 14, 15, 16, 17, 18, 19, 20, 21, 22, 23, 24] rfl rfl rfl (by decide) (by decide) (by omega) (by decide) (Nat.zero_le _) (Nat.zero_le _) rfl rfl rfl rfl rfl ?_
        rintro v cc ⟨rfl, rfl⟩
        refine ⟨_, rfl, rfl, ?_⟩
        show AW Z 0 0 34 [some (.ref 0), some (.int x1), none] [.int q4] ([kR 0 (R_s_at_fault_lines v0 m_at0 m_fault1 m_lines2)] : List (List zE)).flatten
        refine AW.run hZ hRm [41, 55, 83] 400 ?_
        show (((0 ≤ q4) → ((¬ (x1 = 40) → (¬ ((125 + (3 * x1)) < 0 ∨ 250 ≤ Int32.toNatClampNeg (125 + (3 * x1))) ∧ AW Z 0 0 83 [some (.ref 0), some (.int x1), some (.int q4)] [] ([kR 0 (R_s_at_fault_lines v0 (m_at0 + 1) m_fault1 (upd m_lines2 (Int32.toNatClampNeg (125 + (3 * x1))) q4))] : List (List zE)).flatten)) ∧ ((x1 = 40) → AW Z 0 0 55 [some (.ref 0), some (.int x1), some (.int q4)] [.int 5, .ref 0] ([kR 0 (R_s_at_fault_lines v0 m_at0 m_fault1 m_lines2)] : List (List zE)).flatten))) ∧ (¬ (0 ≤ q4) → AW Z 0 0 41 [some (.ref 0), some (.int x1), some (.int q4)] [.int 1, .ref 0] ([kR 0 (R_s_at_fault_lines v0 m_at0 m_fault1 m_lines2)] : List (List zE)).flatten))
        refine ⟨fun c5 => ?_, fun c5 => ?_⟩
        · rw [if_pos c5] at hf
          refine ⟨fun c6 => ?_, fun c6 => ?_⟩
          · rw [if_neg c6] at hf
            obtain ⟨b12, hf⟩ := zneed hf
            refine ⟨b12, ?_⟩
            replace hf := zlet_gen hf
            generalize ((upd m_lines2 (Int32.toNatClampNeg (125 + (3 * x1))) q4) : (Nat → Int32)) = z7 at hf ⊢
            as_aux_lemma =>
              refine AW.run hZ hRm [91] 400 ?_
              show AW Z 0 0 91 [some (.ref 0), some (.int x1), some (.int q4)] [.int (126 + (3 * x1)), .int q4, .ref 0] ([kR 0 (R_s_at_fault_lines v0 (m_at0 + 1) m_fault1 z7)] : List (List zE)).flatten
              obtain ⟨q8, h11, hf⟩ := zbind hf
              refine AW.callVc hZ hR hN (c_R_readYear N (R_s_at_fault_lines v0 (m_at0 + 1) m_fault1 z7) q4 (126 + (3 * x1)) q8 h11) zMX12_readYear_ok rfl rfl zK_BorrowedLivesModel_270 zV_X12_readYear rfl [25] [0] [0, 1, 2, 3, 4, 5, 6, 7, 8, 9, 10, 11, 12, 13, 14, 15, 16, 17, 18, 19, 20, 21, 22, 23, 24] rfl rfl rfl (by decide) (by decide) (by omega) (by decide) (Nat.zero_le _) (Nat.zero_le _) rfl rfl rfl rfl rfl ?_
              rintro v cc ⟨rfl, rfl⟩
              refine ⟨_, rfl, rfl, ?_⟩
              show AW Z 0 0 94 [some (.ref 0), some (.int x1), some (.int q4)] [] ([kR 0 (R_s_at_fault_lines v0 q8.1 q8.2.1 q8.2.2)] : List (List zE)).flatten
              refine AW.run hZ hRm [100] 400 ?_
              show AW Z 0 0 100 [some (.ref 0), some (.int (x1 + 1)), some (.int q4)] [.int 59, .ref 0] ([kR 0 (R_s_at_fault_lines v0 q8.1 q8.2.1 q8.2.2)] : List (List zE)).flatten
              obtain ⟨q9, h10, hf⟩ := zbind hf
              refine AW.callVc hZ hR hN (c_R_takeSign N (R_s_at_fault_lines v0 q8.1 q8.2.1 q8.2.2) 59 q9 h10) zMX12_takeSign_ok rfl rfl zK_BorrowedLivesModel_243 zV_X12_takeSign rfl [25] [0] [0, 1, 2, 3, 4, 5, 6, 7, 8, 9, 10, 11, 12, 13, 14, 15, 16, 17, 18, 19, 20, 21, 22, 23, 24] rfl rfl rfl (by decide) (by decide) (by omega) (by decide) (Nat.zero_le _) (Nat.zero_le _) rfl rfl rfl rfl rfl ?_
              rintro v cc ⟨rfl, rfl⟩
              refine ⟨_, rfl, rfl, ?_⟩
              show AW Z 0 0 103 [some (.ref 0), some (.int (x1 + 1)), some (.int q4)] [] ([kR 0 (R_s_at_fault_lines v0 q9.1 q9.2 q8.2.2)] : List (List zE)).flatten
              refine AW.run hZ hRm [11] 400 ?_
              show AW Z 0 0 11 [some (.ref 0), some (.int (x1 + 1)), some (.int q4)] [] ([kR 0 (R_s_at_fault_lines v0 q9.1 q9.2 q8.2.2)] : List (List zE)).flatten
              refine AW.forget [true, true, false] ?_
              show AW Z 0 0 11 [some (.ref 0), some (.int (x1 + 1)), none] [] ([kR 0 (R_s_at_fault_lines v0 q9.1 q9.2 q8.2.2)] : List (List zE)).flatten
              exact ih v0 (x1 + 1) q9.1 q9.2 q8.2.2 q hf hk0
          · rw [if_pos c6] at hf
            obtain ⟨q13, h16, hf⟩ := zbind hf
            refine AW.callVc hZ hR hN (c_R_wrong N (R_s_at_fault_lines v0 m_at0 m_fault1 m_lines2) 5 q13 h16) zMX12_wrong_ok rfl rfl zK_BorrowedLivesModel_188 zV_X12_wrong rfl [25] [0] [0, 1, 2, 3, 4, 5, 6, 7, 8, 9, 10, 11, 12, 13, 14, 15, 16, 17, 18, 19, 20, 21, 22, 23, 24] rfl rfl rfl (by decide) (by decide) (by omega) (by decide) (Nat.zero_le _) (Nat.zero_le _) rfl rfl rfl rfl rfl ?_
            rintro v cc ⟨rfl, rfl⟩
            refine ⟨_, rfl, rfl, ?_⟩
            show AW Z 0 0 58 [some (.ref 0), some (.int x1), some (.int q4)] [] ([kR 0 (R_s_at_fault_lines v0 m_at0 q13 m_lines2)] : List (List zE)).flatten
            refine AW.run hZ hRm [100] 400 ?_
            show AW Z 0 0 100 [some (.ref 0), some (.int x1), some (.int q4)] [.int 59, .ref 0] ([kR 0 (R_s_at_fault_lines v0 m_at0 q13 m_lines2)] : List (List zE)).flatten
            obtain ⟨q14, h15, hf⟩ := zbind hf
            refine AW.callVc hZ hR hN (c_R_takeSign N (R_s_at_fault_lines v0 m_at0 q13 m_lines2) 59 q14 h15) zMX12_takeSign_ok rfl rfl zK_BorrowedLivesModel_243 zV_X12_takeSign rfl [25] [0] [0, 1, 2, 3, 4, 5, 6, 7, 8, 9, 10, 11, 12, 13, 14, 15, 16, 17, 18, 19, 20, 21, 22, 23, 24] rfl rfl rfl (by decide) (by decide) (by omega) (by decide) (Nat.zero_le _) (Nat.zero_le _) rfl rfl rfl rfl rfl ?_
            rintro v cc ⟨rfl, rfl⟩
            refine ⟨_, rfl, rfl, ?_⟩
            show AW Z 0 0 103 [some (.ref 0), some (.int x1), some (.int q4)] [] ([kR 0 (R_s_at_fault_lines v0 q14.1 q14.2 m_lines2)] : List (List zE)).flatten
            refine AW.run hZ hRm [11] 400 ?_
            show AW Z 0 0 11 [some (.ref 0), some (.int x1), some (.int q4)] [] ([kR 0 (R_s_at_fault_lines v0 q14.1 q14.2 m_lines2)] : List (List zE)).flatten
            refine AW.forget [true, true, false] ?_
            show AW Z 0 0 11 [some (.ref 0), some (.int x1), none] [] ([kR 0 (R_s_at_fault_lines v0 q14.1 q14.2 m_lines2)] : List (List zE)).flatten
            exact ih v0 x1 q14.1 q14.2 m_lines2 q hf hk0
        · rw [if_neg c5] at hf
          obtain ⟨q17, h20, hf⟩ := zbind hf
          refine AW.callVc hZ hR hN (c_R_wrong N (R_s_at_fault_lines v0 m_at0 m_fault1 m_lines2) 1 q17 h20) zMX12_wrong_ok rfl rfl zK_BorrowedLivesModel_188 zV_X12_wrong rfl [25] [0] [0, 1, 2, 3, 4, 5, 6, 7, 8, 9, 10, 11, 12, 13, 14, 15, 16, 17, 18, 19, 20, 21, 22, 23, 24] rfl rfl rfl (by decide) (by decide) (by omega) (by decide) (Nat.zero_le _) (Nat.zero_le _) rfl rfl rfl rfl rfl ?_
          rintro v cc ⟨rfl, rfl⟩
          refine ⟨_, rfl, rfl, ?_⟩
          show AW Z 0 0 44 [some (.ref 0), some (.int x1), some (.int q4)] [] ([kR 0 (R_s_at_fault_lines v0 m_at0 q17 m_lines2)] : List (List zE)).flatten
          refine AW.run hZ hRm [100] 400 ?_
          show AW Z 0 0 100 [some (.ref 0), some (.int x1), some (.int q4)] [.int 59, .ref 0] ([kR 0 (R_s_at_fault_lines v0 m_at0 q17 m_lines2)] : List (List zE)).flatten
          obtain ⟨q18, h19, hf⟩ := zbind hf
          refine AW.callVc hZ hR hN (c_R_takeSign N (R_s_at_fault_lines v0 m_at0 q17 m_lines2) 59 q18 h19) zMX12_takeSign_ok rfl rfl zK_BorrowedLivesModel_243 zV_X12_takeSign rfl [25] [0] [0, 1, 2, 3, 4, 5, 6, 7, 8, 9, 10, 11, 12, 13, 14, 15, 16, 17, 18, 19, 20, 21, 22, 23, 24] rfl rfl rfl (by decide) (by decide) (by omega) (by decide) (Nat.zero_le _) (Nat.zero_le _) rfl rfl rfl rfl rfl ?_
          rintro v cc ⟨rfl, rfl⟩
          refine ⟨_, rfl, rfl, ?_⟩
          show AW Z 0 0 103 [some (.ref 0), some (.int x1), some (.int q4)] [] ([kR 0 (R_s_at_fault_lines v0 q18.1 q18.2 m_lines2)] : List (List zE)).flatten
          refine AW.run hZ hRm [11] 400 ?_
          show AW Z 0 0 11 [some (.ref 0), some (.int x1), some (.int q4)] [] ([kR 0 (R_s_at_fault_lines v0 q18.1 q18.2 m_lines2)] : List (List zE)).flatten
          refine AW.forget [true, true, false] ?_
          show AW Z 0 0 11 [some (.ref 0), some (.int x1), none] [] ([kR 0 (R_s_at_fault_lines v0 q18.1 q18.2 m_lines2)] : List (List zE)).flatten
          exact ih v0 x1 q18.1 q18.2 m_lines2 q hf hk0
set_option maxRecDepth 20000 in
set_option maxHeartbeats 4000000 in
theorem c_R_year_L127 {Z : zCtx} {D n0w nf mcw msw : Nat} (hZ : zOk Z zMX12_year) (hR : zCan Z D mcw msw) (hDd : 7 ≤ D) (hN : zNew Z n0w nf) (hRm : zRoom Z 0 0) (N : Nat) : ∀ (fuel : Nat) (v0 : VR) (y1 : Int32) (x2 : Int32) (m_lines0 : (Nat → Int32)) (q : ((Nat → Int32))), f_R_year_L127 N fuel v0 y1 x2 m_lines0 = some q → (AW Z 0 0 157 [none, none, none] [] ([kR 0 (R_lines_s v0 q)] : List (List zE)).flatten) → AW Z 0 0 127 [some (.ref 0), some (.int y1), some (.int x2)] [] ([kR 0 (R_lines_s v0 m_lines0)] : List (List zE)).flatten := by
  intro fuel
  induction fuel with
  | zero =>
    intro v0 y1 x2 m_lines0 q hf hk0
    simp [f_R_year_L127] at hf
  | succ fuel ih =>
    intro v0 y1 x2 m_lines0 q hf hk0
    rw [f_R_year_L127] at hf
    refine AW.run hZ hRm [151, 157] 400 ?_
    show ((((3 * y1) ≤ x2) → AW Z 0 0 157 [some (.ref 0), some (.int y1), some (.int x2)] [] ([kR 0 (R_lines_s v0 m_lines0)] : List (List zE)).flatten) ∧ (¬ ((3 * y1) ≤ x2) → (¬ ((125 + x2) < 0 ∨ 250 ≤ Int32.toNatClampNeg (125 + x2)) ∧ (¬ ((1 + x2) < 0 ∨ 250 ≤ Int32.toNatClampNeg (1 + x2)) ∧ AW Z 0 0 151 [some (.ref 0), some (.int y1), some (.int x2)] [] ([kR 0 (R_lines_s v0 (upd m_lines0 (Int32.toNatClampNeg (1 + x2)) (m_lines0 (Int32.toNatClampNeg (125 + x2)))))] : List (List zE)).flatten))))
    refine ⟨fun c27 => ?_, fun c27 => ?_⟩
    · rw [if_pos c27] at hf
      cases hf
      refine AW.forget [false, false, false] ?_
      show AW Z 0 0 157 [none, none, none] [] ([kR 0 (R_lines_s v0 m_lines0)] : List (List zE)).flatten
      exact hk0
    · rw [if_neg c27] at hf
      obtain ⟨b30, hf⟩ := zneed hf
      refine ⟨b30, ?_⟩
      obtain ⟨b29, hf⟩ := zneed hf
      refine ⟨b29, ?_⟩
      replace hf := zlet_gen hf
      generalize ((upd m_lines0 (Int32.toNatClampNeg (1 + x2)) (m_lines0 (Int32.toNatClampNeg (125 + x2)))) : (Nat → Int32)) = z28 at hf ⊢
      as_aux_lemma =>
        refine AW.run hZ hRm [127] 400 ?_
        show AW Z 0 0 127 [some (.ref 0), some (.int y1), some (.int (x2 + 1))] [] ([kR 0 (R_lines_s v0 z28)] : List (List zE)).flatten
        exact ih v0 y1 (x2 + 1) z28 q hf hk0
set_option maxRecDepth 20000 in
set_option maxHeartbeats 4000000 in
theorem c_R_year (N : Nat) (v0 : VR) (R : Int32 × Int32 × Int32 × Int32 × (Nat → Int32) × (Nat → Int32) × (Nat → Int64) × Int32 × Int32 × (Nat → Int32)) (hf : f_R_year N v0 = some R) : Ct zMX12_year 7 0 0 0 [.ref 0] ([kR 0 v0] : List (List zE)).flatten (fun v cc => v = some (.int R.1) ∧ cc = ([kR 0 (R_s_thrown_taped_size_sort_place_value_at_fault_lines v0 R.2.1 R.2.2.1 R.2.2.2.1 R.2.2.2.2.1 R.2.2.2.2.2.1 R.2.2.2.2.2.2.1 R.2.2.2.2.2.2.2.1 R.2.2.2.2.2.2.2.2.1 R.2.2.2.2.2.2.2.2.2)] : List (List zE)).flatten) := by
  refine Ct.of zMX12_year_ok (by decide) (Nat.le_of_ble_eq_true rfl) ?_
  intro Z hZ hR hN hE
  have hRm : zRoom Z 0 0 := zRoom0 Z
  unfold f_R_year at hf
  show AW Z 0 0 0 [some (.ref 0), none, none] [] ([kR 0 v0] : List (List zE)).flatten
  refine AW.run hZ hRm [6] 400 ?_
  show AW Z 0 0 6 [some (.ref 0), none, none] [.ref 0] ([kR 0 (R_thrown_s v0 0)] : List (List zE)).flatten
  obtain ⟨q1, h33, hf⟩ := zbind hf
  refine AW.callVc hZ hR hN (c_R_cutAll N (R_thrown_s v0 0) q1 h33) zMX12_cutAll_ok rfl rfl zK_BorrowedLivesModel_224 zV_X12_cutAll rfl [25] [0] [0, 1, 2, 3, 4, 5, 6, 7, 8, 9, 10, 11, 12, 13, 14, 15, 16, 17, 18, 19, 20, 21, 22, 23, 24] rfl rfl rfl (by decide) (by decide) (by omega) (by decide) (Nat.zero_le _) (Nat.zero_le _) rfl rfl rfl rfl rfl ?_
  rintro v cc ⟨rfl, rfl⟩
  refine ⟨_, rfl, rfl, ?_⟩
  show AW Z 0 0 9 [some (.ref 0), none, none] [] ([kR 0 (R_s_thrown_taped_size_sort_place_value_at_fault v0 0 q1.1 q1.2.1 q1.2.2.1 q1.2.2.2.1 q1.2.2.2.2.1 q1.2.2.2.2.2.1 q1.2.2.2.2.2.2)] : List (List zE)).flatten
  refine AW.run hZ hRm [11] 400 ?_
  show AW Z 0 0 11 [some (.ref 0), some (.int 0), none] [] ([kR 0 (R_s_thrown_taped_size_sort_place_value_at_fault v0 0 q1.1 q1.2.1 q1.2.2.1 q1.2.2.2.1 q1.2.2.2.2.1 q1.2.2.2.2.2.1 q1.2.2.2.2.2.2)] : List (List zE)).flatten
  obtain ⟨q23, h24, hf⟩ := zbind hf
  refine c_R_year_L11 hZ hR (by omega) hN hRm N N (R_s_thrown_taped_size_sort_place_value_at_fault v0 0 q1.1 q1.2.1 q1.2.2.1 q1.2.2.2.1 q1.2.2.2.2.1 q1.2.2.2.2.2.1 q1.2.2.2.2.2.2) 0 q1.2.2.2.2.2.1 q1.2.2.2.2.2.2 (R_lines v0) q23 h24 ?_
  show AW Z 0 0 106 [some (.ref 0), some (.int q23.1), none] [] ([kR 0 (R_s_thrown_taped_size_sort_place_value_at_fault_lines v0 0 q1.1 q1.2.1 q1.2.2.1 q1.2.2.2.1 q1.2.2.2.2.1 q23.2.1 q23.2.2.1 q23.2.2.2)] : List (List zE)).flatten
  refine AW.run hZ hRm [117, 125] 400 ?_
  show (((q23.2.2.1 ≤ 0) → (¬ ((0 : Int32) < 0 ∨ 250 ≤ Int32.toNatClampNeg 0) ∧ AW Z 0 0 125 [some (.ref 0), some (.int q23.1), none] [] ([kR 0 (R_s_thrown_taped_size_sort_place_value_at_fault_lines v0 0 q1.1 q1.2.1 q1.2.2.1 q1.2.2.2.1 q1.2.2.2.2.1 q23.2.1 q23.2.2.1 (upd q23.2.2.2 (Int32.toNatClampNeg 0) q23.1))] : List (List zE)).flatten)) ∧ (¬ (q23.2.2.1 ≤ 0) → AW Z 0 0 117 [some (.ref 0), some (.int q23.1), none] [.int q23.2.2.1] ([kR 0 (R_s_thrown_taped_size_sort_place_value_at_fault_lines v0 0 q1.1 q1.2.1 q1.2.2.1 q1.2.2.2.1 q1.2.2.2.2.1 q23.2.1 q23.2.2.1 q23.2.2.2)] : List (List zE)).flatten))
  refine ⟨fun c25 => ?_, fun c25 => ?_⟩
  · rw [if_pos c25] at hf
    refine ⟨(by decide), ?_⟩
    replace hf := zlet_gen hf
    generalize ((upd q23.2.2.2 (Int32.toNatClampNeg 0) q23.1) : (Nat → Int32)) = z26 at hf ⊢
    as_aux_lemma =>
      refine AW.run hZ hRm [127] 400 ?_
      show AW Z 0 0 127 [some (.ref 0), some (.int q23.1), some (.int 0)] [] ([kR 0 (R_s_thrown_taped_size_sort_place_value_at_fault_lines v0 0 q1.1 q1.2.1 q1.2.2.1 q1.2.2.2.1 q1.2.2.2.2.1 q23.2.1 q23.2.2.1 z26)] : List (List zE)).flatten
      obtain ⟨q31, h32, hf⟩ := zbind hf
      refine c_R_year_L127 hZ hR (by omega) hN hRm N N (R_s_thrown_taped_size_sort_place_value_at_fault_lines v0 0 q1.1 q1.2.1 q1.2.2.1 q1.2.2.2.1 q1.2.2.2.2.1 q23.2.1 q23.2.2.1 z26) q23.1 0 z26 q31 h32 ?_
      show AW Z 0 0 157 [none, none, none] [] ([kR 0 (R_s_thrown_taped_size_sort_place_value_at_fault_lines v0 0 q1.1 q1.2.1 q1.2.2.1 q1.2.2.2.1 q1.2.2.2.2.1 q23.2.1 q23.2.2.1 q31)] : List (List zE)).flatten
      refine AW.run hZ hRm [158] 400 ?_
      show AW Z 0 0 158 [none, none, none] [.int 0] ([kR 0 (R_s_thrown_taped_size_sort_place_value_at_fault_lines v0 0 q1.1 q1.2.1 q1.2.2.1 q1.2.2.2.1 q1.2.2.2.2.1 q23.2.1 q23.2.2.1 q31)] : List (List zE)).flatten
      cases hf
      exact AW.iret hZ hE rfl rfl rfl rfl (Nat.le_refl 0) (Nat.le_refl 0) rfl ⟨rfl, rfl⟩
  · rw [if_neg c25] at hf
    cases hf
    exact AW.iret hZ hE rfl rfl rfl rfl (Nat.le_refl 0) (Nat.le_refl 0) rfl ⟨rfl, rfl⟩
def f_R_both (N : Nat) (a0 : Int32) (a1 : Int32) (a2 : Int32) : Option (Int32) := (if (a0 = 4) then (some (a1 + a2)) else (if (a0 = 5) then (some (a1 - a2)) else (if (a0 = 6) then (some (a1 * a2)) else (if (a0 = 7) then (if (a2 ≤ a1) then (some 0) else (some 1)) else (if (a0 = 8) then (if (a1 = a2) then (some 1) else (some 0)) else (if (a0 = 9) then (if (a1 = 0) then (some 0) else (if (a2 = 0) then (some 0) else (some 1))) else (if (a1 = 0) then (if (a2 = 0) then (some 0) else (some 1)) else (some 1))))))))
set_option maxRecDepth 20000 in
set_option maxHeartbeats 4000000 in
theorem c_R_both (N : Nat) (a0 : Int32) (a1 : Int32) (a2 : Int32) (R : Int32) (hf : f_R_both N a0 a1 a2 = some R) : Ct zMX12_both 1 0 0 0 [.int a0, .int a1, .int a2] ([] : List (List zE)).flatten (fun v cc => v = some (.int R) ∧ cc = ([] : List (List zE)).flatten) := by
  refine Ct.of zMX12_both_ok (by decide) (Nat.le_of_ble_eq_true rfl) ?_
  intro Z hZ hR hN hE
  have hRm : zRoom Z 0 0 := zRoom0 Z
  unfold f_R_both at hf
  show AW Z 0 0 0 [some (.int a0), some (.int a1), some (.int a2)] [] ([] : List (List zE)).flatten
  refine AW.run hZ hRm [43, 47, 51, 62, 73, 87, 101] 400 ?_
  show ((a0 = 4 → AW Z 0 0 43 [some (.int a0), some (.int a1), some (.int a2)] [.int (a1 + a2)] ([] : List (List zE)).flatten) ∧ (¬ a0 = 4 → ((a0 = 5 → AW Z 0 0 47 [some (.int a0), some (.int a1), some (.int a2)] [.int (a1 - a2)] ([] : List (List zE)).flatten) ∧ (¬ a0 = 5 → ((a0 = 6 → AW Z 0 0 51 [some (.int a0), some (.int a1), some (.int a2)] [.int (a1 * a2)] ([] : List (List zE)).flatten) ∧ (¬ a0 = 6 → ((a0 = 7 → (((a2 ≤ a1) → AW Z 0 0 62 [some (.int a0), some (.int a1), some (.int a2)] [.int 0] ([] : List (List zE)).flatten) ∧ (¬ (a2 ≤ a1) → AW Z 0 0 62 [some (.int a0), some (.int a1), some (.int a2)] [.int 1] ([] : List (List zE)).flatten))) ∧ (¬ a0 = 7 → ((a0 = 8 → ((¬ (a1 = a2) → AW Z 0 0 73 [some (.int a0), some (.int a1), some (.int a2)] [.int 0] ([] : List (List zE)).flatten) ∧ ((a1 = a2) → AW Z 0 0 73 [some (.int a0), some (.int a1), some (.int a2)] [.int 1] ([] : List (List zE)).flatten))) ∧ (¬ a0 = 8 → ((a0 = 9 → (((a1 = 0) → AW Z 0 0 87 [some (.int a0), some (.int a1), some (.int a2)] [.int 0] ([] : List (List zE)).flatten) ∧ (¬ (a1 = 0) → (((a2 = 0) → AW Z 0 0 87 [some (.int a0), some (.int a1), some (.int a2)] [.int 0] ([] : List (List zE)).flatten) ∧ (¬ (a2 = 0) → AW Z 0 0 87 [some (.int a0), some (.int a1), some (.int a2)] [.int 1] ([] : List (List zE)).flatten))))) ∧ (¬ a0 = 9 → ((¬ (a1 = 0) → AW Z 0 0 101 [some (.int a0), some (.int a1), some (.int a2)] [.int 1] ([] : List (List zE)).flatten) ∧ ((a1 = 0) → (((a2 = 0) → AW Z 0 0 101 [some (.int a0), some (.int a1), some (.int a2)] [.int 0] ([] : List (List zE)).flatten) ∧ (¬ (a2 = 0) → AW Z 0 0 101 [some (.int a0), some (.int a1), some (.int a2)] [.int 1] ([] : List (List zE)).flatten))))))))))))))))
  refine ⟨fun c12 => ?_, fun c12 => ?_⟩
  · rw [if_pos c12] at hf
    cases hf
    exact AW.iret hZ hE rfl rfl rfl rfl (Nat.le_refl 0) (Nat.le_refl 0) rfl ⟨rfl, rfl⟩
  · rw [if_neg c12] at hf
    refine ⟨fun c11 => ?_, fun c11 => ?_⟩
    · rw [if_pos c11] at hf
      cases hf
      exact AW.iret hZ hE rfl rfl rfl rfl (Nat.le_refl 0) (Nat.le_refl 0) rfl ⟨rfl, rfl⟩
    · rw [if_neg c11] at hf
      refine ⟨fun c10 => ?_, fun c10 => ?_⟩
      · rw [if_pos c10] at hf
        cases hf
        exact AW.iret hZ hE rfl rfl rfl rfl (Nat.le_refl 0) (Nat.le_refl 0) rfl ⟨rfl, rfl⟩
      · rw [if_neg c10] at hf
        refine ⟨fun c8 => ?_, fun c8 => ?_⟩
        · rw [if_pos c8] at hf
          refine ⟨fun c9 => ?_, fun c9 => ?_⟩
          · rw [if_pos c9] at hf
            cases hf
            exact AW.iret hZ hE rfl rfl rfl rfl (Nat.le_refl 0) (Nat.le_refl 0) rfl ⟨rfl, rfl⟩
          · rw [if_neg c9] at hf
            cases hf
            exact AW.iret hZ hE rfl rfl rfl rfl (Nat.le_refl 0) (Nat.le_refl 0) rfl ⟨rfl, rfl⟩
        · rw [if_neg c8] at hf
          refine ⟨fun c6 => ?_, fun c6 => ?_⟩
          · rw [if_pos c6] at hf
            refine ⟨fun c7 => ?_, fun c7 => ?_⟩
            · rw [if_neg c7] at hf
              cases hf
              exact AW.iret hZ hE rfl rfl rfl rfl (Nat.le_refl 0) (Nat.le_refl 0) rfl ⟨rfl, rfl⟩
            · rw [if_pos c7] at hf
              cases hf
              exact AW.iret hZ hE rfl rfl rfl rfl (Nat.le_refl 0) (Nat.le_refl 0) rfl ⟨rfl, rfl⟩
          · rw [if_neg c6] at hf
            refine ⟨fun c3 => ?_, fun c3 => ?_⟩
            · rw [if_pos c3] at hf
              refine ⟨fun c4 => ?_, fun c4 => ?_⟩
              · rw [if_pos c4] at hf
                cases hf
                exact AW.iret hZ hE rfl rfl rfl rfl (Nat.le_refl 0) (Nat.le_refl 0) rfl ⟨rfl, rfl⟩
              · rw [if_neg c4] at hf
                refine ⟨fun c5 => ?_, fun c5 => ?_⟩
                · rw [if_pos c5] at hf
                  cases hf
                  exact AW.iret hZ hE rfl rfl rfl rfl (Nat.le_refl 0) (Nat.le_refl 0) rfl ⟨rfl, rfl⟩
                · rw [if_neg c5] at hf
                  cases hf
                  exact AW.iret hZ hE rfl rfl rfl rfl (Nat.le_refl 0) (Nat.le_refl 0) rfl ⟨rfl, rfl⟩
            · rw [if_neg c3] at hf
              refine ⟨fun c1 => ?_, fun c1 => ?_⟩
              · rw [if_neg c1] at hf
                cases hf
                exact AW.iret hZ hE rfl rfl rfl rfl (Nat.le_refl 0) (Nat.le_refl 0) rfl ⟨rfl, rfl⟩
              · rw [if_pos c1] at hf
                refine ⟨fun c2 => ?_, fun c2 => ?_⟩
                · rw [if_pos c2] at hf
                  cases hf
                  exact AW.iret hZ hE rfl rfl rfl rfl (Nat.le_refl 0) (Nat.le_refl 0) rfl ⟨rfl, rfl⟩
                · rw [if_neg c2] at hf
                  cases hf
                  exact AW.iret hZ hE rfl rfl rfl rfl (Nat.le_refl 0) (Nat.le_refl 0) rfl ⟨rfl, rfl⟩
def f_R_worthAt_L4 (N : Nat) : Nat → VR → Int32 → Int32 → (Nat → Int32) → Option ((Nat → Int32))
  | 0, _, _, _, _ => none
  | fuel + 1, v0, x2, x3, m_pile0 => (if (x3 < 0 ∨ 2200 ≤ Int32.toNatClampNeg x3) then none else (if (((R_op v0) (Int32.toNatClampNeg x3)) = 0) then (some m_pile0) else (if (x3 < 0 ∨ 2200 ≤ Int32.toNatClampNeg x3) then none else (if (((R_op v0) (Int32.toNatClampNeg x3)) = 1) then (if (((R_op v0) (Int32.toNatClampNeg x3)) = 1) then (if (x3 < 0 ∨ 2200 ≤ Int32.toNatClampNeg x3) then none else (if (x2 < 0 ∨ 1100 ≤ Int32.toNatClampNeg x2) then none else (zlet ((upd m_pile0 (Int32.toNatClampNeg x2) ((R_arg v0) (Int32.toNatClampNeg x3))) : (Nat → Int32)) (fun z8 => (f_R_worthAt_L4 N fuel v0 (x2 + 1) (x3 + 1) z8))))) else (if (x3 < 0 ∨ 2200 ≤ Int32.toNatClampNeg x3) then none else (if (((R_arg v0) (Int32.toNatClampNeg x3)) < 0 ∨ 5 ≤ Int32.toNatClampNeg ((R_arg v0) (Int32.toNatClampNeg x3))) then none else (if (x2 < 0 ∨ 1100 ≤ Int32.toNatClampNeg x2) then none else (zlet ((upd m_pile0 (Int32.toNatClampNeg x2) ((R_facts v0) (Int32.toNatClampNeg ((R_arg v0) (Int32.toNatClampNeg x3))))) : (Nat → Int32)) (fun z4 => (f_R_worthAt_L4 N fuel v0 (x2 + 1) (x3 + 1) z4))))))) else (if (((R_op v0) (Int32.toNatClampNeg x3)) = 2) then (if (((R_op v0) (Int32.toNatClampNeg x3)) = 1) then (if (x3 < 0 ∨ 2200 ≤ Int32.toNatClampNeg x3) then none else (if (x2 < 0 ∨ 1100 ≤ Int32.toNatClampNeg x2) then none else (zlet ((upd m_pile0 (Int32.toNatClampNeg x2) ((R_arg v0) (Int32.toNatClampNeg x3))) : (Nat → Int32)) (fun z30 => (f_R_worthAt_L4 N fuel v0 (x2 + 1) (x3 + 1) z30))))) else (if (x3 < 0 ∨ 2200 ≤ Int32.toNatClampNeg x3) then none else (if (((R_arg v0) (Int32.toNatClampNeg x3)) < 0 ∨ 5 ≤ Int32.toNatClampNeg ((R_arg v0) (Int32.toNatClampNeg x3))) then none else (if (x2 < 0 ∨ 1100 ≤ Int32.toNatClampNeg x2) then none else (zlet ((upd m_pile0 (Int32.toNatClampNeg x2) ((R_facts v0) (Int32.toNatClampNeg ((R_arg v0) (Int32.toNatClampNeg x3))))) : (Nat → Int32)) (fun z26 => (f_R_worthAt_L4 N fuel v0 (x2 + 1) (x3 + 1) z26))))))) else (if (((R_op v0) (Int32.toNatClampNeg x3)) = 3) then (if ((x2 - 1) < 0 ∨ 1100 ≤ Int32.toNatClampNeg (x2 - 1)) then none else (zlet ((if ((m_pile0 (Int32.toNatClampNeg (x2 - 1))) = 0) then 1 else 0) : Int32) (fun z21 => (if ((x2 - 1) < 0 ∨ 1100 ≤ Int32.toNatClampNeg (x2 - 1)) then none else (zlet ((upd m_pile0 (Int32.toNatClampNeg (x2 - 1)) z21) : (Nat → Int32)) (fun z22 => (f_R_worthAt_L4 N fuel v0 x2 (x3 + 1) z22))))))) else (if (((x2 + (-1)) - 1) < 0 ∨ 1100 ≤ Int32.toNatClampNeg ((x2 + (-1)) - 1)) then none else (if ((x2 + (-1)) < 0 ∨ 1100 ≤ Int32.toNatClampNeg (x2 + (-1))) then none else ((f_R_both N ((R_op v0) (Int32.toNatClampNeg x3)) (m_pile0 (Int32.toNatClampNeg ((x2 + (-1)) - 1))) (m_pile0 (Int32.toNatClampNeg (x2 + (-1))))).bind (fun q13 => (if (((x2 + (-1)) - 1) < 0 ∨ 1100 ≤ Int32.toNatClampNeg ((x2 + (-1)) - 1)) then none else (zlet ((upd m_pile0 (Int32.toNatClampNeg ((x2 + (-1)) - 1)) q13) : (Nat → Int32)) (fun z14 => (f_R_worthAt_L4 N fuel v0 (x2 + (-1)) (x3 + 1) z14))))))))))))))
def f_R_worthAt (N : Nat) (v0 : VR) (a1 : Int32) : Option (Int32 × (Nat → Int32)) := ((f_R_worthAt_L4 N N v0 0 a1 (R_pile v0)).bind (fun q35 => (some ((q35 (Int32.toNatClampNeg 0)), q35))))
set_option maxRecDepth 20000 in
set_option maxHeartbeats 4000000 in
theorem c_R_worthAt_L4 {Z : zCtx} {D n0w nf mcw msw : Nat} (hZ : zOk Z zMX12_worthAt) (hR : zCan Z D mcw msw) (hDd : 2 ≤ D) (hN : zNew Z n0w nf) (hRm : zRoom Z 0 0) (N : Nat) : ∀ (fuel : Nat) (v0 : VR) (x2 : Int32) (x3 : Int32) (m_pile0 : (Nat → Int32)) (q : ((Nat → Int32))), f_R_worthAt_L4 N fuel v0 x2 x3 m_pile0 = some q → (AW Z 0 0 140 [some (.ref 0), none, none, none, none] [] ([kR 0 (R_pile_s v0 q)] : List (List zE)).flatten) → AW Z 0 0 4 [some (.ref 0), none, some (.int x2), some (.int x3), none] [] ([kR 0 (R_pile_s v0 m_pile0)] : List (List zE)).flatten := by
  intro fuel
  induction fuel with
  | zero =>
    intro v0 x2 x3 m_pile0 q hf hk0
    simp [f_R_worthAt_L4] at hf
  | succ fuel ih =>
    intro v0 x2 x3 m_pile0 q hf hk0
    rw [f_R_worthAt_L4] at hf
    refine AW.run hZ hRm [65, 92, 130, 140] 400 ?_
    show (¬ (x3 < 0 ∨ 2200 ≤ Int32.toNatClampNeg x3) ∧ (((((R_op v0) (Int32.toNatClampNeg x3)) = 0) → AW Z 0 0 140 [some (.ref 0), none, some (.int x2), some (.int x3), none] [] ([kR 0 (R_pile_s v0 m_pile0)] : List (List zE)).flatten) ∧ (¬ (((R_op v0) (Int32.toNatClampNeg x3)) = 0) → (¬ (x3 < 0 ∨ 2200 ≤ Int32.toNatClampNeg x3) ∧ (((((R_op v0) (Int32.toNatClampNeg x3)) = 1) → ((¬ (((R_op v0) (Int32.toNatClampNeg x3)) = 1) → (¬ (x3 < 0 ∨ 2200 ≤ Int32.toNatClampNeg x3) ∧ (¬ (((R_arg v0) (Int32.toNatClampNeg x3)) < 0 ∨ 5 ≤ Int32.toNatClampNeg ((R_arg v0) (Int32.toNatClampNeg x3))) ∧ (¬ (x2 < 0 ∨ 1100 ≤ Int32.toNatClampNeg x2) ∧ AW Z 0 0 65 [some (.ref 0), none, some (.int x2), some (.int x3), some (.int ((R_op v0) (Int32.toNatClampNeg x3)))] [] ([kR 0 (R_pile_s v0 (upd m_pile0 (Int32.toNatClampNeg x2) ((R_facts v0) (Int32.toNatClampNeg ((R_arg v0) (Int32.toNatClampNeg x3))))))] : List (List zE)).flatten)))) ∧ ((((R_op v0) (Int32.toNatClampNeg x3)) = 1) → (¬ (x3 < 0 ∨ 2200 ≤ Int32.toNatClampNeg x3) ∧ (¬ (x2 < 0 ∨ 1100 ≤ Int32.toNatClampNeg x2) ∧ AW Z 0 0 65 [some (.ref 0), none, some (.int x2), some (.int x3), some (.int ((R_op v0) (Int32.toNatClampNeg x3)))] [] ([kR 0 (R_pile_s v0 (upd m_pile0 (Int32.toNatClampNeg x2) ((R_arg v0) (Int32.toNatClampNeg x3))))] : List (List zE)).flatten))))) ∧ (¬ (((R_op v0) (Int32.toNatClampNeg x3)) = 1) → ((¬ (((R_op v0) (Int32.toNatClampNeg x3)) = 2) → ((¬ (((R_op v0) (Int32.toNatClampNeg x3)) = 3) → (¬ (((x2 + (-1)) - 1) < 0 ∨ 1100 ≤ Int32.toNatClampNeg ((x2 + (-1)) - 1)) ∧ (¬ ((x2 + (-1)) < 0 ∨ 1100 ≤ Int32.toNatClampNeg (x2 + (-1))) ∧ AW Z 0 0 130 [some (.ref 0), none, some (.int (x2 + (-1))), some (.int x3), some (.int ((R_op v0) (Int32.toNatClampNeg x3)))] [.int (m_pile0 (Int32.toNatClampNeg (x2 + (-1)))), .int (m_pile0 (Int32.toNatClampNeg ((x2 + (-1)) - 1))), .int ((R_op v0) (Int32.toNatClampNeg x3)), .int ((x2 + (-1)) - 1), .ref 13] ([kR 0 (R_pile_s v0 m_pile0)] : List (List zE)).flatten))) ∧ ((((R_op v0) (Int32.toNatClampNeg x3)) = 3) → (¬ ((x2 - 1) < 0 ∨ 1100 ≤ Int32.toNatClampNeg (x2 - 1)) ∧ AW Z 0 0 92 [some (.ref 0), none, some (.int x2), some (.int x3), some (.int ((R_op v0) (Int32.toNatClampNeg x3)))] [.int (m_pile0 (Int32.toNatClampNeg (x2 - 1))), .int (x2 - 1), .ref 13] ([kR 0 (R_pile_s v0 m_pile0)] : List (List zE)).flatten)))) ∧ ((((R_op v0) (Int32.toNatClampNeg x3)) = 2) → ((¬ (((R_op v0) (Int32.toNatClampNeg x3)) = 1) → (¬ (x3 < 0 ∨ 2200 ≤ Int32.toNatClampNeg x3) ∧ (¬ (((R_arg v0) (Int32.toNatClampNeg x3)) < 0 ∨ 5 ≤ Int32.toNatClampNeg ((R_arg v0) (Int32.toNatClampNeg x3))) ∧ (¬ (x2 < 0 ∨ 1100 ≤ Int32.toNatClampNeg x2) ∧ AW Z 0 0 65 [some (.ref 0), none, some (.int x2), some (.int x3), some (.int ((R_op v0) (Int32.toNatClampNeg x3)))] [] ([kR 0 (R_pile_s v0 (upd m_pile0 (Int32.toNatClampNeg x2) ((R_facts v0) (Int32.toNatClampNeg ((R_arg v0) (Int32.toNatClampNeg x3))))))] : List (List zE)).flatten)))) ∧ ((((R_op v0) (Int32.toNatClampNeg x3)) = 1) → (¬ (x3 < 0 ∨ 2200 ≤ Int32.toNatClampNeg x3) ∧ (¬ (x2 < 0 ∨ 1100 ≤ Int32.toNatClampNeg x2) ∧ AW Z 0 0 65 [some (.ref 0), none, some (.int x2), some (.int x3), some (.int ((R_op v0) (Int32.toNatClampNeg x3)))] [] ([kR 0 (R_pile_s v0 (upd m_pile0 (Int32.toNatClampNeg x2) ((R_arg v0) (Int32.toNatClampNeg x3))))] : List (List zE)).flatten))))))))))))
    obtain ⟨b34, hf⟩ := zneed hf
    refine ⟨b34, ?_⟩
    refine ⟨fun c1 => ?_, fun c1 => ?_⟩
    · rw [if_pos c1] at hf
      cases hf
      refine AW.forget [true, false, false, false, false] ?_
      show AW Z 0 0 140 [some (.ref 0), none, none, none, none] [] ([kR 0 (R_pile_s v0 m_pile0)] : List (List zE)).flatten
      exact hk0
    · rw [if_neg c1] at hf
      obtain ⟨b33, hf⟩ := zneed hf
      refine ⟨b33, ?_⟩
      refine ⟨fun c2 => ?_, fun c2 => ?_⟩
      · rw [if_pos c2] at hf
        refine ⟨fun c3 => ?_, fun c3 => ?_⟩
        · rw [if_neg c3] at hf
          obtain ⟨b7, hf⟩ := zneed hf
          refine ⟨b7, ?_⟩
          obtain ⟨b6, hf⟩ := zneed hf
          refine ⟨b6, ?_⟩
          obtain ⟨b5, hf⟩ := zneed hf
          refine ⟨b5, ?_⟩
          replace hf := zlet_gen hf
          generalize ((upd m_pile0 (Int32.toNatClampNeg x2) ((R_facts v0) (Int32.toNatClampNeg ((R_arg v0) (Int32.toNatClampNeg x3))))) : (Nat → Int32)) = z4 at hf ⊢
          as_aux_lemma =>
            refine AW.run hZ hRm [134] 400 ?_
            show AW Z 0 0 134 [some (.ref 0), none, some (.int (x2 + 1)), some (.int x3), some (.int ((R_op v0) (Int32.toNatClampNeg x3)))] [] ([kR 0 (R_pile_s v0 z4)] : List (List zE)).flatten
            as_aux_lemma =>
              refine AW.run hZ hRm [4] 400 ?_
              show AW Z 0 0 4 [some (.ref 0), none, some (.int (x2 + 1)), some (.int (x3 + 1)), some (.int ((R_op v0) (Int32.toNatClampNeg x3)))] [] ([kR 0 (R_pile_s v0 z4)] : List (List zE)).flatten
              refine AW.forget [true, false, true, true, false] ?_
              show AW Z 0 0 4 [some (.ref 0), none, some (.int (x2 + 1)), some (.int (x3 + 1)), none] [] ([kR 0 (R_pile_s v0 z4)] : List (List zE)).flatten
              exact ih v0 (x2 + 1) (x3 + 1) z4 q hf hk0
        · rw [if_pos c3] at hf
          obtain ⟨b10, hf⟩ := zneed hf
          refine ⟨b10, ?_⟩
          obtain ⟨b9, hf⟩ := zneed hf
          refine ⟨b9, ?_⟩
          replace hf := zlet_gen hf
          generalize ((upd m_pile0 (Int32.toNatClampNeg x2) ((R_arg v0) (Int32.toNatClampNeg x3))) : (Nat → Int32)) = z8 at hf ⊢
          as_aux_lemma =>
            refine AW.run hZ hRm [134] 400 ?_
            show AW Z 0 0 134 [some (.ref 0), none, some (.int (x2 + 1)), some (.int x3), some (.int ((R_op v0) (Int32.toNatClampNeg x3)))] [] ([kR 0 (R_pile_s v0 z8)] : List (List zE)).flatten
            as_aux_lemma =>
              refine AW.run hZ hRm [4] 400 ?_
              show AW Z 0 0 4 [some (.ref 0), none, some (.int (x2 + 1)), some (.int (x3 + 1)), some (.int ((R_op v0) (Int32.toNatClampNeg x3)))] [] ([kR 0 (R_pile_s v0 z8)] : List (List zE)).flatten
              refine AW.forget [true, false, true, true, false] ?_
              show AW Z 0 0 4 [some (.ref 0), none, some (.int (x2 + 1)), some (.int (x3 + 1)), none] [] ([kR 0 (R_pile_s v0 z8)] : List (List zE)).flatten
              exact ih v0 (x2 + 1) (x3 + 1) z8 q hf hk0
      · rw [if_neg c2] at hf
        refine ⟨fun c11 => ?_, fun c11 => ?_⟩
        · rw [if_neg c11] at hf
          refine ⟨fun c12 => ?_, fun c12 => ?_⟩
          · rw [if_neg c12] at hf
            obtain ⟨b18, hf⟩ := zneed hf
            refine ⟨b18, ?_⟩
            obtain ⟨b17, hf⟩ := zneed hf
            refine ⟨b17, ?_⟩
            obtain ⟨q13, h16, hf⟩ := zbind hf
            refine AW.callSc hZ hR hN (c_R_both N ((R_op v0) (Int32.toNatClampNeg x3)) (m_pile0 (Int32.toNatClampNeg ((x2 + (-1)) - 1))) (m_pile0 (Int32.toNatClampNeg (x2 + (-1)))) q13 h16) zMX12_both_ok rfl rfl zK_BorrowedLivesModel_288 zV_X12_both rfl [25] [] [] rfl rfl rfl (by decide) (by decide) (by omega) (by decide) (Nat.zero_le _) (Nat.zero_le _) rfl rfl ?_
            rintro v cc ⟨rfl, rfl⟩
            refine ⟨_, rfl, rfl, ?_⟩
            show AW Z 0 0 133 [some (.ref 0), none, some (.int (x2 + (-1))), some (.int x3), some (.int ((R_op v0) (Int32.toNatClampNeg x3)))] [.int q13, .int ((x2 + (-1)) - 1), .ref 13] ([kR 0 (R_pile_s v0 m_pile0)] : List (List zE)).flatten
            refine AW.run hZ hRm [134] 400 ?_
            show (¬ (((x2 + (-1)) - 1) < 0 ∨ 1100 ≤ Int32.toNatClampNeg ((x2 + (-1)) - 1)) ∧ AW Z 0 0 134 [some (.ref 0), none, some (.int (x2 + (-1))), some (.int x3), some (.int ((R_op v0) (Int32.toNatClampNeg x3)))] [] ([kR 0 (R_pile_s v0 (upd m_pile0 (Int32.toNatClampNeg ((x2 + (-1)) - 1)) q13))] : List (List zE)).flatten)
            obtain ⟨b15, hf⟩ := zneed hf
            refine ⟨b15, ?_⟩
            replace hf := zlet_gen hf
            generalize ((upd m_pile0 (Int32.toNatClampNeg ((x2 + (-1)) - 1)) q13) : (Nat → Int32)) = z14 at hf ⊢
            as_aux_lemma =>
              refine AW.run hZ hRm [4] 400 ?_
              show AW Z 0 0 4 [some (.ref 0), none, some (.int (x2 + (-1))), some (.int (x3 + 1)), some (.int ((R_op v0) (Int32.toNatClampNeg x3)))] [] ([kR 0 (R_pile_s v0 z14)] : List (List zE)).flatten
              refine AW.forget [true, false, true, true, false] ?_
              show AW Z 0 0 4 [some (.ref 0), none, some (.int (x2 + (-1))), some (.int (x3 + 1)), none] [] ([kR 0 (R_pile_s v0 z14)] : List (List zE)).flatten
              exact ih v0 (x2 + (-1)) (x3 + 1) z14 q hf hk0
          · rw [if_pos c12] at hf
            obtain ⟨b24, hf⟩ := zneed hf
            refine ⟨b24, ?_⟩
            suffices H19 : AW Z 0 0 100 [some (.ref 0), none, some (.int x2), some (.int x3), none] [.int (if ((m_pile0 (Int32.toNatClampNeg (x2 - 1))) = 0) then 1 else 0), .int (x2 - 1), .ref 13] ([kR 0 (R_pile_s v0 m_pile0)] : List (List zE)).flatten from by
              refine AW.run hZ hRm [100] 400 ?_
              show ((¬ ((m_pile0 (Int32.toNatClampNeg (x2 - 1))) = 0) → AW Z 0 0 100 [some (.ref 0), none, some (.int x2), some (.int x3), some (.int ((R_op v0) (Int32.toNatClampNeg x3)))] [.int 0, .int (x2 - 1), .ref 13] ([kR 0 (R_pile_s v0 m_pile0)] : List (List zE)).flatten) ∧ (((m_pile0 (Int32.toNatClampNeg (x2 - 1))) = 0) → AW Z 0 0 100 [some (.ref 0), none, some (.int x2), some (.int x3), some (.int ((R_op v0) (Int32.toNatClampNeg x3)))] [.int 1, .int (x2 - 1), .ref 13] ([kR 0 (R_pile_s v0 m_pile0)] : List (List zE)).flatten))
              refine ⟨fun c20 => ?_, fun c20 => ?_⟩
              · refine AW.forget [true, false, true, true, false] ?_
                show AW Z 0 0 100 [some (.ref 0), none, some (.int x2), some (.int x3), none] [.int 0, .int (x2 - 1), .ref 13] ([kR 0 (R_pile_s v0 m_pile0)] : List (List zE)).flatten
                simpa only [if_neg c20] using H19
              · refine AW.forget [true, false, true, true, false] ?_
                show AW Z 0 0 100 [some (.ref 0), none, some (.int x2), some (.int x3), none] [.int 1, .int (x2 - 1), .ref 13] ([kR 0 (R_pile_s v0 m_pile0)] : List (List zE)).flatten
                simpa only [if_pos c20] using H19
            replace hf := zlet_gen hf
            generalize ((if ((m_pile0 (Int32.toNatClampNeg (x2 - 1))) = 0) then 1 else 0) : Int32) = z21 at hf ⊢
            refine AW.run hZ hRm [101] 400 ?_
            show (¬ ((x2 - 1) < 0 ∨ 1100 ≤ Int32.toNatClampNeg (x2 - 1)) ∧ AW Z 0 0 101 [some (.ref 0), none, some (.int x2), some (.int x3), none] [] ([kR 0 (R_pile_s v0 (upd m_pile0 (Int32.toNatClampNeg (x2 - 1)) z21))] : List (List zE)).flatten)
            obtain ⟨b23, hf⟩ := zneed hf
            refine ⟨b23, ?_⟩
            replace hf := zlet_gen hf
            generalize ((upd m_pile0 (Int32.toNatClampNeg (x2 - 1)) z21) : (Nat → Int32)) = z22 at hf ⊢
            as_aux_lemma =>
              refine AW.run hZ hRm [134] 400 ?_
              show AW Z 0 0 134 [some (.ref 0), none, some (.int x2), some (.int x3), none] [] ([kR 0 (R_pile_s v0 z22)] : List (List zE)).flatten
              as_aux_lemma =>
                refine AW.run hZ hRm [4] 400 ?_
                show AW Z 0 0 4 [some (.ref 0), none, some (.int x2), some (.int (x3 + 1)), none] [] ([kR 0 (R_pile_s v0 z22)] : List (List zE)).flatten
                exact ih v0 x2 (x3 + 1) z22 q hf hk0
        · rw [if_pos c11] at hf
          refine ⟨fun c25 => ?_, fun c25 => ?_⟩
          · rw [if_neg c25] at hf
            obtain ⟨b29, hf⟩ := zneed hf
            refine ⟨b29, ?_⟩
            obtain ⟨b28, hf⟩ := zneed hf
            refine ⟨b28, ?_⟩
            obtain ⟨b27, hf⟩ := zneed hf
            refine ⟨b27, ?_⟩
            replace hf := zlet_gen hf
            generalize ((upd m_pile0 (Int32.toNatClampNeg x2) ((R_facts v0) (Int32.toNatClampNeg ((R_arg v0) (Int32.toNatClampNeg x3))))) : (Nat → Int32)) = z26 at hf ⊢
            as_aux_lemma =>
              refine AW.run hZ hRm [134] 400 ?_
              show AW Z 0 0 134 [some (.ref 0), none, some (.int (x2 + 1)), some (.int x3), some (.int ((R_op v0) (Int32.toNatClampNeg x3)))] [] ([kR 0 (R_pile_s v0 z26)] : List (List zE)).flatten
              as_aux_lemma =>
                refine AW.run hZ hRm [4] 400 ?_
                show AW Z 0 0 4 [some (.ref 0), none, some (.int (x2 + 1)), some (.int (x3 + 1)), some (.int ((R_op v0) (Int32.toNatClampNeg x3)))] [] ([kR 0 (R_pile_s v0 z26)] : List (List zE)).flatten
                refine AW.forget [true, false, true, true, false] ?_
                show AW Z 0 0 4 [some (.ref 0), none, some (.int (x2 + 1)), some (.int (x3 + 1)), none] [] ([kR 0 (R_pile_s v0 z26)] : List (List zE)).flatten
                exact ih v0 (x2 + 1) (x3 + 1) z26 q hf hk0
          · rw [if_pos c25] at hf
            obtain ⟨b32, hf⟩ := zneed hf
            refine ⟨b32, ?_⟩
            obtain ⟨b31, hf⟩ := zneed hf
            refine ⟨b31, ?_⟩
            replace hf := zlet_gen hf
            generalize ((upd m_pile0 (Int32.toNatClampNeg x2) ((R_arg v0) (Int32.toNatClampNeg x3))) : (Nat → Int32)) = z30 at hf ⊢
            as_aux_lemma =>
              refine AW.run hZ hRm [134] 400 ?_
              show AW Z 0 0 134 [some (.ref 0), none, some (.int (x2 + 1)), some (.int x3), some (.int ((R_op v0) (Int32.toNatClampNeg x3)))] [] ([kR 0 (R_pile_s v0 z30)] : List (List zE)).flatten
              as_aux_lemma =>
                refine AW.run hZ hRm [4] 400 ?_
                show AW Z 0 0 4 [some (.ref 0), none, some (.int (x2 + 1)), some (.int (x3 + 1)), some (.int ((R_op v0) (Int32.toNatClampNeg x3)))] [] ([kR 0 (R_pile_s v0 z30)] : List (List zE)).flatten
                refine AW.forget [true, false, true, true, false] ?_
                show AW Z 0 0 4 [some (.ref 0), none, some (.int (x2 + 1)), some (.int (x3 + 1)), none] [] ([kR 0 (R_pile_s v0 z30)] : List (List zE)).flatten
                exact ih v0 (x2 + 1) (x3 + 1) z30 q hf hk0
set_option maxRecDepth 20000 in
set_option maxHeartbeats 4000000 in
theorem c_R_worthAt (N : Nat) (v0 : VR) (a1 : Int32) (R : Int32 × (Nat → Int32)) (hf : f_R_worthAt N v0 a1 = some R) : Ct zMX12_worthAt 2 0 0 0 [.ref 0, .int a1] ([kR 0 v0] : List (List zE)).flatten (fun v cc => v = some (.int R.1) ∧ cc = ([kR 0 (R_pile_s v0 R.2)] : List (List zE)).flatten) := by
  refine Ct.of zMX12_worthAt_ok (by decide) (Nat.le_of_ble_eq_true rfl) ?_
  intro Z hZ hR hN hE
  have hRm : zRoom Z 0 0 := zRoom0 Z
  unfold f_R_worthAt at hf
  show AW Z 0 0 0 [some (.ref 0), some (.int a1), none, none, none] [] ([kR 0 v0] : List (List zE)).flatten
  refine AW.run hZ hRm [4] 400 ?_
  show AW Z 0 0 4 [some (.ref 0), some (.int a1), some (.int 0), some (.int a1), none] [] ([kR 0 v0] : List (List zE)).flatten
  obtain ⟨q35, h36, hf⟩ := zbind hf
  refine AW.forget [true, false, true, true, false] ?_
  show AW Z 0 0 4 [some (.ref 0), none, some (.int 0), some (.int a1), none] [] ([kR 0 v0] : List (List zE)).flatten
  refine c_R_worthAt_L4 hZ hR (by omega) hN hRm N N v0 0 a1 (R_pile v0) q35 h36 ?_
  show AW Z 0 0 140 [some (.ref 0), none, none, none, none] [] ([kR 0 (R_pile_s v0 q35)] : List (List zE)).flatten
  refine AW.run hZ hRm [146] 400 ?_
  show (¬ ((0 : Int32) < 0 ∨ 1100 ≤ Int32.toNatClampNeg 0) ∧ AW Z 0 0 146 [some (.ref 0), none, none, none, none] [.int (q35 (Int32.toNatClampNeg 0))] ([kR 0 (R_pile_s v0 q35)] : List (List zE)).flatten)
  refine ⟨(by decide), ?_⟩
  cases hf
  exact AW.iret hZ hE rfl rfl rfl rfl (Nat.le_refl 0) (Nat.le_refl 0) rfl ⟨rfl, rfl⟩
def f_R_copies_L3 (N : Nat) : Nat → VR → Int32 → Int32 → Int32 → Int32 → (Nat → Int32) → Option ((Nat → Int32))
  | 0, _, _, _, _, _, _ => none
  | fuel + 1, v0, y1, y2, y3, x4, m_state0 => (if (y3 ≤ x4) then (some m_state0) else (if ((y1 + x4) < 0 ∨ 1656 ≤ Int32.toNatClampNeg (y1 + x4)) then none else (if ((y2 + x4) < 0 ∨ 1656 ≤ Int32.toNatClampNeg (y2 + x4)) then none else (zlet ((upd m_state0 (Int32.toNatClampNeg (y2 + x4)) (m_state0 (Int32.toNatClampNeg (y1 + x4)))) : (Nat → Int32)) (fun z2 => (f_R_copies_L3 N fuel v0 y1 y2 y3 (x4 + 1) z2))))))
def f_R_copies (N : Nat) (v0 : VR) (a1 : Int32) (a2 : Int32) (a3 : Int32) : Option ((Nat → Int32)) := ((f_R_copies_L3 N N v0 a1 a2 a3 0 (R_state v0)).bind (fun q5 => (some q5)))
set_option maxRecDepth 20000 in
set_option maxHeartbeats 4000000 in
theorem c_R_copies_L3 {Z : zCtx} {D n0w nf mcw msw : Nat} (hZ : zOk Z zMX12_copies) (hR : zCan Z D mcw msw) (hDd : 1 ≤ D) (hN : zNew Z n0w nf) (hRm : zRoom Z 0 0) (N : Nat) : ∀ (fuel : Nat) (v0 : VR) (y1 : Int32) (y2 : Int32) (y3 : Int32) (x4 : Int32) (m_state0 : (Nat → Int32)) (q : ((Nat → Int32))), f_R_copies_L3 N fuel v0 y1 y2 y3 x4 m_state0 = some q → (AW Z 0 0 33 [none, none, none, none, none] [] ([kR 0 (R_state_s v0 q)] : List (List zE)).flatten) → AW Z 0 0 3 [some (.ref 0), some (.int y1), some (.int y2), some (.int y3), some (.int x4)] [] ([kR 0 (R_state_s v0 m_state0)] : List (List zE)).flatten := by
  intro fuel
  induction fuel with
  | zero =>
    intro v0 y1 y2 y3 x4 m_state0 q hf hk0
    simp [f_R_copies_L3] at hf
  | succ fuel ih =>
    intro v0 y1 y2 y3 x4 m_state0 q hf hk0
    rw [f_R_copies_L3] at hf
    refine AW.run hZ hRm [27, 33] 400 ?_
    show (((y3 ≤ x4) → AW Z 0 0 33 [some (.ref 0), some (.int y1), some (.int y2), some (.int y3), some (.int x4)] [] ([kR 0 (R_state_s v0 m_state0)] : List (List zE)).flatten) ∧ (¬ (y3 ≤ x4) → (¬ ((y1 + x4) < 0 ∨ 1656 ≤ Int32.toNatClampNeg (y1 + x4)) ∧ (¬ ((y2 + x4) < 0 ∨ 1656 ≤ Int32.toNatClampNeg (y2 + x4)) ∧ AW Z 0 0 27 [some (.ref 0), some (.int y1), some (.int y2), some (.int y3), some (.int x4)] [] ([kR 0 (R_state_s v0 (upd m_state0 (Int32.toNatClampNeg (y2 + x4)) (m_state0 (Int32.toNatClampNeg (y1 + x4)))))] : List (List zE)).flatten))))
    refine ⟨fun c1 => ?_, fun c1 => ?_⟩
    · rw [if_pos c1] at hf
      cases hf
      refine AW.forget [false, false, false, false, false] ?_
      show AW Z 0 0 33 [none, none, none, none, none] [] ([kR 0 (R_state_s v0 m_state0)] : List (List zE)).flatten
      exact hk0
    · rw [if_neg c1] at hf
      obtain ⟨b4, hf⟩ := zneed hf
      refine ⟨b4, ?_⟩
      obtain ⟨b3, hf⟩ := zneed hf
      refine ⟨b3, ?_⟩
      replace hf := zlet_gen hf
      generalize ((upd m_state0 (Int32.toNatClampNeg (y2 + x4)) (m_state0 (Int32.toNatClampNeg (y1 + x4)))) : (Nat → Int32)) = z2 at hf ⊢
      as_aux_lemma =>
        refine AW.run hZ hRm [3] 400 ?_
        show AW Z 0 0 3 [some (.ref 0), some (.int y1), some (.int y2), some (.int y3), some (.int (x4 + 1))] [] ([kR 0 (R_state_s v0 z2)] : List (List zE)).flatten
        exact ih v0 y1 y2 y3 (x4 + 1) z2 q hf hk0
set_option maxRecDepth 20000 in
set_option maxHeartbeats 4000000 in
theorem c_R_copies (N : Nat) (v0 : VR) (a1 : Int32) (a2 : Int32) (a3 : Int32) (R : (Nat → Int32)) (hf : f_R_copies N v0 a1 a2 a3 = some R) : Ct zMX12_copies 1 0 0 0 [.ref 0, .int a1, .int a2, .int a3] ([kR 0 v0] : List (List zE)).flatten (fun v cc => v = none ∧ cc = ([kR 0 (R_state_s v0 R)] : List (List zE)).flatten) := by
  refine Ct.of zMX12_copies_ok (by decide) (Nat.le_of_ble_eq_true rfl) ?_
  intro Z hZ hR hN hE
  have hRm : zRoom Z 0 0 := zRoom0 Z
  unfold f_R_copies at hf
  show AW Z 0 0 0 [some (.ref 0), some (.int a1), some (.int a2), some (.int a3), none] [] ([kR 0 v0] : List (List zE)).flatten
  refine AW.run hZ hRm [3] 400 ?_
  show AW Z 0 0 3 [some (.ref 0), some (.int a1), some (.int a2), some (.int a3), some (.int 0)] [] ([kR 0 v0] : List (List zE)).flatten
  obtain ⟨q5, h6, hf⟩ := zbind hf
  refine c_R_copies_L3 hZ hR (by omega) hN hRm N N v0 a1 a2 a3 0 (R_state v0) q5 h6 ?_
  show AW Z 0 0 33 [none, none, none, none, none] [] ([kR 0 (R_state_s v0 q5)] : List (List zE)).flatten
  cases hf
  exact AW.vret hZ hE rfl rfl rfl (Nat.le_refl 0) (Nat.le_refl 0) rfl ⟨rfl, rfl⟩
def f_R_keeps_L11 (N : Nat) : Nat → VR → Int32 → (Nat → Int32) → Option ((Nat → Int32))
  | 0, _, _, _ => none
  | fuel + 1, v0, x1, m_state0 => (if (16 ≤ x1) then (some m_state0) else ((f_R_copies N (R_state_s v0 m_state0) (72 * (5 + x1)) (72 * ((5 + x1) - 1)) 46).bind (fun q5 => (f_R_keeps_L11 N fuel v0 (x1 + 1) q5))))
def f_R_keeps (N : Nat) (v0 : VR) : Option ((Nat → Int32) × Int32) := (if ((R_undos v0) = 16) then ((f_R_keeps_L11 N N v0 1 (R_state v0)).bind (fun q7 => ((f_R_copies N (R_s_state_undos v0 q7 ((R_undos v0) - 1)) 0 (72 * (5 + ((R_undos v0) - 1))) 46).bind (fun q9 => (some (q9, (((R_undos v0) - 1) + 1))))))) else ((f_R_copies N v0 0 (72 * (5 + (R_undos v0))) 46).bind (fun q2 => (some (q2, ((R_undos v0) + 1))))))
set_option maxRecDepth 20000 in
set_option maxHeartbeats 4000000 in
theorem c_R_keeps_L11 {Z : zCtx} {D n0w nf mcw msw : Nat} (hZ : zOk Z zMX12_keeps) (hR : zCan Z D mcw msw) (hDd : 2 ≤ D) (hN : zNew Z n0w nf) (hRm : zRoom Z 0 0) (N : Nat) : ∀ (fuel : Nat) (v0 : VR) (x1 : Int32) (m_state0 : (Nat → Int32)) (q : ((Nat → Int32))), f_R_keeps_L11 N fuel v0 x1 m_state0 = some q → (AW Z 0 0 43 [some (.ref 0), none] [] ([kR 0 (R_state_s v0 q)] : List (List zE)).flatten) → AW Z 0 0 11 [some (.ref 0), some (.int x1)] [] ([kR 0 (R_state_s v0 m_state0)] : List (List zE)).flatten := by
  intro fuel
  induction fuel with
  | zero =>
    intro v0 x1 m_state0 q hf hk0
    simp [f_R_keeps_L11] at hf
  | succ fuel ih =>
    intro v0 x1 m_state0 q hf hk0
    rw [f_R_keeps_L11] at hf
    refine AW.run hZ hRm [34, 43] 400 ?_
    show (((16 ≤ x1) → AW Z 0 0 43 [some (.ref 0), some (.int x1)] [] ([kR 0 (R_state_s v0 m_state0)] : List (List zE)).flatten) ∧ (¬ (16 ≤ x1) → AW Z 0 0 34 [some (.ref 0), some (.int x1)] [.int 46, .int (72 * ((5 + x1) - 1)), .int (72 * (5 + x1)), .ref 0] ([kR 0 (R_state_s v0 m_state0)] : List (List zE)).flatten))
    refine ⟨fun c4 => ?_, fun c4 => ?_⟩
    · rw [if_pos c4] at hf
      cases hf
      refine AW.forget [true, false] ?_
      show AW Z 0 0 43 [some (.ref 0), none] [] ([kR 0 (R_state_s v0 m_state0)] : List (List zE)).flatten
      exact hk0
    · rw [if_neg c4] at hf
      obtain ⟨q5, h6, hf⟩ := zbind hf
      refine AW.callVc hZ hR hN (c_R_copies N (R_state_s v0 m_state0) (72 * (5 + x1)) (72 * ((5 + x1) - 1)) 46 q5 h6) zMX12_copies_ok rfl rfl zK_BorrowedLivesModel_309 zV_X12_copies rfl [25] [0] [0, 1, 2, 3, 4, 5, 6, 7, 8, 9, 10, 11, 12, 13, 14, 15, 16, 17, 18, 19, 20, 21, 22, 23, 24] rfl rfl rfl (by decide) (by decide) (by omega) (by decide) (Nat.zero_le _) (Nat.zero_le _) rfl rfl rfl rfl rfl ?_
      rintro v cc ⟨rfl, rfl⟩
      refine ⟨_, rfl, rfl, ?_⟩
      show AW Z 0 0 37 [some (.ref 0), some (.int x1)] [] ([kR 0 (R_state_s v0 q5)] : List (List zE)).flatten
      refine AW.run hZ hRm [11] 400 ?_
      show AW Z 0 0 11 [some (.ref 0), some (.int (x1 + 1))] [] ([kR 0 (R_state_s v0 q5)] : List (List zE)).flatten
      exact ih v0 (x1 + 1) q5 q hf hk0
set_option maxRecDepth 20000 in
set_option maxHeartbeats 4000000 in
theorem c_R_keeps (N : Nat) (v0 : VR) (R : (Nat → Int32) × Int32) (hf : f_R_keeps N v0 = some R) : Ct zMX12_keeps 2 0 0 0 [.ref 0] ([kR 0 v0] : List (List zE)).flatten (fun v cc => v = none ∧ cc = ([kR 0 (R_s_state_undos v0 R.1 R.2)] : List (List zE)).flatten) := by
  refine Ct.of zMX12_keeps_ok (by decide) (Nat.le_of_ble_eq_true rfl) ?_
  intro Z hZ hR hN hE
  have hRm : zRoom Z 0 0 := zRoom0 Z
  unfold f_R_keeps at hf
  show AW Z 0 0 0 [some (.ref 0), none] [] ([kR 0 v0] : List (List zE)).flatten
  refine AW.run hZ hRm [11, 66] 400 ?_
  show ((¬ ((R_undos v0) = 16) → AW Z 0 0 66 [some (.ref 0), none] [.int 46, .int (72 * (5 + (R_undos v0))), .int 0, .ref 0] ([kR 0 v0] : List (List zE)).flatten) ∧ (((R_undos v0) = 16) → AW Z 0 0 11 [some (.ref 0), some (.int 1)] [] ([kR 0 v0] : List (List zE)).flatten))
  refine ⟨fun c1 => ?_, fun c1 => ?_⟩
  · rw [if_neg c1] at hf
    obtain ⟨q2, h3, hf⟩ := zbind hf
    refine AW.callVc hZ hR hN (c_R_copies N v0 0 (72 * (5 + (R_undos v0))) 46 q2 h3) zMX12_copies_ok rfl rfl zK_BorrowedLivesModel_309 zV_X12_copies rfl [25] [0] [0, 1, 2, 3, 4, 5, 6, 7, 8, 9, 10, 11, 12, 13, 14, 15, 16, 17, 18, 19, 20, 21, 22, 23, 24] rfl rfl rfl (by decide) (by decide) (by omega) (by decide) (Nat.zero_le _) (Nat.zero_le _) rfl rfl rfl rfl rfl ?_
    rintro v cc ⟨rfl, rfl⟩
    refine ⟨_, rfl, rfl, ?_⟩
    show AW Z 0 0 69 [some (.ref 0), none] [] ([kR 0 (R_state_s v0 q2)] : List (List zE)).flatten
    refine AW.run hZ hRm [79] 400 ?_
    show AW Z 0 0 79 [some (.ref 0), none] [] ([kR 0 (R_s_state_undos v0 q2 ((R_undos v0) + 1))] : List (List zE)).flatten
    cases hf
    exact AW.vret hZ hE rfl rfl rfl (Nat.le_refl 0) (Nat.le_refl 0) rfl ⟨rfl, rfl⟩
  · rw [if_pos c1] at hf
    obtain ⟨q7, h8, hf⟩ := zbind hf
    refine c_R_keeps_L11 hZ hR (by omega) hN hRm N N v0 1 (R_state v0) q7 h8 ?_
    show AW Z 0 0 43 [some (.ref 0), none] [] ([kR 0 (R_state_s v0 q7)] : List (List zE)).flatten
    refine AW.run hZ hRm [66] 400 ?_
    show AW Z 0 0 66 [some (.ref 0), none] [.int 46, .int (72 * (5 + ((R_undos v0) - 1))), .int 0, .ref 0] ([kR 0 (R_s_state_undos v0 q7 ((R_undos v0) - 1))] : List (List zE)).flatten
    obtain ⟨q9, h10, hf⟩ := zbind hf
    refine AW.callVc hZ hR hN (c_R_copies N (R_s_state_undos v0 q7 ((R_undos v0) - 1)) 0 (72 * (5 + ((R_undos v0) - 1))) 46 q9 h10) zMX12_copies_ok rfl rfl zK_BorrowedLivesModel_309 zV_X12_copies rfl [25] [0] [0, 1, 2, 3, 4, 5, 6, 7, 8, 9, 10, 11, 12, 13, 14, 15, 16, 17, 18, 19, 20, 21, 22, 23, 24] rfl rfl rfl (by decide) (by decide) (by omega) (by decide) (Nat.zero_le _) (Nat.zero_le _) rfl rfl rfl rfl rfl ?_
    rintro v cc ⟨rfl, rfl⟩
    refine ⟨_, rfl, rfl, ?_⟩
    show AW Z 0 0 69 [some (.ref 0), none] [] ([kR 0 (R_s_state_undos v0 q9 ((R_undos v0) - 1))] : List (List zE)).flatten
    refine AW.run hZ hRm [79] 400 ?_
    show AW Z 0 0 79 [some (.ref 0), none] [] ([kR 0 (R_s_state_undos v0 q9 (((R_undos v0) - 1) + 1))] : List (List zE)).flatten
    cases hf
    exact AW.vret hZ hE rfl rfl rfl (Nat.le_refl 0) (Nat.le_refl 0) rfl ⟨rfl, rfl⟩
def f_R_isPerson (N : Nat) (v0 : VR) (a1 : Int32) : Option (Int32) := (if (a1 < 0) then (some 0) else ((f_R_people N v0).bind (fun q2 => (if (q2 ≤ a1) then (some 0) else (some 1)))))
set_option maxRecDepth 20000 in
set_option maxHeartbeats 4000000 in
theorem c_R_isPerson (N : Nat) (v0 : VR) (a1 : Int32) (R : Int32) (hf : f_R_isPerson N v0 a1 = some R) : Ct zMX12_isPerson 2 0 0 0 [.ref 0, .int a1] ([kR 0 v0] : List (List zE)).flatten (fun v cc => v = some (.int R) ∧ cc = ([kR 0 v0] : List (List zE)).flatten) := by
  refine Ct.of zMX12_isPerson_ok (by decide) (Nat.le_of_ble_eq_true rfl) ?_
  intro Z hZ hR hN hE
  have hRm : zRoom Z 0 0 := zRoom0 Z
  unfold f_R_isPerson at hf
  show AW Z 0 0 0 [some (.ref 0), some (.int a1)] [] ([kR 0 v0] : List (List zE)).flatten
  refine AW.run hZ hRm [6, 17] 400 ?_
  show (((a1 < 0) → AW Z 0 0 17 [some (.ref 0), some (.int a1)] [.int 0] ([kR 0 v0] : List (List zE)).flatten) ∧ (¬ (a1 < 0) → AW Z 0 0 6 [some (.ref 0), some (.int a1)] [.ref 0, .int a1] ([kR 0 v0] : List (List zE)).flatten))
  refine ⟨fun c1 => ?_, fun c1 => ?_⟩
  · rw [if_pos c1] at hf
    cases hf
    exact AW.iret hZ hE rfl rfl rfl rfl (Nat.le_refl 0) (Nat.le_refl 0) rfl ⟨rfl, rfl⟩
  · rw [if_neg c1] at hf
    obtain ⟨q2, h4, hf⟩ := zbind hf
    refine AW.callVc hZ hR hN (c_R_people N v0 q2 h4) zMX12_people_ok rfl rfl zK_BorrowedLivesModel_291 zV_X12_people rfl [25] [0] [0, 1, 2, 3, 4, 5, 6, 7, 8, 9, 10, 11, 12, 13, 14, 15, 16, 17, 18, 19, 20, 21, 22, 23, 24] rfl rfl rfl (by decide) (by decide) (by omega) (by decide) (Nat.zero_le _) (Nat.zero_le _) rfl rfl rfl rfl rfl ?_
    rintro v cc ⟨rfl, rfl⟩
    refine ⟨_, rfl, rfl, ?_⟩
    show AW Z 0 0 9 [some (.ref 0), some (.int a1)] [.int q2, .int a1] ([kR 0 v0] : List (List zE)).flatten
    refine AW.run hZ hRm [17] 400 ?_
    show (((q2 ≤ a1) → AW Z 0 0 17 [some (.ref 0), some (.int a1)] [.int 0] ([kR 0 v0] : List (List zE)).flatten) ∧ (¬ (q2 ≤ a1) → AW Z 0 0 17 [some (.ref 0), some (.int a1)] [.int 1] ([kR 0 v0] : List (List zE)).flatten))
    refine ⟨fun c3 => ?_, fun c3 => ?_⟩
    · rw [if_pos c3] at hf
      cases hf
      exact AW.iret hZ hE rfl rfl rfl rfl (Nat.le_refl 0) (Nat.le_refl 0) rfl ⟨rfl, rfl⟩
    · rw [if_neg c3] at hf
      cases hf
      exact AW.iret hZ hE rfl rfl rfl rfl (Nat.le_refl 0) (Nat.le_refl 0) rfl ⟨rfl, rfl⟩
def f_R_selfOf (N : Nat) (v0 : VR) (a1 : Int32) (a2 : Int32) : Option (Int32) := (if (a1 < 0 ∨ 265 ≤ Int32.toNatClampNeg a1) then none else (some ((((R_lotRows v0) (Int32.toNatClampNeg a1)) >>> ((3 * a2) &&& 31)) &&& 7)))
set_option maxRecDepth 20000 in
set_option maxHeartbeats 4000000 in
theorem c_R_selfOf (N : Nat) (v0 : VR) (a1 : Int32) (a2 : Int32) (R : Int32) (hf : f_R_selfOf N v0 a1 a2 = some R) : Ct zMX12_selfOf 1 0 0 0 [.ref 0, .int a1, .int a2] ([kR 0 v0] : List (List zE)).flatten (fun v cc => v = some (.int R) ∧ cc = ([kR 0 v0] : List (List zE)).flatten) := by
  refine Ct.of zMX12_selfOf_ok (by decide) (Nat.le_of_ble_eq_true rfl) ?_
  intro Z hZ hR hN hE
  have hRm : zRoom Z 0 0 := zRoom0 Z
  unfold f_R_selfOf at hf
  show AW Z 0 0 0 [some (.ref 0), some (.int a1), some (.int a2)] [] ([kR 0 v0] : List (List zE)).flatten
  refine AW.run hZ hRm [13] 400 ?_
  show (¬ (a1 < 0 ∨ 265 ≤ Int32.toNatClampNeg a1) ∧ AW Z 0 0 13 [some (.ref 0), some (.int a1), some (.int a2)] [.int ((((R_lotRows v0) (Int32.toNatClampNeg a1)) >>> ((3 * a2) &&& 31)) &&& 7)] ([kR 0 v0] : List (List zE)).flatten)
  obtain ⟨b1, hf⟩ := zneed hf
  refine ⟨b1, ?_⟩
  cases hf
  exact AW.iret hZ hE rfl rfl rfl rfl (Nat.le_refl 0) (Nat.le_refl 0) rfl ⟨rfl, rfl⟩
