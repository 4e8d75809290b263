def f_R_town_L30 (N : Nat) : Nat → VR → Int32 → Int32 → (Nat → Int32) → (Nat → Int32) → (Nat → Int32) → Int32 → (Nat → Int64) → Int32 → Int32 → Int32 → Option (Int32 × Int32 × (Nat → Int32) × (Nat → Int32) × (Nat → Int32) × Int32 × (Nat → Int64) × Int32 × Int32 × Int32)
  | 0, _, _, _, _, _, _, _, _, _, _, _ => none
  | fuel + 1, v0, m_at0, m_fault1, m_towns2, m_op3, m_arg4, m_codes5, m_readNames6, m_readMany7, m_hasSigned8, m_factsHere9 => (if (m_fault1 = 0) then (if (m_at0 < 0 ∨ 1002 ≤ Int32.toNatClampNeg m_at0) then none else (if (((R_sort v0) (Int32.toNatClampNeg m_at0)) = 0) then (some (m_at0, m_fault1, m_towns2, m_op3, m_arg4, m_codes5, m_readNames6, m_readMany7, m_hasSigned8, m_factsHere9)) else ((f_R_isWord N (R_s_at_fault_towns_op_arg_codes_readNames_readMany_hasSigned_factsHere v0 m_at0 m_fault1 m_towns2 m_op3 m_arg4 m_codes5 m_readNames6 m_readMany7 m_hasSigned8 m_factsHere9) 0).bind (fun q5 => (if (q5 = 0) then ((f_R_isWord N (R_s_at_fault_towns_op_arg_codes_readNames_readMany_hasSigned_factsHere v0 m_at0 m_fault1 m_towns2 m_op3 m_arg4 m_codes5 m_readNames6 m_readMany7 m_hasSigned8 m_factsHere9) 5).bind (fun q7 => (if (q7 = 0) then ((f_R_readOnce N (R_s_at_fault_towns_op_arg_codes_readNames_readMany_hasSigned_factsHere v0 m_at0 m_fault1 m_towns2 m_op3 m_arg4 m_codes5 m_readNames6 m_readMany7 m_hasSigned8 m_factsHere9)).bind (fun q9 => ((f_R_takeSign N (R_s_at_fault_towns_op_arg_codes_readNames_readMany_hasSigned_factsHere v0 q9.1 q9.2.1 q9.2.2.1 q9.2.2.2.1 q9.2.2.2.2.1 q9.2.2.2.2.2.1 m_readNames6 m_readMany7 q9.2.2.2.2.2.2.1 q9.2.2.2.2.2.2.2) 59).bind (fun q10 => (f_R_town_L30 N fuel v0 q10.1 q10.2 q9.2.2.1 q9.2.2.2.1 q9.2.2.2.2.1 q9.2.2.2.2.2.1 m_readNames6 m_readMany7 q9.2.2.2.2.2.2.1 q9.2.2.2.2.2.2.2))))) else ((f_R_readBar N (R_s_at_fault_towns_op_arg_codes_readNames_readMany_hasSigned_factsHere v0 m_at0 m_fault1 m_towns2 m_op3 m_arg4 m_codes5 m_readNames6 m_readMany7 m_hasSigned8 m_factsHere9)).bind (fun q13 => ((f_R_takeSign N (R_s_at_fault_towns_op_arg_codes_readNames_readMany_hasSigned_factsHere v0 q13.1 q13.2.1 q13.2.2 m_op3 m_arg4 m_codes5 m_readNames6 m_readMany7 m_hasSigned8 m_factsHere9) 59).bind (fun q14 => (f_R_town_L30 N fuel v0 q14.1 q14.2 q13.2.2 m_op3 m_arg4 m_codes5 m_readNames6 m_readMany7 m_hasSigned8 m_factsHere9)))))))) else ((f_R_readPerson N (R_s_at_fault_towns_op_arg_codes_readNames_readMany_hasSigned_factsHere v0 m_at0 m_fault1 m_towns2 m_op3 m_arg4 m_codes5 m_readNames6 m_readMany7 m_hasSigned8 m_factsHere9)).bind (fun q18 => ((f_R_takeSign N (R_s_at_fault_towns_op_arg_codes_readNames_readMany_hasSigned_factsHere v0 q18.1 q18.2.1 q18.2.2.1 m_op3 m_arg4 m_codes5 q18.2.2.2.1 q18.2.2.2.2 m_hasSigned8 m_factsHere9) 59).bind (fun q19 => (f_R_town_L30 N fuel v0 q19.1 q19.2 q18.2.2.1 m_op3 m_arg4 m_codes5 q18.2.2.2.1 q18.2.2.2.2 m_hasSigned8 m_factsHere9)))))))))) else (some (m_at0, m_fault1, m_towns2, m_op3, m_arg4, m_codes5, m_readNames6, m_readMany7, m_hasSigned8, m_factsHere9)))
def f_R_town_L106 (N : Nat) : Nat → VR → Int32 → (Nat → Int32) → Option ((Nat → Int32))
  | 0, _, _, _ => none
  | fuel + 1, v0, x1, m_towns0 => (if (80 ≤ x1) then (some m_towns0) else (if ((80 + x1) < 0 ∨ 160 ≤ Int32.toNatClampNeg (80 + x1)) then none else (if (x1 < 0 ∨ 160 ≤ Int32.toNatClampNeg x1) then none else (zlet ((upd m_towns0 (Int32.toNatClampNeg x1) (m_towns0 (Int32.toNatClampNeg (80 + x1)))) : (Nat → Int32)) (fun z28 => (f_R_town_L106 N fuel v0 (x1 + 1) z28))))))
def f_R_town_L135 (N : Nat) : Nat → VR → Int32 → (Nat → Int32) → (Nat → Int32) → Option ((Nat → Int32) × (Nat → Int32))
  | 0, _, _, _, _ => none
  | fuel + 1, v0, x1, m_op0, m_arg1 => (if ((R_codes v0) ≤ x1) then (some (m_op0, m_arg1)) else (if ((1100 + x1) < 0 ∨ 2200 ≤ Int32.toNatClampNeg (1100 + x1)) then none else (if (x1 < 0 ∨ 2200 ≤ Int32.toNatClampNeg x1) then none else (zlet ((upd m_op0 (Int32.toNatClampNeg x1) (m_op0 (Int32.toNatClampNeg (1100 + x1)))) : (Nat → Int32)) (fun z34 => (if ((1100 + x1) < 0 ∨ 2200 ≤ Int32.toNatClampNeg (1100 + x1)) then none else (if (x1 < 0 ∨ 2200 ≤ Int32.toNatClampNeg x1) then none else (zlet ((upd m_arg1 (Int32.toNatClampNeg x1) (m_arg1 (Int32.toNatClampNeg (1100 + x1)))) : (Nat → Int32)) (fun z35 => (f_R_town_L135 N fuel v0 (x1 + 1) z34 z35))))))))))
def f_R_town_L183 (N : Nat) : Nat → VR → Int32 → (Nat → Int64) → Option ((Nat → Int64))
  | 0, _, _, _ => none
  | fuel + 1, v0, x1, m_names0 => (if ((R_readMany v0) ≤ x1) then (some m_names0) else (if (x1 < 0 ∨ 6 ≤ Int32.toNatClampNeg x1) then none else (if (x1 < 0 ∨ 6 ≤ Int32.toNatClampNeg x1) then none else (zlet ((vp_updL m_names0 (Int32.toNatClampNeg x1) ((R_readNames v0) (Int32.toNatClampNeg x1))) : (Nat → Int64)) (fun z43 => (f_R_town_L183 N fuel v0 (x1 + 1) z43))))))
def f_R_town (N : Nat) (v0 : VR) : Option (Int32 × Int32 × Int32 × Int32 × (Nat → Int32) × (Nat → Int32) × (Nat → Int64) × Int32 × Int32 × (Nat → Int32) × (Nat → Int32) × (Nat → Int32) × Int32 × (Nat → Int64) × (Nat → Int64) × Int32 × Int32 × Int32 × Int32 × (Nat → Int32) × (Nat → Int32) × Int32 × (Nat → Int32) × Int32 × (Nat → Int32) × (Nat → Int32) × Int32) := ((f_R_cutAll N (R_thrown_s v0 0)).bind (fun q1 => ((f_R_standsAsAlways N (R_s_thrown_taped_size_sort_place_value_at_fault_codes_readMany_hasSigned v0 0 q1.1 q1.2.1 q1.2.2.1 q1.2.2.2.1 q1.2.2.2.2.1 q1.2.2.2.2.2.1 q1.2.2.2.2.2.2 0 0 0) 80).bind (fun q2 => ((f_R_town_L30 N N (R_s_thrown_taped_size_sort_place_value_at_fault_towns_codes_readMany_hasSigned v0 0 q1.1 q1.2.1 q1.2.2.1 q1.2.2.2.1 q1.2.2.2.2.1 q1.2.2.2.2.2.1 q1.2.2.2.2.2.2 q2 0 0 0) q1.2.2.2.2.2.1 q1.2.2.2.2.2.2 q2 (R_op v0) (R_arg v0) 0 (R_readNames v0) 0 0 (R_factsHere v0)).bind (fun q24 => (if (q24.2.1 ≤ 0) then ((f_R_town_L106 N N (R_s_thrown_taped_size_sort_place_value_at_fault_towns_op_arg_codes_readNames_readMany_hasSigned_factsHere v0 0 q1.1 q1.2.1 q1.2.2.1 q1.2.2.2.1 q1.2.2.2.2.1 q24.1 q24.2.1 q24.2.2.1 q24.2.2.2.1 q24.2.2.2.2.1 q24.2.2.2.2.2.1 q24.2.2.2.2.2.2.1 q24.2.2.2.2.2.2.2.1 q24.2.2.2.2.2.2.2.2.1 q24.2.2.2.2.2.2.2.2.2) 0 q24.2.2.1).bind (fun q31 => ((f_R_town_L135 N N (R_s_thrown_taped_size_sort_place_value_at_fault_towns_op_arg_codes_readNames_readMany_hasSigned_factsHere v0 0 q1.1 q1.2.1 q1.2.2.1 q1.2.2.2.1 q1.2.2.2.2.1 q24.1 q24.2.1 q31 q24.2.2.2.1 q24.2.2.2.2.1 q24.2.2.2.2.2.1 q24.2.2.2.2.2.2.1 q24.2.2.2.2.2.2.2.1 q24.2.2.2.2.2.2.2.2.1 q24.2.2.2.2.2.2.2.2.2) 0 q24.2.2.2.1 q24.2.2.2.2.1).bind (fun q40 => ((f_R_town_L183 N N (R_s_thrown_taped_size_sort_place_value_at_fault_towns_op_arg_codes_readNames_readMany_hasSigned_factsHere v0 0 q1.1 q1.2.1 q1.2.2.1 q1.2.2.2.1 q1.2.2.2.2.1 q24.1 q24.2.1 q31 q40.1 q40.2 q24.2.2.2.2.2.1 q24.2.2.2.2.2.2.1 q24.2.2.2.2.2.2.2.1 q24.2.2.2.2.2.2.2.2.1 q24.2.2.2.2.2.2.2.2.2) 0 (R_names v0)).bind (fun q46 => ((f_R_begins N (R_s_thrown_taped_size_sort_place_value_at_fault_towns_op_arg_codes_names_readNames_namesMany_readMany_hasSigned_factsHere v0 0 q1.1 q1.2.1 q1.2.2.1 q1.2.2.2.1 q1.2.2.2.2.1 q24.1 q24.2.1 q31 q40.1 q40.2 q24.2.2.2.2.2.1 q46 q24.2.2.2.2.2.2.1 q24.2.2.2.2.2.2.2.1 q24.2.2.2.2.2.2.2.1 q24.2.2.2.2.2.2.2.2.1 q24.2.2.2.2.2.2.2.2.2)).bind (fun q48 => (some (0, 0, q1.1, q1.2.1, q1.2.2.1, q1.2.2.2.1, q1.2.2.2.2.1, q24.1, q24.2.1, q31, q40.1, q40.2, q24.2.2.2.2.2.1, q46, q24.2.2.2.2.2.2.1, q24.2.2.2.2.2.2.2.1, q24.2.2.2.2.2.2.2.1, q24.2.2.2.2.2.2.2.2.1, q24.2.2.2.2.2.2.2.2.2, q48.1, q48.2.1, q48.2.2.1, q48.2.2.2.1, q48.2.2.2.2.1, q48.2.2.2.2.2.1, q48.2.2.2.2.2.2.1, q48.2.2.2.2.2.2.2)))))))))) else (some (q24.2.1, 0, q1.1, q1.2.1, q1.2.2.1, q1.2.2.2.1, q1.2.2.2.2.1, q24.1, q24.2.1, q24.2.2.1, q24.2.2.2.1, q24.2.2.2.2.1, q24.2.2.2.2.2.1, (R_names v0), q24.2.2.2.2.2.2.1, (R_namesMany v0), q24.2.2.2.2.2.2.2.1, q24.2.2.2.2.2.2.2.2.1, q24.2.2.2.2.2.2.2.2.2, (R_lines v0), (R_state v0), (R_undos v0), (R_isMarked v0), (R_signed v0), (R_lotRows v0), (R_lotRow v0), (R_lotsMany v0))))))))))
set_option maxRecDepth 20000 in
set_option maxHeartbeats 4000000 in
theorem c_R_town_L30 {Z : zCtx} {D n0w nf mcw msw : Nat} (hZ : zOk Z zMX12_town) (hR : zCan Z D mcw msw) (hDd : 68 ≤ D) (hN : zNew Z n0w nf) (hRm : zRoom Z 0 0) (N : Nat) : ∀ (fuel : Nat) (v0 : VR) (m_at0 : Int32) (m_fault1 : Int32) (m_towns2 : (Nat → Int32)) (m_op3 : (Nat → Int32)) (m_arg4 : (Nat → Int32)) (m_codes5 : Int32) (m_readNames6 : (Nat → Int64)) (m_readMany7 : Int32) (m_hasSigned8 : Int32) (m_factsHere9 : Int32) (q : (Int32 × Int32 × (Nat → Int32) × (Nat → Int32) × (Nat → Int32) × Int32 × (Nat → Int64) × Int32 × Int32 × Int32)), f_R_town_L30 N fuel v0 m_at0 m_fault1 m_towns2 m_op3 m_arg4 m_codes5 m_readNames6 m_readMany7 m_hasSigned8 m_factsHere9 = some q → (AW Z 0 0 92 [some (.ref 0), none] [] ([kR 0 (R_s_at_fault_towns_op_arg_codes_readNames_readMany_hasSigned_factsHere v0 q.1 q.2.1 q.2.2.1 q.2.2.2.1 q.2.2.2.2.1 q.2.2.2.2.2.1 q.2.2.2.2.2.2.1 q.2.2.2.2.2.2.2.1 q.2.2.2.2.2.2.2.2.1 q.2.2.2.2.2.2.2.2.2)] : List (List zE)).flatten) → AW Z 0 0 30 [some (.ref 0), none] [] ([kR 0 (R_s_at_fault_towns_op_arg_codes_readNames_readMany_hasSigned_factsHere v0 m_at0 m_fault1 m_towns2 m_op3 m_arg4 m_codes5 m_readNames6 m_readMany7 m_hasSigned8 m_factsHere9)] : List (List zE)).flatten := by
  intro fuel
  induction fuel with
  | zero =>
    intro v0 m_at0 m_fault1 m_towns2 m_op3 m_arg4 m_codes5 m_readNames6 m_readMany7 m_hasSigned8 m_factsHere9 q hf hk0
    simp [f_R_town_L30] at hf
  | succ fuel ih =>
    intro v0 m_at0 m_fault1 m_towns2 m_op3 m_arg4 m_codes5 m_readNames6 m_readMany7 m_hasSigned8 m_factsHere9 q hf hk0
    rw [f_R_town_L30] at hf
    refine AW.run hZ hRm [51, 92] 400 ?_
    show ((¬ (m_fault1 = 0) → AW Z 0 0 92 [some (.ref 0), none] [] ([kR 0 (R_s_at_fault_towns_op_arg_codes_readNames_readMany_hasSigned_factsHere v0 m_at0 m_fault1 m_towns2 m_op3 m_arg4 m_codes5 m_readNames6 m_readMany7 m_hasSigned8 m_factsHere9)] : List (List zE)).flatten) ∧ ((m_fault1 = 0) → (¬ (m_at0 < 0 ∨ 1002 ≤ Int32.toNatClampNeg m_at0) ∧ (((((R_sort v0) (Int32.toNatClampNeg m_at0)) = 0) → AW Z 0 0 92 [some (.ref 0), none] [] ([kR 0 (R_s_at_fault_towns_op_arg_codes_readNames_readMany_hasSigned_factsHere v0 m_at0 m_fault1 m_towns2 m_op3 m_arg4 m_codes5 m_readNames6 m_readMany7 m_hasSigned8 m_factsHere9)] : List (List zE)).flatten) ∧ (¬ (((R_sort v0) (Int32.toNatClampNeg m_at0)) = 0) → AW Z 0 0 51 [some (.ref 0), none] [.int 0, .ref 0] ([kR 0 (R_s_at_fault_towns_op_arg_codes_readNames_readMany_hasSigned_factsHere v0 m_at0 m_fault1 m_towns2 m_op3 m_arg4 m_codes5 m_readNames6 m_readMany7 m_hasSigned8 m_factsHere9)] : List (List zE)).flatten)))))
    refine ⟨fun c3 => ?_, fun c3 => ?_⟩
    · rw [if_neg c3] at hf
      cases hf
      exact hk0
    · rw [if_pos c3] at hf
      obtain ⟨b23, hf⟩ := zneed hf
      refine ⟨b23, ?_⟩
      refine ⟨fun c4 => ?_, fun c4 => ?_⟩
      · rw [if_pos c4] at hf
        cases hf
        exact hk0
      · rw [if_neg c4] at hf
        obtain ⟨q5, h22, hf⟩ := zbind hf
        refine AW.callVc hZ hR hN (c_R_isWord N (R_s_at_fault_towns_op_arg_codes_readNames_readMany_hasSigned_factsHere v0 m_at0 m_fault1 m_towns2 m_op3 m_arg4 m_codes5 m_readNames6 m_readMany7 m_hasSigned8 m_factsHere9) 0 q5 h22) zMX12_isWord_ok rfl rfl zK_BorrowedLivesModel_191 zV_X12_isWord rfl [25] [0] [0, 1, 2, 3, 4, 5, 6, 7, 8, 9, 10, 11, 12, 13, 14, 15, 16, 17, 18, 19, 20, 21, 22, 23, 24] rfl rfl rfl (by decide) (by decide) (by omega) (by decide) (Nat.zero_le _) (Nat.zero_le _) rfl rfl rfl rfl rfl ?_
        rintro v cc ⟨rfl, rfl⟩
        refine ⟨_, rfl, rfl, ?_⟩
        show AW Z 0 0 54 [some (.ref 0), none] [.int q5] ([kR 0 (R_s_at_fault_towns_op_arg_codes_readNames_readMany_hasSigned_factsHere v0 m_at0 m_fault1 m_towns2 m_op3 m_arg4 m_codes5 m_readNames6 m_readMany7 m_hasSigned8 m_factsHere9)] : List (List zE)).flatten
        refine AW.run hZ hRm [58, 66] 400 ?_
        show (((q5 = 0) → AW Z 0 0 66 [some (.ref 0), none] [.int 5, .ref 0] ([kR 0 (R_s_at_fault_towns_op_arg_codes_readNames_readMany_hasSigned_factsHere v0 m_at0 m_fault1 m_towns2 m_op3 m_arg4 m_codes5 m_readNames6 m_readMany7 m_hasSigned8 m_factsHere9)] : List (List zE)).flatten) ∧ (¬ (q5 = 0) → AW Z 0 0 58 [some (.ref 0), none] [.ref 0] ([kR 0 (R_s_at_fault_towns_op_arg_codes_readNames_readMany_hasSigned_factsHere v0 m_at0 m_fault1 m_towns2 m_op3 m_arg4 m_codes5 m_readNames6 m_readMany7 m_hasSigned8 m_factsHere9)] : List (List zE)).flatten))
        refine ⟨fun c6 => ?_, fun c6 => ?_⟩
        · rw [if_pos c6] at hf
          obtain ⟨q7, h17, hf⟩ := zbind hf
          refine AW.callVc hZ hR hN (c_R_isWord N (R_s_at_fault_towns_op_arg_codes_readNames_readMany_hasSigned_factsHere v0 m_at0 m_fault1 m_towns2 m_op3 m_arg4 m_codes5 m_readNames6 m_readMany7 m_hasSigned8 m_factsHere9) 5 q7 h17) zMX12_isWord_ok rfl rfl zK_BorrowedLivesModel_191 zV_X12_isWord rfl [25] [0] [0, 1, 2, 3, 4, 5, 6, 7, 8, 9, 10, 11, 12, 13, 14, 15, 16, 17, 18, 19, 20, 21, 22, 23, 24] rfl rfl rfl (by decide) (by decide) (by omega) (by decide) (Nat.zero_le _) (Nat.zero_le _) rfl rfl rfl rfl rfl ?_
          rintro v cc ⟨rfl, rfl⟩
          refine ⟨_, rfl, rfl, ?_⟩
          show AW Z 0 0 69 [some (.ref 0), none] [.int q7] ([kR 0 (R_s_at_fault_towns_op_arg_codes_readNames_readMany_hasSigned_factsHere v0 m_at0 m_fault1 m_towns2 m_op3 m_arg4 m_codes5 m_readNames6 m_readMany7 m_hasSigned8 m_factsHere9)] : List (List zE)).flatten
          refine AW.run hZ hRm [73, 80] 400 ?_
          show (((q7 = 0) → AW Z 0 0 80 [some (.ref 0), none] [.ref 0] ([kR 0 (R_s_at_fault_towns_op_arg_codes_readNames_readMany_hasSigned_factsHere v0 m_at0 m_fault1 m_towns2 m_op3 m_arg4 m_codes5 m_readNames6 m_readMany7 m_hasSigned8 m_factsHere9)] : List (List zE)).flatten) ∧ (¬ (q7 = 0) → AW Z 0 0 73 [some (.ref 0), none] [.ref 0] ([kR 0 (R_s_at_fault_towns_op_arg_codes_readNames_readMany_hasSigned_factsHere v0 m_at0 m_fault1 m_towns2 m_op3 m_arg4 m_codes5 m_readNames6 m_readMany7 m_hasSigned8 m_factsHere9)] : List (List zE)).flatten))
          refine ⟨fun c8 => ?_, fun c8 => ?_⟩
          · rw [if_pos c8] at hf
            obtain ⟨q9, h12, hf⟩ := zbind hf
            refine AW.callVc hZ hR hN (c_R_readOnce N (R_s_at_fault_towns_op_arg_codes_readNames_readMany_hasSigned_factsHere v0 m_at0 m_fault1 m_towns2 m_op3 m_arg4 m_codes5 m_readNames6 m_readMany7 m_hasSigned8 m_factsHere9) q9 h12) zMX12_readOnce_ok rfl rfl zK_BorrowedLivesModel_240 zV_X12_readOnce rfl [25] [0] [0, 1, 2, 3, 4, 5, 6, 7, 8, 9, 10, 11, 12, 13, 14, 15, 16, 17, 18, 19, 20, 21, 22, 23, 24] rfl rfl rfl (by decide) (by decide) (by omega) (by decide) (Nat.zero_le _) (Nat.zero_le _) rfl rfl rfl rfl rfl ?_
            rintro v cc ⟨rfl, rfl⟩
            refine ⟨_, rfl, rfl, ?_⟩
            show AW Z 0 0 83 [some (.ref 0), none] [] ([kR 0 (R_s_at_fault_towns_op_arg_codes_readNames_readMany_hasSigned_factsHere v0 q9.1 q9.2.1 q9.2.2.1 q9.2.2.2.1 q9.2.2.2.2.1 q9.2.2.2.2.2.1 m_readNames6 m_readMany7 q9.2.2.2.2.2.2.1 q9.2.2.2.2.2.2.2)] : List (List zE)).flatten
            refine AW.run hZ hRm [86] 400 ?_
            show AW Z 0 0 86 [some (.ref 0), none] [.int 59, .ref 0] ([kR 0 (R_s_at_fault_towns_op_arg_codes_readNames_readMany_hasSigned_factsHere v0 q9.1 q9.2.1 q9.2.2.1 q9.2.2.2.1 q9.2.2.2.2.1 q9.2.2.2.2.2.1 m_readNames6 m_readMany7 q9.2.2.2.2.2.2.1 q9.2.2.2.2.2.2.2)] : List (List zE)).flatten
            obtain ⟨q10, h11, hf⟩ := zbind hf
            refine AW.callVc hZ hR hN (c_R_takeSign N (R_s_at_fault_towns_op_arg_codes_readNames_readMany_hasSigned_factsHere v0 q9.1 q9.2.1 q9.2.2.1 q9.2.2.2.1 q9.2.2.2.2.1 q9.2.2.2.2.2.1 m_readNames6 m_readMany7 q9.2.2.2.2.2.2.1 q9.2.2.2.2.2.2.2) 59 q10 h11) zMX12_takeSign_ok rfl rfl zK_BorrowedLivesModel_243 zV_X12_takeSign rfl [25] [0] [0, 1, 2, 3, 4, 5, 6, 7, 8, 9, 10, 11, 12, 13, 14, 15, 16, 17, 18, 19, 20, 21, 22, 23, 24] rfl rfl rfl (by decide) (by decide) (by omega) (by decide) (Nat.zero_le _) (Nat.zero_le _) rfl rfl rfl rfl rfl ?_
            rintro v cc ⟨rfl, rfl⟩
            refine ⟨_, rfl, rfl, ?_⟩
            show AW Z 0 0 89 [some (.ref 0), none] [] ([kR 0 (R_s_at_fault_towns_op_arg_codes_readNames_readMany_hasSigned_factsHere v0 q10.1 q10.2 q9.2.2.1 q9.2.2.2.1 q9.2.2.2.2.1 q9.2.2.2.2.2.1 m_readNames6 m_readMany7 q9.2.2.2.2.2.2.1 q9.2.2.2.2.2.2.2)] : List (List zE)).flatten
            refine AW.run hZ hRm [30] 400 ?_
            show AW Z 0 0 30 [some (.ref 0), none] [] ([kR 0 (R_s_at_fault_towns_op_arg_codes_readNames_readMany_hasSigned_factsHere v0 q10.1 q10.2 q9.2.2.1 q9.2.2.2.1 q9.2.2.2.2.1 q9.2.2.2.2.2.1 m_readNames6 m_readMany7 q9.2.2.2.2.2.2.1 q9.2.2.2.2.2.2.2)] : List (List zE)).flatten
            exact ih v0 q10.1 q10.2 q9.2.2.1 q9.2.2.2.1 q9.2.2.2.2.1 q9.2.2.2.2.2.1 m_readNames6 m_readMany7 q9.2.2.2.2.2.2.1 q9.2.2.2.2.2.2.2 q hf hk0
          · rw [if_neg c8] at hf
            obtain ⟨q13, h16, hf⟩ := zbind hf
            refine AW.callVc hZ hR hN (c_R_readBar N (R_s_at_fault_towns_op_arg_codes_readNames_readMany_hasSigned_factsHere v0 m_at0 m_fault1 m_towns2 m_op3 m_arg4 m_codes5 m_readNames6 m_readMany7 m_hasSigned8 m_factsHere9) q13 h16) zMX12_readBar_ok rfl rfl zK_BorrowedLivesModel_237 zV_X12_readBar rfl [25] [0] [0, 1, 2, 3, 4, 5, 6, 7, 8, 9, 10, 11, 12, 13, 14, 15, 16, 17, 18, 19, 20, 21, 22, 23, 24] rfl rfl rfl (by decide) (by decide) (by omega) (by decide) (Nat.zero_le _) (Nat.zero_le _) rfl rfl rfl rfl rfl ?_
            rintro v cc ⟨rfl, rfl⟩
            refine ⟨_, rfl, rfl, ?_⟩
            show AW Z 0 0 76 [some (.ref 0), none] [] ([kR 0 (R_s_at_fault_towns_op_arg_codes_readNames_readMany_hasSigned_factsHere v0 q13.1 q13.2.1 q13.2.2 m_op3 m_arg4 m_codes5 m_readNames6 m_readMany7 m_hasSigned8 m_factsHere9)] : List (List zE)).flatten
            refine AW.run hZ hRm [86] 400 ?_
            show AW Z 0 0 86 [some (.ref 0), none] [.int 59, .ref 0] ([kR 0 (R_s_at_fault_towns_op_arg_codes_readNames_readMany_hasSigned_factsHere v0 q13.1 q13.2.1 q13.2.2 m_op3 m_arg4 m_codes5 m_readNames6 m_readMany7 m_hasSigned8 m_factsHere9)] : List (List zE)).flatten
            obtain ⟨q14, h15, hf⟩ := zbind hf
            refine AW.callVc hZ hR hN (c_R_takeSign N (R_s_at_fault_towns_op_arg_codes_readNames_readMany_hasSigned_factsHere v0 q13.1 q13.2.1 q13.2.2 m_op3 m_arg4 m_codes5 m_readNames6 m_readMany7 m_hasSigned8 m_factsHere9) 59 q14 h15) zMX12_takeSign_ok rfl rfl zK_BorrowedLivesModel_243 zV_X12_takeSign rfl [25] [0] [0, 1, 2, 3, 4, 5, 6, 7, 8, 9, 10, 11, 12, 13, 14, 15, 16, 17, 18, 19, 20, 21, 22, 23, 24] rfl rfl rfl (by decide) (by decide) (by omega) (by decide) (Nat.zero_le _) (Nat.zero_le _) rfl rfl rfl rfl rfl ?_
            rintro v cc ⟨rfl, rfl⟩
            refine ⟨_, rfl, rfl, ?_⟩
            show AW Z 0 0 89 [some (.ref 0), none] [] ([kR 0 (R_s_at_fault_towns_op_arg_codes_readNames_readMany_hasSigned_factsHere v0 q14.1 q14.2 q13.2.2 m_op3 m_arg4 m_codes5 m_readNames6 m_readMany7 m_hasSigned8 m_factsHere9)] : List (List zE)).flatten
            refine AW.run hZ hRm [30] 400 ?_
            show AW Z 0 0 30 [some (.ref 0), none] [] ([kR 0 (R_s_at_fault_towns_op_arg_codes_readNames_readMany_hasSigned_factsHere v0 q14.1 q14.2 q13.2.2 m_op3 m_arg4 m_codes5 m_readNames6 m_readMany7 m_hasSigned8 m_factsHere9)] : List (List zE)).flatten
            exact ih v0 q14.1 q14.2 q13.2.2 m_op3 m_arg4 m_codes5 m_readNames6 m_readMany7 m_hasSigned8 m_factsHere9 q hf hk0
        · rw [if_neg c6] at hf
          obtain ⟨q18, h21, hf⟩ := zbind hf
          refine AW.callVc hZ hR hN (c_R_readPerson N (R_s_at_fault_towns_op_arg_codes_readNames_readMany_hasSigned_factsHere v0 m_at0 m_fault1 m_towns2 m_op3 m_arg4 m_codes5 m_readNames6 m_readMany7 m_hasSigned8 m_factsHere9) q18 h21) zMX12_readPerson_ok rfl rfl zK_BorrowedLivesModel_234 zV_X12_readPerson rfl [25] [0] [0, 1, 2, 3, 4, 5, 6, 7, 8, 9, 10, 11, 12, 13, 14, 15, 16, 17, 18, 19, 20, 21, 22, 23, 24] rfl rfl rfl (by decide) (by decide) (by omega) (by decide) (Nat.zero_le _) (Nat.zero_le _) rfl rfl rfl rfl rfl ?_
          rintro v cc ⟨rfl, rfl⟩
          refine ⟨_, rfl, rfl, ?_⟩
          show AW Z 0 0 61 [some (.ref 0), none] [] ([kR 0 (R_s_at_fault_towns_op_arg_codes_readNames_readMany_hasSigned_factsHere v0 q18.1 q18.2.1 q18.2.2.1 m_op3 m_arg4 m_codes5 q18.2.2.2.1 q18.2.2.2.2 m_hasSigned8 m_factsHere9)] : List (List zE)).flatten
          refine AW.run hZ hRm [86] 400 ?_
          show AW Z 0 0 86 [some (.ref 0), none] [.int 59, .ref 0] ([kR 0 (R_s_at_fault_towns_op_arg_codes_readNames_readMany_hasSigned_factsHere v0 q18.1 q18.2.1 q18.2.2.1 m_op3 m_arg4 m_codes5 q18.2.2.2.1 q18.2.2.2.2 m_hasSigned8 m_factsHere9)] : List (List zE)).flatten
          obtain ⟨q19, h20, hf⟩ := zbind hf
          refine AW.callVc hZ hR hN (c_R_takeSign N (R_s_at_fault_towns_op_arg_codes_readNames_readMany_hasSigned_factsHere v0 q18.1 q18.2.1 q18.2.2.1 m_op3 m_arg4 m_codes5 q18.2.2.2.1 q18.2.2.2.2 m_hasSigned8 m_factsHere9) 59 q19 h20) zMX12_takeSign_ok rfl rfl zK_BorrowedLivesModel_243 zV_X12_takeSign rfl [25] [0] [0, 1, 2, 3, 4, 5, 6, 7, 8, 9, 10, 11, 12, 13, 14, 15, 16, 17, 18, 19, 20, 21, 22, 23, 24] rfl rfl rfl (by decide) (by decide) (by omega) (by decide) (Nat.zero_le _) (Nat.zero_le _) rfl rfl rfl rfl rfl ?_
          rintro v cc ⟨rfl, rfl⟩
          refine ⟨_, rfl, rfl, ?_⟩
          show AW Z 0 0 89 [some (.ref 0), none] [] ([kR 0 (R_s_at_fault_towns_op_arg_codes_readNames_readMany_hasSigned_factsHere v0 q19.1 q19.2 q18.2.2.1 m_op3 m_arg4 m_codes5 q18.2.2.2.1 q18.2.2.2.2 m_hasSigned8 m_factsHere9)] : List (List zE)).flatten
          refine AW.run hZ hRm [30] 400 ?_
          show AW Z 0 0 30 [some (.ref 0), none] [] ([kR 0 (R_s_at_fault_towns_op_arg_codes_readNames_readMany_hasSigned_factsHere v0 q19.1 q19.2 q18.2.2.1 m_op3 m_arg4 m_codes5 q18.2.2.2.1 q18.2.2.2.2 m_hasSigned8 m_factsHere9)] : List (List zE)).flatten
          exact ih v0 q19.1 q19.2 q18.2.2.1 m_op3 m_arg4 m_codes5 q18.2.2.2.1 q18.2.2.2.2 m_hasSigned8 m_factsHere9 q hf hk0
set_option maxRecDepth 20000 in
set_option maxHeartbeats 4000000 in
theorem c_R_town_L106 {Z : zCtx} {D n0w nf mcw msw : Nat} (hZ : zOk Z zMX12_town) (hR : zCan Z D mcw msw) (hDd : 68 ≤ D) (hN : zNew Z n0w nf) (hRm : zRoom Z 0 0) (N : Nat) : ∀ (fuel : Nat) (v0 : VR) (x1 : Int32) (m_towns0 : (Nat → Int32)) (q : ((Nat → Int32))), f_R_town_L106 N fuel v0 x1 m_towns0 = some q → (AW Z 0 0 133 [some (.ref 0), none] [] ([kR 0 (R_towns_s v0 q)] : List (List zE)).flatten) → AW Z 0 0 106 [some (.ref 0), some (.int x1)] [] ([kR 0 (R_towns_s v0 m_towns0)] : List (List zE)).flatten := by
  intro fuel
  induction fuel with
  | zero =>
    intro v0 x1 m_towns0 q hf hk0
    simp [f_R_town_L106] at hf
  | succ fuel ih =>
    intro v0 x1 m_towns0 q hf hk0
    rw [f_R_town_L106] at hf
    refine AW.run hZ hRm [127, 133] 400 ?_
    show (((80 ≤ x1) → AW Z 0 0 133 [some (.ref 0), some (.int x1)] [] ([kR 0 (R_towns_s v0 m_towns0)] : List (List zE)).flatten) ∧ (¬ (80 ≤ x1) → (¬ ((80 + x1) < 0 ∨ 160 ≤ Int32.toNatClampNeg (80 + x1)) ∧ (¬ (x1 < 0 ∨ 160 ≤ Int32.toNatClampNeg x1) ∧ AW Z 0 0 127 [some (.ref 0), some (.int x1)] [] ([kR 0 (R_towns_s v0 (upd m_towns0 (Int32.toNatClampNeg x1) (m_towns0 (Int32.toNatClampNeg (80 + x1)))))] : List (List zE)).flatten))))
    refine ⟨fun c27 => ?_, fun c27 => ?_⟩
    · rw [if_pos c27] at hf
      cases hf
      refine AW.forget [true, false] ?_
      show AW Z 0 0 133 [some (.ref 0), none] [] ([kR 0 (R_towns_s v0 m_towns0)] : List (List zE)).flatten
      exact hk0
    · rw [if_neg c27] at hf
      obtain ⟨b30, hf⟩ := zneed hf
      refine ⟨b30, ?_⟩
      obtain ⟨b29, hf⟩ := zneed hf
      refine ⟨b29, ?_⟩
      replace hf := zlet_gen hf
      generalize ((upd m_towns0 (Int32.toNatClampNeg x1) (m_towns0 (Int32.toNatClampNeg (80 + x1)))) : (Nat → Int32)) = z28 at hf ⊢
      as_aux_lemma =>
        refine AW.run hZ hRm [106] 400 ?_
        show AW Z 0 0 106 [some (.ref 0), some (.int (x1 + 1))] [] ([kR 0 (R_towns_s v0 z28)] : List (List zE)).flatten
        exact ih v0 (x1 + 1) z28 q hf hk0
set_option maxRecDepth 20000 in
set_option maxHeartbeats 4000000 in
theorem c_R_town_L135 {Z : zCtx} {D n0w nf mcw msw : Nat} (hZ : zOk Z zMX12_town) (hR : zCan Z D mcw msw) (hDd : 68 ≤ D) (hN : zNew Z n0w nf) (hRm : zRoom Z 0 0) (N : Nat) : ∀ (fuel : Nat) (v0 : VR) (x1 : Int32) (m_op0 : (Nat → Int32)) (m_arg1 : (Nat → Int32)) (q : ((Nat → Int32) × (Nat → Int32))), f_R_town_L135 N fuel v0 x1 m_op0 m_arg1 = some q → (AW Z 0 0 181 [some (.ref 0), none] [] ([kR 0 (R_s_op_arg v0 q.1 q.2)] : List (List zE)).flatten) → AW Z 0 0 135 [some (.ref 0), some (.int x1)] [] ([kR 0 (R_s_op_arg v0 m_op0 m_arg1)] : List (List zE)).flatten := by
  intro fuel
  induction fuel with
  | zero =>
    intro v0 x1 m_op0 m_arg1 q hf hk0
    simp [f_R_town_L135] at hf
  | succ fuel ih =>
    intro v0 x1 m_op0 m_arg1 q hf hk0
    rw [f_R_town_L135] at hf
    refine AW.run hZ hRm [159, 181] 400 ?_
    show ((((R_codes v0) ≤ x1) → AW Z 0 0 181 [some (.ref 0), some (.int x1)] [] ([kR 0 (R_s_op_arg v0 m_op0 m_arg1)] : List (List zE)).flatten) ∧ (¬ ((R_codes v0) ≤ x1) → (¬ ((1100 + x1) < 0 ∨ 2200 ≤ Int32.toNatClampNeg (1100 + x1)) ∧ (¬ (x1 < 0 ∨ 2200 ≤ Int32.toNatClampNeg x1) ∧ AW Z 0 0 159 [some (.ref 0), some (.int x1)] [] ([kR 0 (R_s_op_arg v0 (upd m_op0 (Int32.toNatClampNeg x1) (m_op0 (Int32.toNatClampNeg (1100 + x1)))) m_arg1)] : List (List zE)).flatten))))
    refine ⟨fun c33 => ?_, fun c33 => ?_⟩
    · rw [if_pos c33] at hf
      cases hf
      refine AW.forget [true, false] ?_
      show AW Z 0 0 181 [some (.ref 0), none] [] ([kR 0 (R_s_op_arg v0 m_op0 m_arg1)] : List (List zE)).flatten
      exact hk0
    · rw [if_neg c33] at hf
      obtain ⟨b39, hf⟩ := zneed hf
      refine ⟨b39, ?_⟩
      obtain ⟨b38, hf⟩ := zneed hf
      refine ⟨b38, ?_⟩
      replace hf := zlet_gen hf
      generalize ((upd m_op0 (Int32.toNatClampNeg x1) (m_op0 (Int32.toNatClampNeg (1100 + x1)))) : (Nat → Int32)) = z34 at hf ⊢
      as_aux_lemma =>
        refine AW.run hZ hRm [175] 400 ?_
        show (¬ ((1100 + x1) < 0 ∨ 2200 ≤ Int32.toNatClampNeg (1100 + x1)) ∧ (¬ (x1 < 0 ∨ 2200 ≤ Int32.toNatClampNeg x1) ∧ AW Z 0 0 175 [some (.ref 0), some (.int x1)] [] ([kR 0 (R_s_op_arg v0 z34 (upd m_arg1 (Int32.toNatClampNeg x1) (m_arg1 (Int32.toNatClampNeg (1100 + x1)))))] : List (List zE)).flatten))
        obtain ⟨b37, hf⟩ := zneed hf
        refine ⟨b37, ?_⟩
        obtain ⟨b36, hf⟩ := zneed hf
        refine ⟨b36, ?_⟩
        replace hf := zlet_gen hf
        generalize ((upd m_arg1 (Int32.toNatClampNeg x1) (m_arg1 (Int32.toNatClampNeg (1100 + x1)))) : (Nat → Int32)) = z35 at hf ⊢
        as_aux_lemma =>
          refine AW.run hZ hRm [135] 400 ?_
          show AW Z 0 0 135 [some (.ref 0), some (.int (x1 + 1))] [] ([kR 0 (R_s_op_arg v0 z34 z35)] : List (List zE)).flatten
          exact ih v0 (x1 + 1) z34 z35 q hf hk0
set_option maxRecDepth 20000 in
set_option maxHeartbeats 4000000 in
theorem c_R_town_L183 {Z : zCtx} {D n0w nf mcw msw : Nat} (hZ : zOk Z zMX12_town) (hR : zCan Z D mcw msw) (hDd : 68 ≤ D) (hN : zNew Z n0w nf) (hRm : zRoom Z 0 0) (N : Nat) : ∀ (fuel : Nat) (v0 : VR) (x1 : Int32) (m_names0 : (Nat → Int64)) (q : ((Nat → Int64))), f_R_town_L183 N fuel v0 x1 m_names0 = some q → (AW Z 0 0 209 [some (.ref 0), none] [] ([kR 0 (R_names_s v0 q)] : List (List zE)).flatten) → AW Z 0 0 183 [some (.ref 0), some (.int x1)] [] ([kR 0 (R_names_s v0 m_names0)] : List (List zE)).flatten := by
  intro fuel
  induction fuel with
  | zero =>
    intro v0 x1 m_names0 q hf hk0
    simp [f_R_town_L183] at hf
  | succ fuel ih =>
    intro v0 x1 m_names0 q hf hk0
    rw [f_R_town_L183] at hf
    refine AW.run hZ hRm [203, 209] 400 ?_
    show ((((R_readMany v0) ≤ x1) → AW Z 0 0 209 [some (.ref 0), some (.int x1)] [] ([kR 0 (R_names_s v0 m_names0)] : List (List zE)).flatten) ∧ (¬ ((R_readMany v0) ≤ x1) → (¬ (x1 < 0 ∨ 6 ≤ Int32.toNatClampNeg x1) ∧ (¬ (x1 < 0 ∨ 6 ≤ Int32.toNatClampNeg x1) ∧ AW Z 0 0 203 [some (.ref 0), some (.int x1)] [] ([kR 0 (R_names_s v0 (vp_updL m_names0 (Int32.toNatClampNeg x1) ((R_readNames v0) (Int32.toNatClampNeg x1))))] : List (List zE)).flatten))))
    refine ⟨fun c42 => ?_, fun c42 => ?_⟩
    · rw [if_pos c42] at hf
      cases hf
      refine AW.forget [true, false] ?_
      show AW Z 0 0 209 [some (.ref 0), none] [] ([kR 0 (R_names_s v0 m_names0)] : List (List zE)).flatten
      exact hk0
    · rw [if_neg c42] at hf
      obtain ⟨b45, hf⟩ := zneed hf
      refine ⟨b45, ?_⟩
      obtain ⟨b44, hf⟩ := zneed hf
      refine ⟨b44, ?_⟩
      replace hf := zlet_gen hf
      generalize ((vp_updL m_names0 (Int32.toNatClampNeg x1) ((R_readNames v0) (Int32.toNatClampNeg x1))) : (Nat → Int64)) = z43 at hf ⊢
      as_aux_lemma =>
        refine AW.run hZ hRm [183] 400 ?_
        show AW Z 0 0 183 [some (.ref 0), some (.int (x1 + 1))] [] ([kR 0 (R_names_s v0 z43)] : List (List zE)).flatten
        exact ih v0 (x1 + 1) z43 q hf hk0
set_option maxRecDepth 20000 in
set_option maxHeartbeats 4000000 in
theorem c_R_town (N : Nat) (v0 : VR) (R : Int32 × Int32 × Int32 × Int32 × (Nat → Int32) × (Nat → Int32) × (Nat → Int64) × Int32 × Int32 × (Nat → Int32) × (Nat → Int32) × (Nat → Int32) × Int32 × (Nat → Int64) × (Nat → Int64) × Int32 × Int32 × Int32 × Int32 × (Nat → Int32) × (Nat → Int32) × Int32 × (Nat → Int32) × Int32 × (Nat → Int32) × (Nat → Int32) × Int32) (hf : f_R_town N v0 = some R) : Ct zMX12_town 68 0 0 0 [.ref 0] ([kR 0 v0] : List (List zE)).flatten (fun v cc => v = some (.int R.1) ∧ cc = ([kR 0 (R_s_thrown_taped_size_sort_place_value_at_fault_towns_op_arg_codes_names_readNames_namesMany_readMany_hasSigned_factsHere_lines_state_undos_isMarked_signed_lotRows_lotRow_lotsMany v0 R.2.1 R.2.2.1 R.2.2.2.1 R.2.2.2.2.1 R.2.2.2.2.2.1 R.2.2.2.2.2.2.1 R.2.2.2.2.2.2.2.1 R.2.2.2.2.2.2.2.2.1 R.2.2.2.2.2.2.2.2.2.1 R.2.2.2.2.2.2.2.2.2.2.1 R.2.2.2.2.2.2.2.2.2.2.2.1 R.2.2.2.2.2.2.2.2.2.2.2.2.1 R.2.2.2.2.2.2.2.2.2.2.2.2.2.1 R.2.2.2.2.2.2.2.2.2.2.2.2.2.2.1 R.2.2.2.2.2.2.2.2.2.2.2.2.2.2.2.1 R.2.2.2.2.2.2.2.2.2.2.2.2.2.2.2.2.1 R.2.2.2.2.2.2.2.2.2.2.2.2.2.2.2.2.2.1 R.2.2.2.2.2.2.2.2.2.2.2.2.2.2.2.2.2.2.1 R.2.2.2.2.2.2.2.2.2.2.2.2.2.2.2.2.2.2.2.1 R.2.2.2.2.2.2.2.2.2.2.2.2.2.2.2.2.2.2.2.2.1 R.2.2.2.2.2.2.2.2.2.2.2.2.2.2.2.2.2.2.2.2.2.1 R.2.2.2.2.2.2.2.2.2.2.2.2.2.2.2.2.2.2.2.2.2.2.1 R.2.2.2.2.2.2.2.2.2.2.2.2.2.2.2.2.2.2.2.2.2.2.2.1 R.2.2.2.2.2.2.2.2.2.2.2.2.2.2.2.2.2.2.2.2.2.2.2.2.1 R.2.2.2.2.2.2.2.2.2.2.2.2.2.2.2.2.2.2.2.2.2.2.2.2.2.1 R.2.2.2.2.2.2.2.2.2.2.2.2.2.2.2.2.2.2.2.2.2.2.2.2.2.2)] : List (List zE)).flatten) := by
  refine Ct.of zMX12_town_ok (by decide) (Nat.le_of_ble_eq_true rfl) ?_
  intro Z hZ hR hN hE
  have hRm : zRoom Z 0 0 := zRoom0 Z
  unfold f_R_town at hf
  show AW Z 0 0 0 [some (.ref 0), none] [] ([kR 0 v0] : List (List zE)).flatten
  refine AW.run hZ hRm [6] 400 ?_
  show AW Z 0 0 6 [some (.ref 0), none] [.ref 0] ([kR 0 (R_thrown_s v0 0)] : List (List zE)).flatten
  obtain ⟨q1, h51, hf⟩ := zbind hf
  refine AW.callVc hZ hR hN (c_R_cutAll N (R_thrown_s v0 0) q1 h51) zMX12_cutAll_ok rfl rfl zK_BorrowedLivesModel_224 zV_X12_cutAll rfl [25] [0] [0, 1, 2, 3, 4, 5, 6, 7, 8, 9, 10, 11, 12, 13, 14, 15, 16, 17, 18, 19, 20, 21, 22, 23, 24] rfl rfl rfl (by decide) (by decide) (by omega) (by decide) (Nat.zero_le _) (Nat.zero_le _) rfl rfl rfl rfl rfl ?_
  rintro v cc ⟨rfl, rfl⟩
  refine ⟨_, rfl, rfl, ?_⟩
  show AW Z 0 0 9 [some (.ref 0), none] [] ([kR 0 (R_s_thrown_taped_size_sort_place_value_at_fault v0 0 q1.1 q1.2.1 q1.2.2.1 q1.2.2.2.1 q1.2.2.2.2.1 q1.2.2.2.2.2.1 q1.2.2.2.2.2.2)] : List (List zE)).flatten
  refine AW.run hZ hRm [27] 400 ?_
  show (((0 : Int32) = 0 ∨ (0 : Int32) = 1) ∧ AW Z 0 0 27 [some (.ref 0), none] [.int 80, .ref 0] ([kR 0 (R_s_thrown_taped_size_sort_place_value_at_fault_codes_readMany_hasSigned v0 0 q1.1 q1.2.1 q1.2.2.1 q1.2.2.2.1 q1.2.2.2.2.1 q1.2.2.2.2.2.1 q1.2.2.2.2.2.2 0 0 0)] : List (List zE)).flatten)
  refine ⟨(by decide), ?_⟩
  obtain ⟨q2, h50, hf⟩ := zbind hf
  refine AW.callVc hZ hR hN (c_R_standsAsAlways N (R_s_thrown_taped_size_sort_place_value_at_fault_codes_readMany_hasSigned v0 0 q1.1 q1.2.1 q1.2.2.1 q1.2.2.2.1 q1.2.2.2.2.1 q1.2.2.2.2.2.1 q1.2.2.2.2.2.2 0 0 0) 80 q2 h50) zMX12_standsAsAlways_ok rfl rfl zK_BorrowedLivesModel_149 zV_X12_standsAsAlways rfl [25] [0] [0, 1, 2, 3, 4, 5, 6, 7, 8, 9, 10, 11, 12, 13, 14, 15, 16, 17, 18, 19, 20, 21, 22, 23, 24] rfl rfl rfl (by decide) (by decide) (by omega) (by decide) (Nat.zero_le _) (Nat.zero_le _) rfl rfl rfl rfl rfl ?_
  rintro v cc ⟨rfl, rfl⟩
  refine ⟨_, rfl, rfl, ?_⟩
  show AW Z 0 0 30 [some (.ref 0), none] [] ([kR 0 (R_s_thrown_taped_size_sort_place_value_at_fault_towns_codes_readMany_hasSigned v0 0 q1.1 q1.2.1 q1.2.2.1 q1.2.2.2.1 q1.2.2.2.2.1 q1.2.2.2.2.2.1 q1.2.2.2.2.2.2 q2 0 0 0)] : List (List zE)).flatten
  obtain ⟨q24, h25, hf⟩ := zbind hf
  refine c_R_town_L30 hZ hR (by omega) hN hRm N N (R_s_thrown_taped_size_sort_place_value_at_fault_towns_codes_readMany_hasSigned v0 0 q1.1 q1.2.1 q1.2.2.1 q1.2.2.2.1 q1.2.2.2.2.1 q1.2.2.2.2.2.1 q1.2.2.2.2.2.2 q2 0 0 0) q1.2.2.2.2.2.1 q1.2.2.2.2.2.2 q2 (R_op v0) (R_arg v0) 0 (R_readNames v0) 0 0 (R_factsHere v0) q24 h25 ?_
  show AW Z 0 0 92 [some (.ref 0), none] [] ([kR 0 (R_s_thrown_taped_size_sort_place_value_at_fault_towns_op_arg_codes_readNames_readMany_hasSigned_factsHere v0 0 q1.1 q1.2.1 q1.2.2.1 q1.2.2.2.1 q1.2.2.2.2.1 q24.1 q24.2.1 q24.2.2.1 q24.2.2.2.1 q24.2.2.2.2.1 q24.2.2.2.2.2.1 q24.2.2.2.2.2.2.1 q24.2.2.2.2.2.2.2.1 q24.2.2.2.2.2.2.2.2.1 q24.2.2.2.2.2.2.2.2.2)] : List (List zE)).flatten
  refine AW.run hZ hRm [103, 106] 400 ?_
  show (((q24.2.1 ≤ 0) → AW Z 0 0 106 [some (.ref 0), some (.int 0)] [] ([kR 0 (R_s_thrown_taped_size_sort_place_value_at_fault_towns_op_arg_codes_readNames_readMany_hasSigned_factsHere v0 0 q1.1 q1.2.1 q1.2.2.1 q1.2.2.2.1 q1.2.2.2.2.1 q24.1 q24.2.1 q24.2.2.1 q24.2.2.2.1 q24.2.2.2.2.1 q24.2.2.2.2.2.1 q24.2.2.2.2.2.2.1 q24.2.2.2.2.2.2.2.1 q24.2.2.2.2.2.2.2.2.1 q24.2.2.2.2.2.2.2.2.2)] : List (List zE)).flatten) ∧ (¬ (q24.2.1 ≤ 0) → AW Z 0 0 103 [some (.ref 0), none] [.int q24.2.1] ([kR 0 (R_s_thrown_taped_size_sort_place_value_at_fault_towns_op_arg_codes_readNames_readMany_hasSigned_factsHere v0 0 q1.1 q1.2.1 q1.2.2.1 q1.2.2.2.1 q1.2.2.2.2.1 q24.1 q24.2.1 q24.2.2.1 q24.2.2.2.1 q24.2.2.2.2.1 q24.2.2.2.2.2.1 q24.2.2.2.2.2.2.1 q24.2.2.2.2.2.2.2.1 q24.2.2.2.2.2.2.2.2.1 q24.2.2.2.2.2.2.2.2.2)] : List (List zE)).flatten))
  refine ⟨fun c26 => ?_, fun c26 => ?_⟩
  · rw [if_pos c26] at hf
    obtain ⟨q31, h32, hf⟩ := zbind hf
    refine c_R_town_L106 hZ hR (by omega) hN hRm N N (R_s_thrown_taped_size_sort_place_value_at_fault_towns_op_arg_codes_readNames_readMany_hasSigned_factsHere v0 0 q1.1 q1.2.1 q1.2.2.1 q1.2.2.2.1 q1.2.2.2.2.1 q24.1 q24.2.1 q24.2.2.1 q24.2.2.2.1 q24.2.2.2.2.1 q24.2.2.2.2.2.1 q24.2.2.2.2.2.2.1 q24.2.2.2.2.2.2.2.1 q24.2.2.2.2.2.2.2.2.1 q24.2.2.2.2.2.2.2.2.2) 0 q24.2.2.1 q31 h32 ?_
    show AW Z 0 0 133 [some (.ref 0), none] [] ([kR 0 (R_s_thrown_taped_size_sort_place_value_at_fault_towns_op_arg_codes_readNames_readMany_hasSigned_factsHere v0 0 q1.1 q1.2.1 q1.2.2.1 q1.2.2.2.1 q1.2.2.2.2.1 q24.1 q24.2.1 q31 q24.2.2.2.1 q24.2.2.2.2.1 q24.2.2.2.2.2.1 q24.2.2.2.2.2.2.1 q24.2.2.2.2.2.2.2.1 q24.2.2.2.2.2.2.2.2.1 q24.2.2.2.2.2.2.2.2.2)] : List (List zE)).flatten
    refine AW.run hZ hRm [135] 400 ?_
    show AW Z 0 0 135 [some (.ref 0), some (.int 0)] [] ([kR 0 (R_s_thrown_taped_size_sort_place_value_at_fault_towns_op_arg_codes_readNames_readMany_hasSigned_factsHere v0 0 q1.1 q1.2.1 q1.2.2.1 q1.2.2.2.1 q1.2.2.2.2.1 q24.1 q24.2.1 q31 q24.2.2.2.1 q24.2.2.2.2.1 q24.2.2.2.2.2.1 q24.2.2.2.2.2.2.1 q24.2.2.2.2.2.2.2.1 q24.2.2.2.2.2.2.2.2.1 q24.2.2.2.2.2.2.2.2.2)] : List (List zE)).flatten
    obtain ⟨q40, h41, hf⟩ := zbind hf
    refine c_R_town_L135 hZ hR (by omega) hN hRm N N (R_s_thrown_taped_size_sort_place_value_at_fault_towns_op_arg_codes_readNames_readMany_hasSigned_factsHere v0 0 q1.1 q1.2.1 q1.2.2.1 q1.2.2.2.1 q1.2.2.2.2.1 q24.1 q24.2.1 q31 q24.2.2.2.1 q24.2.2.2.2.1 q24.2.2.2.2.2.1 q24.2.2.2.2.2.2.1 q24.2.2.2.2.2.2.2.1 q24.2.2.2.2.2.2.2.2.1 q24.2.2.2.2.2.2.2.2.2) 0 q24.2.2.2.1 q24.2.2.2.2.1 q40 h41 ?_
    show AW Z 0 0 181 [some (.ref 0), none] [] ([kR 0 (R_s_thrown_taped_size_sort_place_value_at_fault_towns_op_arg_codes_readNames_readMany_hasSigned_factsHere v0 0 q1.1 q1.2.1 q1.2.2.1 q1.2.2.2.1 q1.2.2.2.2.1 q24.1 q24.2.1 q31 q40.1 q40.2 q24.2.2.2.2.2.1 q24.2.2.2.2.2.2.1 q24.2.2.2.2.2.2.2.1 q24.2.2.2.2.2.2.2.2.1 q24.2.2.2.2.2.2.2.2.2)] : List (List zE)).flatten
    refine AW.run hZ hRm [183] 400 ?_
    show AW Z 0 0 183 [some (.ref 0), some (.int 0)] [] ([kR 0 (R_s_thrown_taped_size_sort_place_value_at_fault_towns_op_arg_codes_readNames_readMany_hasSigned_factsHere v0 0 q1.1 q1.2.1 q1.2.2.1 q1.2.2.2.1 q1.2.2.2.2.1 q24.1 q24.2.1 q31 q40.1 q40.2 q24.2.2.2.2.2.1 q24.2.2.2.2.2.2.1 q24.2.2.2.2.2.2.2.1 q24.2.2.2.2.2.2.2.2.1 q24.2.2.2.2.2.2.2.2.2)] : List (List zE)).flatten
    obtain ⟨q46, h47, hf⟩ := zbind hf
    refine c_R_town_L183 hZ hR (by omega) hN hRm N N (R_s_thrown_taped_size_sort_place_value_at_fault_towns_op_arg_codes_readNames_readMany_hasSigned_factsHere v0 0 q1.1 q1.2.1 q1.2.2.1 q1.2.2.2.1 q1.2.2.2.2.1 q24.1 q24.2.1 q31 q40.1 q40.2 q24.2.2.2.2.2.1 q24.2.2.2.2.2.2.1 q24.2.2.2.2.2.2.2.1 q24.2.2.2.2.2.2.2.2.1 q24.2.2.2.2.2.2.2.2.2) 0 (R_names v0) q46 h47 ?_
    show AW Z 0 0 209 [some (.ref 0), none] [] ([kR 0 (R_s_thrown_taped_size_sort_place_value_at_fault_towns_op_arg_codes_names_readNames_readMany_hasSigned_factsHere v0 0 q1.1 q1.2.1 q1.2.2.1 q1.2.2.2.1 q1.2.2.2.2.1 q24.1 q24.2.1 q31 q40.1 q40.2 q24.2.2.2.2.2.1 q46 q24.2.2.2.2.2.2.1 q24.2.2.2.2.2.2.2.1 q24.2.2.2.2.2.2.2.2.1 q24.2.2.2.2.2.2.2.2.2)] : List (List zE)).flatten
    refine AW.run hZ hRm [218] 400 ?_
    show AW Z 0 0 218 [some (.ref 0), none] [.ref 0] ([kR 0 (R_s_thrown_taped_size_sort_place_value_at_fault_towns_op_arg_codes_names_readNames_namesMany_readMany_hasSigned_factsHere v0 0 q1.1 q1.2.1 q1.2.2.1 q1.2.2.2.1 q1.2.2.2.2.1 q24.1 q24.2.1 q31 q40.1 q40.2 q24.2.2.2.2.2.1 q46 q24.2.2.2.2.2.2.1 q24.2.2.2.2.2.2.2.1 q24.2.2.2.2.2.2.2.1 q24.2.2.2.2.2.2.2.2.1 q24.2.2.2.2.2.2.2.2.2)] : List (List zE)).flatten
    obtain ⟨q48, h49, hf⟩ := zbind hf
    refine AW.callVc hZ hR hN (c_R_begins N (R_s_thrown_taped_size_sort_place_value_at_fault_towns_op_arg_codes_names_readNames_namesMany_readMany_hasSigned_factsHere v0 0 q1.1 q1.2.1 q1.2.2.1 q1.2.2.2.1 q1.2.2.2.2.1 q24.1 q24.2.1 q31 q40.1 q40.2 q24.2.2.2.2.2.1 q46 q24.2.2.2.2.2.2.1 q24.2.2.2.2.2.2.2.1 q24.2.2.2.2.2.2.2.1 q24.2.2.2.2.2.2.2.2.1 q24.2.2.2.2.2.2.2.2.2) q48 h49) zMX12_begins_ok rfl rfl zK_BorrowedLivesModel_153 zV_X12_begins rfl [25] [0] [0, 1, 2, 3, 4, 5, 6, 7, 8, 9, 10, 11, 12, 13, 14, 15, 16, 17, 18, 19, 20, 21, 22, 23, 24] rfl rfl rfl (by decide) (by decide) (by omega) (by decide) (Nat.zero_le _) (Nat.zero_le _) rfl rfl rfl rfl rfl ?_
    rintro v cc ⟨rfl, rfl⟩
    refine ⟨_, rfl, rfl, ?_⟩
    show AW Z 0 0 221 [some (.ref 0), none] [] ([kR 0 (R_s_thrown_taped_size_sort_place_value_at_fault_towns_op_arg_codes_names_readNames_namesMany_readMany_hasSigned_factsHere_lines_state_undos_isMarked_signed_lotRows_lotRow_lotsMany v0 0 q1.1 q1.2.1 q1.2.2.1 q1.2.2.2.1 q1.2.2.2.2.1 q24.1 q24.2.1 q31 q40.1 q40.2 q24.2.2.2.2.2.1 q46 q24.2.2.2.2.2.2.1 q24.2.2.2.2.2.2.2.1 q24.2.2.2.2.2.2.2.1 q24.2.2.2.2.2.2.2.2.1 q24.2.2.2.2.2.2.2.2.2 q48.1 q48.2.1 q48.2.2.1 q48.2.2.2.1 q48.2.2.2.2.1 q48.2.2.2.2.2.1 q48.2.2.2.2.2.2.1 q48.2.2.2.2.2.2.2)] : List (List zE)).flatten
    refine AW.run hZ hRm [222] 400 ?_
    show AW Z 0 0 222 [some (.ref 0), none] [.int 0] ([kR 0 (R_s_thrown_taped_size_sort_place_value_at_fault_towns_op_arg_codes_names_readNames_namesMany_readMany_hasSigned_factsHere_lines_state_undos_isMarked_signed_lotRows_lotRow_lotsMany v0 0 q1.1 q1.2.1 q1.2.2.1 q1.2.2.2.1 q1.2.2.2.2.1 q24.1 q24.2.1 q31 q40.1 q40.2 q24.2.2.2.2.2.1 q46 q24.2.2.2.2.2.2.1 q24.2.2.2.2.2.2.2.1 q24.2.2.2.2.2.2.2.1 q24.2.2.2.2.2.2.2.2.1 q24.2.2.2.2.2.2.2.2.2 q48.1 q48.2.1 q48.2.2.1 q48.2.2.2.1 q48.2.2.2.2.1 q48.2.2.2.2.2.1 q48.2.2.2.2.2.2.1 q48.2.2.2.2.2.2.2)] : List (List zE)).flatten
    cases hf
    exact AW.iret hZ hE rfl rfl rfl rfl (Nat.le_refl 0) (Nat.le_refl 0) rfl ⟨rfl, rfl⟩
  · rw [if_neg c26] at hf
    cases hf
    exact AW.iret hZ hE rfl rfl rfl rfl (Nat.le_refl 0) (Nat.le_refl 0) rfl ⟨rfl, rfl⟩
def f_R_yearWord (N : Nat) (v0 : VR) : Option (Int32) := ((f_R_isWord N v0 4).bind (fun q1 => (if (q1 = 0) then ((f_R_wordHere N v0 11 4).bind (fun q3 => (some q3))) else (some 4))))
set_option maxRecDepth 20000 in
set_option maxHeartbeats 4000000 in
theorem c_R_yearWord (N : Nat) (v0 : VR) (R : Int32) (hf : f_R_yearWord N v0 = some R) : Ct zMX12_yearWord 3 0 0 0 [.ref 0] ([kR 0 v0] : List (List zE)).flatten (fun v cc => v = some (.int R) ∧ cc = ([kR 0 v0] : List (List zE)).flatten) := by
  refine Ct.of zMX12_yearWord_ok (by decide) (Nat.le_of_ble_eq_true rfl) ?_
  intro Z hZ hR hN hE
  have hRm : zRoom Z 0 0 := zRoom0 Z
  unfold f_R_yearWord at hf
  show AW Z 0 0 0 [some (.ref 0)] [] ([kR 0 v0] : List (List zE)).flatten
  refine AW.run hZ hRm [2] 400 ?_
  show AW Z 0 0 2 [some (.ref 0)] [.int 4, .ref 0] ([kR 0 v0] : List (List zE)).flatten
  obtain ⟨q1, h5, hf⟩ := zbind hf
  refine AW.callVc hZ hR hN (c_R_isWord N v0 4 q1 h5) zMX12_isWord_ok rfl rfl zK_BorrowedLivesModel_191 zV_X12_isWord rfl [25] [0] [0, 1, 2, 3, 4, 5, 6, 7, 8, 9, 10, 11, 12, 13, 14, 15, 16, 17, 18, 19, 20, 21, 22, 23, 24] rfl rfl rfl (by decide) (by decide) (by omega) (by decide) (Nat.zero_le _) (Nat.zero_le _) rfl rfl rfl rfl rfl ?_
  rintro v cc ⟨rfl, rfl⟩
  refine ⟨_, rfl, rfl, ?_⟩
  show AW Z 0 0 5 [some (.ref 0)] [.int q1] ([kR 0 v0] : List (List zE)).flatten
  refine AW.run hZ hRm [16, 19] 400 ?_
  show (((q1 = 0) → AW Z 0 0 16 [some (.ref 0)] [.int 4, .int 11, .ref 0] ([kR 0 v0] : List (List zE)).flatten) ∧ (¬ (q1 = 0) → AW Z 0 0 19 [some (.ref 0)] [.int 4] ([kR 0 v0] : List (List zE)).flatten))
  refine ⟨fun c2 => ?_, fun c2 => ?_⟩
  · rw [if_pos c2] at hf
    obtain ⟨q3, h4, hf⟩ := zbind hf
    refine AW.callVc hZ hR hN (c_R_wordHere N v0 11 4 q3 h4) zMX12_wordHere_ok rfl rfl zK_BorrowedLivesModel_204 zV_X12_wordHere rfl [25] [0] [0, 1, 2, 3, 4, 5, 6, 7, 8, 9, 10, 11, 12, 13, 14, 15, 16, 17, 18, 19, 20, 21, 22, 23, 24] rfl rfl rfl (by decide) (by decide) (by omega) (by decide) (Nat.zero_le _) (Nat.zero_le _) rfl rfl rfl rfl rfl ?_
    rintro v cc ⟨rfl, rfl⟩
    refine ⟨_, rfl, rfl, ?_⟩
    show AW Z 0 0 19 [some (.ref 0)] [.int q3] ([kR 0 v0] : List (List zE)).flatten
    cases hf
    exact AW.iret hZ hE rfl rfl rfl rfl (Nat.le_refl 0) (Nat.le_refl 0) rfl ⟨rfl, rfl⟩
  · rw [if_neg c2] at hf
    cases hf
    exact AW.iret hZ hE rfl rfl rfl rfl (Nat.le_refl 0) (Nat.le_refl 0) rfl ⟨rfl, rfl⟩
def f_R_readYear (N : Nat) (v0 : VR) (a1 : Int32) (a2 : Int32) : Option (Int32 × Int32 × (Nat → Int32)) := (if (a1 = 0) then ((f_R_takeTold N v0 0).bind (fun q28 => (if (a2 < 0 ∨ 250 ≤ Int32.toNatClampNeg a2) then none else (zlet ((upd (R_lines v0) (Int32.toNatClampNeg a2) q28.1) : (Nat → Int32)) (fun z29 => ((f_R_takeNumber N (R_s_at_fault_lines v0 q28.2.1 q28.2.2 z29) 0 999).bind (fun q30 => (if ((a2 + 1) < 0 ∨ 250 ≤ Int32.toNatClampNeg (a2 + 1)) then none else (zlet ((upd z29 (Int32.toNatClampNeg (a2 + 1)) q30.1) : (Nat → Int32)) (fun z31 => (some (q30.2.1, q30.2.2, z31)))))))))))) else (if (a1 = 1) then ((f_R_takeNumber N v0 0 9999).bind (fun q24 => (if (a2 < 0 ∨ 250 ≤ Int32.toNatClampNeg a2) then none else (zlet ((upd (R_lines v0) (Int32.toNatClampNeg a2) q24.1) : (Nat → Int32)) (fun z25 => (some (q24.2.1, q24.2.2, z25))))))) else (if (a1 = 2) then ((f_R_takeTold N v0 0).bind (fun q4 => (if (a2 < 0 ∨ 250 ≤ Int32.toNatClampNeg a2) then none else (zlet ((upd (R_lines v0) (Int32.toNatClampNeg a2) q4.1) : (Nat → Int32)) (fun z5 => ((f_R_toldHere N (R_s_at_fault_lines v0 q4.2.1 q4.2.2 z5) 0).bind (fun q6 => (if ((a2 + 1) < 0 ∨ 250 ≤ Int32.toNatClampNeg (a2 + 1)) then none else (zlet ((upd z5 (Int32.toNatClampNeg (a2 + 1)) q6.1) : (Nat → Int32)) (fun z7 => (if (q6.2 = 0) then (if (a2 < 0 ∨ 250 ≤ Int32.toNatClampNeg a2) then none else (if ((a2 + 1) < 0 ∨ 250 ≤ Int32.toNatClampNeg (a2 + 1)) then none else (if ((z7 (Int32.toNatClampNeg a2)) = (z7 (Int32.toNatClampNeg (a2 + 1)))) then ((f_R_wrong N (R_s_at_fault_lines v0 q4.2.1 q6.2 z7) 3).bind (fun q14 => (some ((q4.2.1 + (if (q14 ≤ 0) then 1 else 0)), q14, z7)))) else (some ((q4.2.1 + (if (q6.2 ≤ 0) then 1 else 0)), q6.2, z7))))) else (some ((q4.2.1 + (if (q6.2 ≤ 0) then 1 else 0)), q6.2, z7))))))))))))) else (some ((R_at v0), (R_fault v0), (R_lines v0))))))
set_option maxRecDepth 20000 in
set_option maxHeartbeats 4000000 in
theorem c_R_readYear (N : Nat) (v0 : VR) (a1 : Int32) (a2 : Int32) (R : Int32 × Int32 × (Nat → Int32)) (hf : f_R_readYear N v0 a1 a2 = some R) : Ct zMX12_readYear 6 0 0 0 [.ref 0, .int a1, .int a2] ([kR 0 v0] : List (List zE)).flatten (fun v cc => v = none ∧ cc = ([kR 0 (R_s_at_fault_lines v0 R.1 R.2.1 R.2.2)] : List (List zE)).flatten) := by
  refine Ct.of zMX12_readYear_ok (by decide) (Nat.le_of_ble_eq_true rfl) ?_
  intro Z hZ hR hN hE
  have hRm : zRoom Z 0 0 := zRoom0 Z
  unfold f_R_readYear at hf
  show AW Z 0 0 0 [some (.ref 0), some (.int a1), some (.int a2)] [] ([kR 0 v0] : List (List zE)).flatten
  refine AW.run hZ hRm [11, 49, 68, 135] 400 ?_
  show ((¬ (a1 = 0) → ((¬ (a1 = 1) → ((¬ (a1 = 2) → AW Z 0 0 135 [some (.ref 0), some (.int a1), some (.int a2)] [] ([kR 0 v0] : List (List zE)).flatten) ∧ ((a1 = 2) → AW Z 0 0 68 [some (.ref 0), some (.int a1), some (.int a2)] [.int 0, .ref 0, .int a2, .ref 11] ([kR 0 v0] : List (List zE)).flatten))) ∧ ((a1 = 1) → AW Z 0 0 49 [some (.ref 0), some (.int a1), some (.int a2)] [.int 9999, .int 0, .ref 0, .int a2, .ref 11] ([kR 0 v0] : List (List zE)).flatten))) ∧ ((a1 = 0) → AW Z 0 0 11 [some (.ref 0), some (.int a1), some (.int a2)] [.int 0, .ref 0, .int a2, .ref 11] ([kR 0 v0] : List (List zE)).flatten))
  refine ⟨fun c1 => ?_, fun c1 => ?_⟩
  · rw [if_neg c1] at hf
    refine ⟨fun c2 => ?_, fun c2 => ?_⟩
    · rw [if_neg c2] at hf
      refine ⟨fun c3 => ?_, fun c3 => ?_⟩
      · rw [if_neg c3] at hf
        cases hf
        exact AW.vret hZ hE rfl rfl rfl (Nat.le_refl 0) (Nat.le_refl 0) rfl ⟨rfl, rfl⟩
      · rw [if_pos c3] at hf
        obtain ⟨q4, h23, hf⟩ := zbind hf
        refine AW.callVc hZ hR hN (c_R_takeTold N v0 0 q4 h23) zMX12_takeTold_ok rfl rfl zK_BorrowedLivesModel_253 zV_X12_takeTold rfl [25] [0] [0, 1, 2, 3, 4, 5, 6, 7, 8, 9, 10, 11, 12, 13, 14, 15, 16, 17, 18, 19, 20, 21, 22, 23, 24] rfl rfl rfl (by decide) (by decide) (by omega) (by decide) (Nat.zero_le _) (Nat.zero_le _) rfl rfl rfl rfl rfl ?_
        rintro v cc ⟨rfl, rfl⟩
        refine ⟨_, rfl, rfl, ?_⟩
        show AW Z 0 0 71 [some (.ref 0), some (.int a1), some (.int a2)] [.int q4.1, .int a2, .ref 11] ([kR 0 (R_s_at_fault v0 q4.2.1 q4.2.2)] : List (List zE)).flatten
        refine AW.run hZ hRm [72] 400 ?_
        show (¬ (a2 < 0 ∨ 250 ≤ Int32.toNatClampNeg a2) ∧ AW Z 0 0 72 [some (.ref 0), some (.int a1), some (.int a2)] [] ([kR 0 (R_s_at_fault_lines v0 q4.2.1 q4.2.2 (upd (R_lines v0) (Int32.toNatClampNeg a2) q4.1))] : List (List zE)).flatten)
        obtain ⟨b22, hf⟩ := zneed hf
        refine ⟨b22, ?_⟩
        replace hf := zlet_gen hf
        generalize ((upd (R_lines v0) (Int32.toNatClampNeg a2) q4.1) : (Nat → Int32)) = z5 at hf ⊢
        as_aux_lemma =>
          refine AW.run hZ hRm [81] 400 ?_
          show AW Z 0 0 81 [some (.ref 0), some (.int a1), some (.int a2)] [.int 0, .ref 0, .int (a2 + 1), .ref 11] ([kR 0 (R_s_at_fault_lines v0 q4.2.1 q4.2.2 z5)] : List (List zE)).flatten
          obtain ⟨q6, h21, hf⟩ := zbind hf
          refine AW.callVc hZ hR hN (c_R_toldHere N (R_s_at_fault_lines v0 q4.2.1 q4.2.2 z5) 0 q6 h21) zMX12_toldHere_ok rfl rfl zK_BorrowedLivesModel_221 zV_X12_toldHere rfl [25] [0] [0, 1, 2, 3, 4, 5, 6, 7, 8, 9, 10, 11, 12, 13, 14, 15, 16, 17, 18, 19, 20, 21, 22, 23, 24] rfl rfl rfl (by decide) (by decide) (by omega) (by decide) (Nat.zero_le _) (Nat.zero_le _) rfl rfl rfl rfl rfl ?_
          rintro v cc ⟨rfl, rfl⟩
          refine ⟨_, rfl, rfl, ?_⟩
          show AW Z 0 0 84 [some (.ref 0), some (.int a1), some (.int a2)] [.int q6.1, .int (a2 + 1), .ref 11] ([kR 0 (R_s_at_fault_lines v0 q4.2.1 q6.2 z5)] : List (List zE)).flatten
          refine AW.run hZ hRm [85] 400 ?_
          show (¬ ((a2 + 1) < 0 ∨ 250 ≤ Int32.toNatClampNeg (a2 + 1)) ∧ AW Z 0 0 85 [some (.ref 0), some (.int a1), some (.int a2)] [] ([kR 0 (R_s_at_fault_lines v0 q4.2.1 q6.2 (upd z5 (Int32.toNatClampNeg (a2 + 1)) q6.1))] : List (List zE)).flatten)
          obtain ⟨b20, hf⟩ := zneed hf
          refine ⟨b20, ?_⟩
          replace hf := zlet_gen hf
          generalize ((upd z5 (Int32.toNatClampNeg (a2 + 1)) q6.1) : (Nat → Int32)) = z7 at hf ⊢
          as_aux_lemma =>
            refine AW.run hZ hRm [111, 123] 400 ?_
            show ((¬ (q6.2 = 0) → AW Z 0 0 123 [some (.ref 0), some (.int a1), some (.int a2)] [.int q6.2, .int q4.2.1, .ref 0] ([kR 0 (R_s_at_fault_lines v0 q4.2.1 q6.2 z7)] : List (List zE)).flatten) ∧ ((q6.2 = 0) → (¬ (a2 < 0 ∨ 250 ≤ Int32.toNatClampNeg a2) ∧ (¬ ((a2 + 1) < 0 ∨ 250 ≤ Int32.toNatClampNeg (a2 + 1)) ∧ ((¬ ((z7 (Int32.toNatClampNeg a2)) = (z7 (Int32.toNatClampNeg (a2 + 1)))) → AW Z 0 0 123 [some (.ref 0), some (.int a1), some (.int a2)] [.int q6.2, .int q4.2.1, .ref 0] ([kR 0 (R_s_at_fault_lines v0 q4.2.1 q6.2 z7)] : List (List zE)).flatten) ∧ (((z7 (Int32.toNatClampNeg a2)) = (z7 (Int32.toNatClampNeg (a2 + 1)))) → AW Z 0 0 111 [some (.ref 0), some (.int a1), some (.int a2)] [.int 3, .ref 0] ([kR 0 (R_s_at_fault_lines v0 q4.2.1 q6.2 z7)] : List (List zE)).flatten))))))
            refine ⟨fun c8 => ?_, fun c8 => ?_⟩
            · rw [if_neg c8] at hf
              suffices H9 : AW Z 0 0 131 [none, none, none] [.int (if (q6.2 ≤ 0) then 1 else 0), .int q4.2.1, .ref 0] ([kR 0 (R_s_at_fault_lines v0 q4.2.1 q6.2 z7)] : List (List zE)).flatten from by
                refine AW.run hZ hRm [131] 400 ?_
                show (((q6.2 ≤ 0) → AW Z 0 0 131 [some (.ref 0), some (.int a1), some (.int a2)] [.int 1, .int q4.2.1, .ref 0] ([kR 0 (R_s_at_fault_lines v0 q4.2.1 q6.2 z7)] : List (List zE)).flatten) ∧ (¬ (q6.2 ≤ 0) → AW Z 0 0 131 [some (.ref 0), some (.int a1), some (.int a2)] [.int 0, .int q4.2.1, .ref 0] ([kR 0 (R_s_at_fault_lines v0 q4.2.1 q6.2 z7)] : List (List zE)).flatten))
                refine ⟨fun c10 => ?_, fun c10 => ?_⟩
                · refine AW.forget [false, false, false] ?_
                  show AW Z 0 0 131 [none, none, none] [.int 1, .int q4.2.1, .ref 0] ([kR 0 (R_s_at_fault_lines v0 q4.2.1 q6.2 z7)] : List (List zE)).flatten
                  simpa only [if_pos c10] using H9
                · refine AW.forget [false, false, false] ?_
                  show AW Z 0 0 131 [none, none, none] [.int 0, .int q4.2.1, .ref 0] ([kR 0 (R_s_at_fault_lines v0 q4.2.1 q6.2 z7)] : List (List zE)).flatten
                  simpa only [if_neg c10] using H9
              refine AW.run hZ hRm [135] 400 ?_
              show AW Z 0 0 135 [none, none, none] [] ([kR 0 (R_s_at_fault_lines v0 (q4.2.1 + (if (q6.2 ≤ 0) then 1 else 0)) q6.2 z7)] : List (List zE)).flatten
              cases hf
              exact AW.vret hZ hE rfl rfl rfl (Nat.le_refl 0) (Nat.le_refl 0) rfl ⟨rfl, rfl⟩
            · rw [if_pos c8] at hf
              obtain ⟨b19, hf⟩ := zneed hf
              refine ⟨b19, ?_⟩
              obtain ⟨b18, hf⟩ := zneed hf
              refine ⟨b18, ?_⟩
              refine ⟨fun c11 => ?_, fun c11 => ?_⟩
              · rw [if_neg c11] at hf
                suffices H12 : AW Z 0 0 131 [none, none, none] [.int (if (q6.2 ≤ 0) then 1 else 0), .int q4.2.1, .ref 0] ([kR 0 (R_s_at_fault_lines v0 q4.2.1 q6.2 z7)] : List (List zE)).flatten from by
                  refine AW.run hZ hRm [131] 400 ?_
                  show (((q6.2 ≤ 0) → AW Z 0 0 131 [some (.ref 0), some (.int a1), some (.int a2)] [.int 1, .int q4.2.1, .ref 0] ([kR 0 (R_s_at_fault_lines v0 q4.2.1 q6.2 z7)] : List (List zE)).flatten) ∧ (¬ (q6.2 ≤ 0) → AW Z 0 0 131 [some (.ref 0), some (.int a1), some (.int a2)] [.int 0, .int q4.2.1, .ref 0] ([kR 0 (R_s_at_fault_lines v0 q4.2.1 q6.2 z7)] : List (List zE)).flatten))
                  refine ⟨fun c13 => ?_, fun c13 => ?_⟩
                  · refine AW.forget [false, false, false] ?_
                    show AW Z 0 0 131 [none, none, none] [.int 1, .int q4.2.1, .ref 0] ([kR 0 (R_s_at_fault_lines v0 q4.2.1 q6.2 z7)] : List (List zE)).flatten
                    simpa only [if_pos c13] using H12
                  · refine AW.forget [false, false, false] ?_
                    show AW Z 0 0 131 [none, none, none] [.int 0, .int q4.2.1, .ref 0] ([kR 0 (R_s_at_fault_lines v0 q4.2.1 q6.2 z7)] : List (List zE)).flatten
                    simpa only [if_neg c13] using H12
                refine AW.run hZ hRm [135] 400 ?_
                show AW Z 0 0 135 [none, none, none] [] ([kR 0 (R_s_at_fault_lines v0 (q4.2.1 + (if (q6.2 ≤ 0) then 1 else 0)) q6.2 z7)] : List (List zE)).flatten
                cases hf
                exact AW.vret hZ hE rfl rfl rfl (Nat.le_refl 0) (Nat.le_refl 0) rfl ⟨rfl, rfl⟩
              · rw [if_pos c11] at hf
                obtain ⟨q14, h17, hf⟩ := zbind hf
                refine AW.callVc hZ hR hN (c_R_wrong N (R_s_at_fault_lines v0 q4.2.1 q6.2 z7) 3 q14 h17) zMX12_wrong_ok rfl rfl zK_BorrowedLivesModel_188 zV_X12_wrong rfl [25] [0] [0, 1, 2, 3, 4, 5, 6, 7, 8, 9, 10, 11, 12, 13, 14, 15, 16, 17, 18, 19, 20, 21, 22, 23, 24] rfl rfl rfl (by decide) (by decide) (by omega) (by decide) (Nat.zero_le _) (Nat.zero_le _) rfl rfl rfl rfl rfl ?_
                rintro v cc ⟨rfl, rfl⟩
                refine ⟨_, rfl, rfl, ?_⟩
                show AW Z 0 0 114 [some (.ref 0), some (.int a1), some (.int a2)] [] ([kR 0 (R_s_at_fault_lines v0 q4.2.1 q14 z7)] : List (List zE)).flatten
                refine AW.run hZ hRm [123] 400 ?_
                show AW Z 0 0 123 [some (.ref 0), some (.int a1), some (.int a2)] [.int q14, .int q4.2.1, .ref 0] ([kR 0 (R_s_at_fault_lines v0 q4.2.1 q14 z7)] : List (List zE)).flatten
                suffices H15 : AW Z 0 0 131 [none, none, none] [.int (if (q14 ≤ 0) then 1 else 0), .int q4.2.1, .ref 0] ([kR 0 (R_s_at_fault_lines v0 q4.2.1 q14 z7)] : List (List zE)).flatten from by
                  refine AW.run hZ hRm [131] 400 ?_
                  show (((q14 ≤ 0) → AW Z 0 0 131 [some (.ref 0), some (.int a1), some (.int a2)] [.int 1, .int q4.2.1, .ref 0] ([kR 0 (R_s_at_fault_lines v0 q4.2.1 q14 z7)] : List (List zE)).flatten) ∧ (¬ (q14 ≤ 0) → AW Z 0 0 131 [some (.ref 0), some (.int a1), some (.int a2)] [.int 0, .int q4.2.1, .ref 0] ([kR 0 (R_s_at_fault_lines v0 q4.2.1 q14 z7)] : List (List zE)).flatten))
                  refine ⟨fun c16 => ?_, fun c16 => ?_⟩
                  · refine AW.forget [false, false, false] ?_
                    show AW Z 0 0 131 [none, none, none] [.int 1, .int q4.2.1, .ref 0] ([kR 0 (R_s_at_fault_lines v0 q4.2.1 q14 z7)] : List (List zE)).flatten
                    simpa only [if_pos c16] using H15
                  · refine AW.forget [false, false, false] ?_
                    show AW Z 0 0 131 [none, none, none] [.int 0, .int q4.2.1, .ref 0] ([kR 0 (R_s_at_fault_lines v0 q4.2.1 q14 z7)] : List (List zE)).flatten
                    simpa only [if_neg c16] using H15
                refine AW.run hZ hRm [135] 400 ?_
                show AW Z 0 0 135 [none, none, none] [] ([kR 0 (R_s_at_fault_lines v0 (q4.2.1 + (if (q14 ≤ 0) then 1 else 0)) q14 z7)] : List (List zE)).flatten
                cases hf
                exact AW.vret hZ hE rfl rfl rfl (Nat.le_refl 0) (Nat.le_refl 0) rfl ⟨rfl, rfl⟩
    · rw [if_pos c2] at hf
      obtain ⟨q24, h27, hf⟩ := zbind hf
      refine AW.callVc hZ hR hN (c_R_takeNumber N v0 0 9999 q24 h27) zMX12_takeNumber_ok rfl rfl zK_BorrowedLivesModel_200 zV_X12_takeNumber rfl [25] [0] [0, 1, 2, 3, 4, 5, 6, 7, 8, 9, 10, 11, 12, 13, 14, 15, 16, 17, 18, 19, 20, 21, 22, 23, 24] rfl rfl rfl (by decide) (by decide) (by omega) (by decide) (Nat.zero_le _) (Nat.zero_le _) rfl rfl rfl rfl rfl ?_
      rintro v cc ⟨rfl, rfl⟩
      refine ⟨_, rfl, rfl, ?_⟩
      show AW Z 0 0 52 [some (.ref 0), some (.int a1), some (.int a2)] [.int q24.1, .int a2, .ref 11] ([kR 0 (R_s_at_fault v0 q24.2.1 q24.2.2)] : List (List zE)).flatten
      refine AW.run hZ hRm [53] 400 ?_
      show (¬ (a2 < 0 ∨ 250 ≤ Int32.toNatClampNeg a2) ∧ AW Z 0 0 53 [some (.ref 0), some (.int a1), some (.int a2)] [] ([kR 0 (R_s_at_fault_lines v0 q24.2.1 q24.2.2 (upd (R_lines v0) (Int32.toNatClampNeg a2) q24.1))] : List (List zE)).flatten)
      obtain ⟨b26, hf⟩ := zneed hf
      refine ⟨b26, ?_⟩
      replace hf := zlet_gen hf
      generalize ((upd (R_lines v0) (Int32.toNatClampNeg a2) q24.1) : (Nat → Int32)) = z25 at hf ⊢
      as_aux_lemma =>
        refine AW.run hZ hRm [135] 400 ?_
        show AW Z 0 0 135 [some (.ref 0), some (.int a1), some (.int a2)] [] ([kR 0 (R_s_at_fault_lines v0 q24.2.1 q24.2.2 z25)] : List (List zE)).flatten
        cases hf
        exact AW.vret hZ hE rfl rfl rfl (Nat.le_refl 0) (Nat.le_refl 0) rfl ⟨rfl, rfl⟩
  · rw [if_pos c1] at hf
    obtain ⟨q28, h35, hf⟩ := zbind hf
    refine AW.callVc hZ hR hN (c_R_takeTold N v0 0 q28 h35) zMX12_takeTold_ok rfl rfl zK_BorrowedLivesModel_253 zV_X12_takeTold rfl [25] [0] [0, 1, 2, 3, 4, 5, 6, 7, 8, 9, 10, 11, 12, 13, 14, 15, 16, 17, 18, 19, 20, 21, 22, 23, 24] rfl rfl rfl (by decide) (by decide) (by omega) (by decide) (Nat.zero_le _) (Nat.zero_le _) rfl rfl rfl rfl rfl ?_
    rintro v cc ⟨rfl, rfl⟩
    refine ⟨_, rfl, rfl, ?_⟩
    show AW Z 0 0 14 [some (.ref 0), some (.int a1), some (.int a2)] [.int q28.1, .int a2, .ref 11] ([kR 0 (R_s_at_fault v0 q28.2.1 q28.2.2)] : List (List zE)).flatten
    refine AW.run hZ hRm [15] 400 ?_
    show (¬ (a2 < 0 ∨ 250 ≤ Int32.toNatClampNeg a2) ∧ AW Z 0 0 15 [some (.ref 0), some (.int a1), some (.int a2)] [] ([kR 0 (R_s_at_fault_lines v0 q28.2.1 q28.2.2 (upd (R_lines v0) (Int32.toNatClampNeg a2) q28.1))] : List (List zE)).flatten)
    obtain ⟨b34, hf⟩ := zneed hf
    refine ⟨b34, ?_⟩
    replace hf := zlet_gen hf
    generalize ((upd (R_lines v0) (Int32.toNatClampNeg a2) q28.1) : (Nat → Int32)) = z29 at hf ⊢
    as_aux_lemma =>
      refine AW.run hZ hRm [27] 400 ?_
      show AW Z 0 0 27 [some (.ref 0), some (.int a1), some (.int a2)] [.int 999, .int 0, .ref 0, .int (a2 + 1), .ref 11] ([kR 0 (R_s_at_fault_lines v0 q28.2.1 q28.2.2 z29)] : List (List zE)).flatten
      obtain ⟨q30, h33, hf⟩ := zbind hf
      refine AW.callVc hZ hR hN (c_R_takeNumber N (R_s_at_fault_lines v0 q28.2.1 q28.2.2 z29) 0 999 q30 h33) zMX12_takeNumber_ok rfl rfl zK_BorrowedLivesModel_200 zV_X12_takeNumber rfl [25] [0] [0, 1, 2, 3, 4, 5, 6, 7, 8, 9, 10, 11, 12, 13, 14, 15, 16, 17, 18, 19, 20, 21, 22, 23, 24] rfl rfl rfl (by decide) (by decide) (by omega) (by decide) (Nat.zero_le _) (Nat.zero_le _) rfl rfl rfl rfl rfl ?_
      rintro v cc ⟨rfl, rfl⟩
      refine ⟨_, rfl, rfl, ?_⟩
      show AW Z 0 0 30 [some (.ref 0), some (.int a1), some (.int a2)] [.int q30.1, .int (a2 + 1), .ref 11] ([kR 0 (R_s_at_fault_lines v0 q30.2.1 q30.2.2 z29)] : List (List zE)).flatten
      refine AW.run hZ hRm [31] 400 ?_
      show (¬ ((a2 + 1) < 0 ∨ 250 ≤ Int32.toNatClampNeg (a2 + 1)) ∧ AW Z 0 0 31 [some (.ref 0), some (.int a1), some (.int a2)] [] ([kR 0 (R_s_at_fault_lines v0 q30.2.1 q30.2.2 (upd z29 (Int32.toNatClampNeg (a2 + 1)) q30.1))] : List (List zE)).flatten)
      obtain ⟨b32, hf⟩ := zneed hf
      refine ⟨b32, ?_⟩
      replace hf := zlet_gen hf
      generalize ((upd z29 (Int32.toNatClampNeg (a2 + 1)) q30.1) : (Nat → Int32)) = z31 at hf ⊢
      as_aux_lemma =>
        refine AW.run hZ hRm [135] 400 ?_
        show AW Z 0 0 135 [some (.ref 0), some (.int a1), some (.int a2)] [] ([kR 0 (R_s_at_fault_lines v0 q30.2.1 q30.2.2 z31)] : List (List zE)).flatten
        cases hf
        exact AW.vret hZ hE rfl rfl rfl (Nat.le_refl 0) (Nat.le_refl 0) rfl ⟨rfl, rfl⟩
