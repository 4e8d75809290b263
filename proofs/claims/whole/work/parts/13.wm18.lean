def f_R_pairsFrom_L70 (r_f_R_pairsFrom : (VR → Int32 → Int32 → Option ((Nat → Int32) × (Nat → Int32) × Int32))) (N : Nat) : Nat → VR → Int32 → Int32 → Int32 → (Nat → Int32) → (Nat → Int32) → Int32 → Option ((Nat → Int32) × (Nat → Int32) × Int32)
  | 0, _, _, _, _, _, _, _ => none
  | fuel + 1, v0, y1, y2, x3, m_pairRow0, m_bestPairs1, m_mostPairs2 => ((f_R_people N (R_s_pairRow_bestPairs_mostPairs v0 m_pairRow0 m_bestPairs1 m_mostPairs2)).bind (fun q4 => (if (q4 ≤ x3) then (some (m_pairRow0, m_bestPairs1, m_mostPairs2)) else (if (x3 < 0 ∨ 6 ≤ Int32.toNatClampNeg x3) then none else (if ((m_pairRow0 (Int32.toNatClampNeg x3)) = (-1)) then (if (((6 * y1) + x3) < 0 ∨ 36 ≤ Int32.toNatClampNeg ((6 * y1) + x3)) then none else (if (((R_would v0) (Int32.toNatClampNeg ((6 * y1) + x3))) = 0) then (f_R_pairsFrom_L70 r_f_R_pairsFrom N fuel v0 y1 y2 (x3 + 1) m_pairRow0 m_bestPairs1 m_mostPairs2) else (if (((6 * x3) + y1) < 0 ∨ 36 ≤ Int32.toNatClampNeg ((6 * x3) + y1)) then none else (if (((R_would v0) (Int32.toNatClampNeg ((6 * x3) + y1))) = 0) then (f_R_pairsFrom_L70 r_f_R_pairsFrom N fuel v0 y1 y2 (x3 + 1) m_pairRow0 m_bestPairs1 m_mostPairs2) else (if (y1 < 0 ∨ 6 ≤ Int32.toNatClampNeg y1) then none else (zlet ((upd m_pairRow0 (Int32.toNatClampNeg y1) x3) : (Nat → Int32)) (fun z9 => (if (x3 < 0 ∨ 6 ≤ Int32.toNatClampNeg x3) then none else (zlet ((upd z9 (Int32.toNatClampNeg x3) y1) : (Nat → Int32)) (fun z10 => ((r_f_R_pairsFrom (R_s_pairRow_bestPairs_mostPairs v0 z10 m_bestPairs1 m_mostPairs2) (y1 + 1) (y2 + 1)).bind (fun q11 => (if (y1 < 0 ∨ 6 ≤ Int32.toNatClampNeg y1) then none else (zlet ((upd q11.1 (Int32.toNatClampNeg y1) (-1)) : (Nat → Int32)) (fun z12 => (if (x3 < 0 ∨ 6 ≤ Int32.toNatClampNeg x3) then none else (zlet ((upd z12 (Int32.toNatClampNeg x3) (-1)) : (Nat → Int32)) (fun z13 => (f_R_pairsFrom_L70 r_f_R_pairsFrom N fuel v0 y1 y2 (x3 + 1) z13 q11.2.1 q11.2.2))))))))))))))))))) else (f_R_pairsFrom_L70 r_f_R_pairsFrom N fuel v0 y1 y2 (x3 + 1) m_pairRow0 m_bestPairs1 m_mostPairs2))))))
def f_R_pairsFrom_L23 (r_f_R_pairsFrom : (VR → Int32 → Int32 → Option ((Nat → Int32) × (Nat → Int32) × Int32))) (N : Nat) : Nat → VR → Int32 → Int32 → (Nat → Int32) → Option ((Nat → Int32))
  | 0, _, _, _, _ => none
  | fuel + 1, v0, y1, x3, m_bestPairs0 => (if (y1 ≤ x3) then (some m_bestPairs0) else (if (x3 < 0 ∨ 6 ≤ Int32.toNatClampNeg x3) then none else (if (x3 < 0 ∨ 6 ≤ Int32.toNatClampNeg x3) then none else (zlet ((upd m_bestPairs0 (Int32.toNatClampNeg x3) ((R_pairRow v0) (Int32.toNatClampNeg x3))) : (Nat → Int32)) (fun z32 => (f_R_pairsFrom_L23 r_f_R_pairsFrom N fuel v0 y1 (x3 + 1) z32))))))
def f_R_pairsFrom_b (r_f_R_pairsFrom : (VR → Int32 → Int32 → Option ((Nat → Int32) × (Nat → Int32) × Int32))) (N : Nat) (v0 : VR) (a1 : Int32) (a2 : Int32) : Option ((Nat → Int32) × (Nat → Int32) × Int32) := ((f_R_people N v0).bind (fun q1 => (if (a1 = q1) then (if (a2 ≤ (R_mostPairs v0)) then (some ((R_pairRow v0), (R_bestPairs v0), (R_mostPairs v0))) else ((f_R_pairsFrom_L23 r_f_R_pairsFrom N N (R_mostPairs_s v0 a2) a1 0 (R_bestPairs v0)).bind (fun q35 => (some ((R_pairRow v0), q35, a2))))) else (if (a1 < 0 ∨ 6 ≤ Int32.toNatClampNeg a1) then none else (if (((R_pairRow v0) (Int32.toNatClampNeg a1)) = (-1)) then ((f_R_pairsFrom_L70 r_f_R_pairsFrom N N v0 a1 a2 (a1 + 1) (R_pairRow v0) (R_bestPairs v0) (R_mostPairs v0)).bind (fun q23 => ((r_f_R_pairsFrom (R_s_pairRow_bestPairs_mostPairs v0 q23.1 q23.2.1 q23.2.2) (a1 + 1) a2).bind (fun q25 => (some (q25.1, q25.2.1, q25.2.2)))))) else ((r_f_R_pairsFrom v0 (a1 + 1) a2).bind (fun q27 => (some (q27.1, q27.2.1, q27.2.2)))))))))
def g_R_pairsFrom (N : Nat) : Nat → (VR → Int32 → Int32 → Option ((Nat → Int32) × (Nat → Int32) × Int32))
  | 0 => (fun _ _ _ => none)
  | n + 1 => f_R_pairsFrom_b (g_R_pairsFrom N n) N
def f_R_pairsFrom (e N : Nat) (v0 : VR) (a1 : Int32) (a2 : Int32) : Option ((Nat → Int32) × (Nat → Int32) × Int32) := (g_R_pairsFrom N e) v0 a1 a2
set_option maxRecDepth 20000 in
set_option maxHeartbeats 4000000 in
theorem c_R_pairsFrom_L70 {r_f_R_pairsFrom : (VR → Int32 → Int32 → Option ((Nat → Int32) × (Nat → Int32) × Int32))} {e : Nat} {Z : zCtx} {D n0w nf mcw msw : Nat} (hZ : zOk Z zMX12_pairsFrom) (hR : zCan Z D mcw msw) (hDd : e + 2 ≤ D) (hN : zNew Z n0w nf) (hRm : zRoom Z 0 0) (hr_f_R_pairsFrom : ∀ (v0 : VR) (a1 : Int32) (a2 : Int32) (R : (Nat → Int32) × (Nat → Int32) × Int32), r_f_R_pairsFrom v0 a1 a2 = some R → Ct zMX12_pairsFrom (e + 1) 0 0 0 [.ref 0, .int a1, .int a2] ([kR 0 v0] : List (List zE)).flatten (fun v cc => v = none ∧ cc = ([kR 0 (R_s_pairRow_bestPairs_mostPairs v0 R.1 R.2.1 R.2.2)] : List (List zE)).flatten)) (N : Nat) : ∀ (fuel : Nat) (v0 : VR) (y1 : Int32) (y2 : Int32) (x3 : Int32) (m_pairRow0 : (Nat → Int32)) (m_bestPairs1 : (Nat → Int32)) (m_mostPairs2 : Int32) (q : ((Nat → Int32) × (Nat → Int32) × Int32)), f_R_pairsFrom_L70 r_f_R_pairsFrom N fuel v0 y1 y2 x3 m_pairRow0 m_bestPairs1 m_mostPairs2 = some q → (AW Z 0 0 160 [some (.ref 0), some (.int y1), some (.int y2), none] [] ([kR 0 (R_s_pairRow_bestPairs_mostPairs v0 q.1 q.2.1 q.2.2)] : List (List zE)).flatten) → AW Z 0 0 70 [some (.ref 0), some (.int y1), some (.int y2), some (.int x3)] [] ([kR 0 (R_s_pairRow_bestPairs_mostPairs v0 m_pairRow0 m_bestPairs1 m_mostPairs2)] : List (List zE)).flatten := by
  intro fuel
  induction fuel with
  | zero =>
    intro v0 y1 y2 x3 m_pairRow0 m_bestPairs1 m_mostPairs2 q hf hk0
    simp [f_R_pairsFrom_L70] at hf
  | succ fuel ih =>
    intro v0 y1 y2 x3 m_pairRow0 m_bestPairs1 m_mostPairs2 q hf hk0
    rw [f_R_pairsFrom_L70] at hf
    refine AW.run hZ hRm [72] 400 ?_
    show AW Z 0 0 72 [some (.ref 0), some (.int y1), some (.int y2), some (.int x3)] [.ref 0, .int x3] ([kR 0 (R_s_pairRow_bestPairs_mostPairs v0 m_pairRow0 m_bestPairs1 m_mostPairs2)] : List (List zE)).flatten
    obtain ⟨q4, h22, hf⟩ := zbind hf
    refine AW.callVc hZ hR hN (c_R_people N (R_s_pairRow_bestPairs_mostPairs v0 m_pairRow0 m_bestPairs1 m_mostPairs2) q4 h22) zMX12_people_ok rfl rfl zK_BorrowedLivesModel_291 zV_X12_people rfl [25] [0] [0, 1, 2, 3, 4, 5, 6, 7, 8, 9, 10, 11, 12, 13, 14, 15, 16, 17, 18, 19, 20, 21, 22, 23, 24] rfl rfl rfl (by decide) (by decide) (by omega) (by decide) (Nat.zero_le _) (Nat.zero_le _) rfl rfl rfl rfl rfl ?_
    rintro v cc ⟨rfl, rfl⟩
    refine ⟨_, rfl, rfl, ?_⟩
    show AW Z 0 0 75 [some (.ref 0), some (.int y1), some (.int y2), some (.int x3)] [.int q4, .int x3] ([kR 0 (R_s_pairRow_bestPairs_mostPairs v0 m_pairRow0 m_bestPairs1 m_mostPairs2)] : List (List zE)).flatten
    refine AW.run hZ hRm [123, 154, 160] 400 ?_
    show (((q4 ≤ x3) → AW Z 0 0 160 [some (.ref 0), some (.int y1), some (.int y2), some (.int x3)] [] ([kR 0 (R_s_pairRow_bestPairs_mostPairs v0 m_pairRow0 m_bestPairs1 m_mostPairs2)] : List (List zE)).flatten) ∧ (¬ (q4 ≤ x3) → (¬ (x3 < 0 ∨ 6 ≤ Int32.toNatClampNeg x3) ∧ ((¬ ((m_pairRow0 (Int32.toNatClampNeg x3)) = (-1)) → AW Z 0 0 154 [some (.ref 0), some (.int y1), some (.int y2), some (.int x3)] [] ([kR 0 (R_s_pairRow_bestPairs_mostPairs v0 m_pairRow0 m_bestPairs1 m_mostPairs2)] : List (List zE)).flatten) ∧ (((m_pairRow0 (Int32.toNatClampNeg x3)) = (-1)) → (¬ (((6 * y1) + x3) < 0 ∨ 36 ≤ Int32.toNatClampNeg ((6 * y1) + x3)) ∧ (((((R_would v0) (Int32.toNatClampNeg ((6 * y1) + x3))) = 0) → AW Z 0 0 154 [some (.ref 0), some (.int y1), some (.int y2), some (.int x3)] [] ([kR 0 (R_s_pairRow_bestPairs_mostPairs v0 m_pairRow0 m_bestPairs1 m_mostPairs2)] : List (List zE)).flatten) ∧ (¬ (((R_would v0) (Int32.toNatClampNeg ((6 * y1) + x3))) = 0) → (¬ (((6 * x3) + y1) < 0 ∨ 36 ≤ Int32.toNatClampNeg ((6 * x3) + y1)) ∧ (((((R_would v0) (Int32.toNatClampNeg ((6 * x3) + y1))) = 0) → AW Z 0 0 154 [some (.ref 0), some (.int y1), some (.int y2), some (.int x3)] [] ([kR 0 (R_s_pairRow_bestPairs_mostPairs v0 m_pairRow0 m_bestPairs1 m_mostPairs2)] : List (List zE)).flatten) ∧ (¬ (((R_would v0) (Int32.toNatClampNeg ((6 * x3) + y1))) = 0) → (¬ (y1 < 0 ∨ 6 ≤ Int32.toNatClampNeg y1) ∧ AW Z 0 0 123 [some (.ref 0), some (.int y1), some (.int y2), some (.int x3)] [] ([kR 0 (R_s_pairRow_bestPairs_mostPairs v0 (upd m_pairRow0 (Int32.toNatClampNeg y1) x3) m_bestPairs1 m_mostPairs2)] : List (List zE)).flatten))))))))))))
    refine ⟨fun c5 => ?_, fun c5 => ?_⟩
    · rw [if_pos c5] at hf
      cases hf
      refine AW.forget [true, true, true, false] ?_
      show AW Z 0 0 160 [some (.ref 0), some (.int y1), some (.int y2), none] [] ([kR 0 (R_s_pairRow_bestPairs_mostPairs v0 m_pairRow0 m_bestPairs1 m_mostPairs2)] : List (List zE)).flatten
      exact hk0
    · rw [if_neg c5] at hf
      obtain ⟨b21, hf⟩ := zneed hf
      refine ⟨b21, ?_⟩
      refine ⟨fun c6 => ?_, fun c6 => ?_⟩
      · rw [if_neg c6] at hf
        as_aux_lemma =>
          refine AW.run hZ hRm [70] 400 ?_
          show AW Z 0 0 70 [some (.ref 0), some (.int y1), some (.int y2), some (.int (x3 + 1))] [] ([kR 0 (R_s_pairRow_bestPairs_mostPairs v0 m_pairRow0 m_bestPairs1 m_mostPairs2)] : List (List zE)).flatten
          exact ih v0 y1 y2 (x3 + 1) m_pairRow0 m_bestPairs1 m_mostPairs2 q hf hk0
      · rw [if_pos c6] at hf
        obtain ⟨b20, hf⟩ := zneed hf
        refine ⟨b20, ?_⟩
        refine ⟨fun c7 => ?_, fun c7 => ?_⟩
        · rw [if_pos c7] at hf
          as_aux_lemma =>
            refine AW.run hZ hRm [70] 400 ?_
            show AW Z 0 0 70 [some (.ref 0), some (.int y1), some (.int y2), some (.int (x3 + 1))] [] ([kR 0 (R_s_pairRow_bestPairs_mostPairs v0 m_pairRow0 m_bestPairs1 m_mostPairs2)] : List (List zE)).flatten
            exact ih v0 y1 y2 (x3 + 1) m_pairRow0 m_bestPairs1 m_mostPairs2 q hf hk0
        · rw [if_neg c7] at hf
          obtain ⟨b19, hf⟩ := zneed hf
          refine ⟨b19, ?_⟩
          refine ⟨fun c8 => ?_, fun c8 => ?_⟩
          · rw [if_pos c8] at hf
            as_aux_lemma =>
              refine AW.run hZ hRm [70] 400 ?_
              show AW Z 0 0 70 [some (.ref 0), some (.int y1), some (.int y2), some (.int (x3 + 1))] [] ([kR 0 (R_s_pairRow_bestPairs_mostPairs v0 m_pairRow0 m_bestPairs1 m_mostPairs2)] : List (List zE)).flatten
              exact ih v0 y1 y2 (x3 + 1) m_pairRow0 m_bestPairs1 m_mostPairs2 q hf hk0
          · rw [if_neg c8] at hf
            obtain ⟨b18, hf⟩ := zneed hf
            refine ⟨b18, ?_⟩
            replace hf := zlet_gen hf
            generalize ((upd m_pairRow0 (Int32.toNatClampNeg y1) x3) : (Nat → Int32)) = z9 at hf ⊢
            as_aux_lemma =>
              refine AW.run hZ hRm [130] 400 ?_
              show (¬ (x3 < 0 ∨ 6 ≤ Int32.toNatClampNeg x3) ∧ AW Z 0 0 130 [some (.ref 0), some (.int y1), some (.int y2), some (.int x3)] [] ([kR 0 (R_s_pairRow_bestPairs_mostPairs v0 (upd z9 (Int32.toNatClampNeg x3) y1) m_bestPairs1 m_mostPairs2)] : List (List zE)).flatten)
              obtain ⟨b17, hf⟩ := zneed hf
              refine ⟨b17, ?_⟩
              replace hf := zlet_gen hf
              generalize ((upd z9 (Int32.toNatClampNeg x3) y1) : (Nat → Int32)) = z10 at hf ⊢
              as_aux_lemma =>
                refine AW.run hZ hRm [137] 400 ?_
                show AW Z 0 0 137 [some (.ref 0), some (.int y1), some (.int y2), some (.int x3)] [.int (y2 + 1), .int (y1 + 1), .ref 0] ([kR 0 (R_s_pairRow_bestPairs_mostPairs v0 z10 m_bestPairs1 m_mostPairs2)] : List (List zE)).flatten
                obtain ⟨q11, h16, hf⟩ := zbind hf
                refine AW.callVc hZ hR hN (hr_f_R_pairsFrom (R_s_pairRow_bestPairs_mostPairs v0 z10 m_bestPairs1 m_mostPairs2) (y1 + 1) (y2 + 1) q11 h16) zMX12_pairsFrom_ok rfl rfl zK_BorrowedLivesModel_441 zV_X12_pairsFrom rfl [25] [0] [0, 1, 2, 3, 4, 5, 6, 7, 8, 9, 10, 11, 12, 13, 14, 15, 16, 17, 18, 19, 20, 21, 22, 23, 24] rfl rfl rfl (by decide) (by decide) (by omega) (by decide) (Nat.zero_le _) (Nat.zero_le _) rfl rfl rfl rfl rfl ?_
                rintro v cc ⟨rfl, rfl⟩
                refine ⟨_, rfl, rfl, ?_⟩
                show AW Z 0 0 140 [some (.ref 0), some (.int y1), some (.int y2), some (.int x3)] [] ([kR 0 (R_s_pairRow_bestPairs_mostPairs v0 q11.1 q11.2.1 q11.2.2)] : List (List zE)).flatten
                refine AW.run hZ hRm [147] 400 ?_
                show (¬ (y1 < 0 ∨ 6 ≤ Int32.toNatClampNeg y1) ∧ AW Z 0 0 147 [some (.ref 0), some (.int y1), some (.int y2), some (.int x3)] [] ([kR 0 (R_s_pairRow_bestPairs_mostPairs v0 (upd q11.1 (Int32.toNatClampNeg y1) (-1)) q11.2.1 q11.2.2)] : List (List zE)).flatten)
                obtain ⟨b15, hf⟩ := zneed hf
                refine ⟨b15, ?_⟩
                replace hf := zlet_gen hf
                generalize ((upd q11.1 (Int32.toNatClampNeg y1) (-1)) : (Nat → Int32)) = z12 at hf ⊢
                as_aux_lemma =>
                  refine AW.run hZ hRm [154] 400 ?_
                  show (¬ (x3 < 0 ∨ 6 ≤ Int32.toNatClampNeg x3) ∧ AW Z 0 0 154 [some (.ref 0), some (.int y1), some (.int y2), some (.int x3)] [] ([kR 0 (R_s_pairRow_bestPairs_mostPairs v0 (upd z12 (Int32.toNatClampNeg x3) (-1)) q11.2.1 q11.2.2)] : List (List zE)).flatten)
                  obtain ⟨b14, hf⟩ := zneed hf
                  refine ⟨b14, ?_⟩
                  replace hf := zlet_gen hf
                  generalize ((upd z12 (Int32.toNatClampNeg x3) (-1)) : (Nat → Int32)) = z13 at hf ⊢
                  as_aux_lemma =>
                    refine AW.run hZ hRm [70] 400 ?_
                    show AW Z 0 0 70 [some (.ref 0), some (.int y1), some (.int y2), some (.int (x3 + 1))] [] ([kR 0 (R_s_pairRow_bestPairs_mostPairs v0 z13 q11.2.1 q11.2.2)] : List (List zE)).flatten
                    exact ih v0 y1 y2 (x3 + 1) z13 q11.2.1 q11.2.2 q hf hk0
set_option maxRecDepth 20000 in
set_option maxHeartbeats 4000000 in
theorem c_R_pairsFrom_L23 {r_f_R_pairsFrom : (VR → Int32 → Int32 → Option ((Nat → Int32) × (Nat → Int32) × Int32))} {e : Nat} {Z : zCtx} {D n0w nf mcw msw : Nat} (hZ : zOk Z zMX12_pairsFrom) (hR : zCan Z D mcw msw) (hDd : e + 2 ≤ D) (hN : zNew Z n0w nf) (hRm : zRoom Z 0 0) (hr_f_R_pairsFrom : ∀ (v0 : VR) (a1 : Int32) (a2 : Int32) (R : (Nat → Int32) × (Nat → Int32) × Int32), r_f_R_pairsFrom v0 a1 a2 = some R → Ct zMX12_pairsFrom (e + 1) 0 0 0 [.ref 0, .int a1, .int a2] ([kR 0 v0] : List (List zE)).flatten (fun v cc => v = none ∧ cc = ([kR 0 (R_s_pairRow_bestPairs_mostPairs v0 R.1 R.2.1 R.2.2)] : List (List zE)).flatten)) (N : Nat) : ∀ (fuel : Nat) (v0 : VR) (y1 : Int32) (x3 : Int32) (m_bestPairs0 : (Nat → Int32)) (q : ((Nat → Int32))), f_R_pairsFrom_L23 r_f_R_pairsFrom N fuel v0 y1 x3 m_bestPairs0 = some q → (AW Z 0 0 46 [none, none, none, none] [] ([kR 0 (R_bestPairs_s v0 q)] : List (List zE)).flatten) → AW Z 0 0 23 [some (.ref 0), some (.int y1), none, some (.int x3)] [] ([kR 0 (R_bestPairs_s v0 m_bestPairs0)] : List (List zE)).flatten := by
  intro fuel
  induction fuel with
  | zero =>
    intro v0 y1 x3 m_bestPairs0 q hf hk0
    simp [f_R_pairsFrom_L23] at hf
  | succ fuel ih =>
    intro v0 y1 x3 m_bestPairs0 q hf hk0
    rw [f_R_pairsFrom_L23] at hf
    refine AW.run hZ hRm [40, 46] 400 ?_
    show (((y1 ≤ x3) → AW Z 0 0 46 [some (.ref 0), some (.int y1), none, some (.int x3)] [] ([kR 0 (R_bestPairs_s v0 m_bestPairs0)] : List (List zE)).flatten) ∧ (¬ (y1 ≤ x3) → (¬ (x3 < 0 ∨ 6 ≤ Int32.toNatClampNeg x3) ∧ (¬ (x3 < 0 ∨ 6 ≤ Int32.toNatClampNeg x3) ∧ AW Z 0 0 40 [some (.ref 0), some (.int y1), none, some (.int x3)] [] ([kR 0 (R_bestPairs_s v0 (upd m_bestPairs0 (Int32.toNatClampNeg x3) ((R_pairRow v0) (Int32.toNatClampNeg x3))))] : List (List zE)).flatten))))
    refine ⟨fun c31 => ?_, fun c31 => ?_⟩
    · rw [if_pos c31] at hf
      cases hf
      refine AW.forget [false, false, false, false] ?_
      show AW Z 0 0 46 [none, none, none, none] [] ([kR 0 (R_bestPairs_s v0 m_bestPairs0)] : List (List zE)).flatten
      exact hk0
    · rw [if_neg c31] at hf
      obtain ⟨b34, hf⟩ := zneed hf
      refine ⟨b34, ?_⟩
      obtain ⟨b33, hf⟩ := zneed hf
      refine ⟨b33, ?_⟩
      replace hf := zlet_gen hf
      generalize ((upd m_bestPairs0 (Int32.toNatClampNeg x3) ((R_pairRow v0) (Int32.toNatClampNeg x3))) : (Nat → Int32)) = z32 at hf ⊢
      as_aux_lemma =>
        refine AW.run hZ hRm [23] 400 ?_
        show AW Z 0 0 23 [some (.ref 0), some (.int y1), none, some (.int (x3 + 1))] [] ([kR 0 (R_bestPairs_s v0 z32)] : List (List zE)).flatten
        exact ih v0 y1 (x3 + 1) z32 q hf hk0
set_option maxRecDepth 20000 in
set_option maxHeartbeats 4000000 in
theorem c_R_pairsFrom_b {r_f_R_pairsFrom : (VR → Int32 → Int32 → Option ((Nat → Int32) × (Nat → Int32) × Int32))} {e : Nat} (hr_f_R_pairsFrom : ∀ (v0 : VR) (a1 : Int32) (a2 : Int32) (R : (Nat → Int32) × (Nat → Int32) × Int32), r_f_R_pairsFrom v0 a1 a2 = some R → Ct zMX12_pairsFrom (e + 1) 0 0 0 [.ref 0, .int a1, .int a2] ([kR 0 v0] : List (List zE)).flatten (fun v cc => v = none ∧ cc = ([kR 0 (R_s_pairRow_bestPairs_mostPairs v0 R.1 R.2.1 R.2.2)] : List (List zE)).flatten)) (N : Nat) (v0 : VR) (a1 : Int32) (a2 : Int32) (R : (Nat → Int32) × (Nat → Int32) × Int32) (hf : f_R_pairsFrom_b r_f_R_pairsFrom N v0 a1 a2 = some R) : Ct zMX12_pairsFrom (e + 2) 0 0 0 [.ref 0, .int a1, .int a2] ([kR 0 v0] : List (List zE)).flatten (fun v cc => v = none ∧ cc = ([kR 0 (R_s_pairRow_bestPairs_mostPairs v0 R.1 R.2.1 R.2.2)] : List (List zE)).flatten) := by
  refine Ct.of zMX12_pairsFrom_ok (by omega) (Nat.le_of_ble_eq_true rfl) ?_
  intro Z hZ hR hN hE
  have hRm : zRoom Z 0 0 := zRoom0 Z
  unfold f_R_pairsFrom_b at hf
  show AW Z 0 0 0 [some (.ref 0), some (.int a1), some (.int a2), none] [] ([kR 0 v0] : List (List zE)).flatten
  refine AW.run hZ hRm [2] 400 ?_
  show AW Z 0 0 2 [some (.ref 0), some (.int a1), some (.int a2), none] [.ref 0, .int a1] ([kR 0 v0] : List (List zE)).flatten
  obtain ⟨q1, h37, hf⟩ := zbind hf
  refine AW.callVc hZ hR hN (c_R_people N v0 q1 h37) zMX12_people_ok rfl rfl zK_BorrowedLivesModel_291 zV_X12_people rfl [25] [0] [0, 1, 2, 3, 4, 5, 6, 7, 8, 9, 10, 11, 12, 13, 14, 15, 16, 17, 18, 19, 20, 21, 22, 23, 24] rfl rfl rfl (by decide) (by decide) (by omega) (by decide) (Nat.zero_le _) (Nat.zero_le _) rfl rfl rfl rfl rfl ?_
  rintro v cc ⟨rfl, rfl⟩
  refine ⟨_, rfl, rfl, ?_⟩
  show AW Z 0 0 5 [some (.ref 0), some (.int a1), some (.int a2), none] [.int q1, .int a1] ([kR 0 v0] : List (List zE)).flatten
  refine AW.run hZ hRm [23, 46, 62, 70] 400 ?_
  show ((¬ (a1 = q1) → (¬ (a1 < 0 ∨ 6 ≤ Int32.toNatClampNeg a1) ∧ (((((R_pairRow v0) (Int32.toNatClampNeg a1)) = (-1)) → AW Z 0 0 70 [some (.ref 0), some (.int a1), some (.int a2), some (.int (a1 + 1))] [] ([kR 0 v0] : List (List zE)).flatten) ∧ (¬ (((R_pairRow v0) (Int32.toNatClampNeg a1)) = (-1)) → AW Z 0 0 62 [some (.ref 0), some (.int a1), some (.int a2), none] [.int a2, .int (a1 + 1), .ref 0] ([kR 0 v0] : List (List zE)).flatten)))) ∧ ((a1 = q1) → (((a2 ≤ (R_mostPairs v0)) → AW Z 0 0 46 [some (.ref 0), some (.int a1), some (.int a2), none] [] ([kR 0 v0] : List (List zE)).flatten) ∧ (¬ (a2 ≤ (R_mostPairs v0)) → AW Z 0 0 23 [some (.ref 0), some (.int a1), some (.int a2), some (.int 0)] [] ([kR 0 (R_mostPairs_s v0 a2)] : List (List zE)).flatten))))
  refine ⟨fun c2 => ?_, fun c2 => ?_⟩
  · rw [if_neg c2] at hf
    obtain ⟨b29, hf⟩ := zneed hf
    refine ⟨b29, ?_⟩
    refine ⟨fun c3 => ?_, fun c3 => ?_⟩
    · rw [if_pos c3] at hf
      obtain ⟨q23, h24, hf⟩ := zbind hf
      refine c_R_pairsFrom_L70 hZ hR (by omega) hN hRm hr_f_R_pairsFrom N N v0 a1 a2 (a1 + 1) (R_pairRow v0) (R_bestPairs v0) (R_mostPairs v0) q23 h24 ?_
      show AW Z 0 0 160 [some (.ref 0), some (.int a1), some (.int a2), none] [] ([kR 0 (R_s_pairRow_bestPairs_mostPairs v0 q23.1 q23.2.1 q23.2.2)] : List (List zE)).flatten
      refine AW.run hZ hRm [165] 400 ?_
      show AW Z 0 0 165 [some (.ref 0), some (.int a1), some (.int a2), none] [.int a2, .int (a1 + 1), .ref 0] ([kR 0 (R_s_pairRow_bestPairs_mostPairs v0 q23.1 q23.2.1 q23.2.2)] : List (List zE)).flatten
      obtain ⟨q25, h26, hf⟩ := zbind hf
      refine AW.callVc hZ hR hN (hr_f_R_pairsFrom (R_s_pairRow_bestPairs_mostPairs v0 q23.1 q23.2.1 q23.2.2) (a1 + 1) a2 q25 h26) zMX12_pairsFrom_ok rfl rfl zK_BorrowedLivesModel_441 zV_X12_pairsFrom rfl [25] [0] [0, 1, 2, 3, 4, 5, 6, 7, 8, 9, 10, 11, 12, 13, 14, 15, 16, 17, 18, 19, 20, 21, 22, 23, 24] rfl rfl rfl (by decide) (by decide) (by omega) (by decide) (Nat.zero_le _) (Nat.zero_le _) rfl rfl rfl rfl rfl ?_
      rintro v cc ⟨rfl, rfl⟩
      refine ⟨_, rfl, rfl, ?_⟩
      show AW Z 0 0 168 [some (.ref 0), some (.int a1), some (.int a2), none] [] ([kR 0 (R_s_pairRow_bestPairs_mostPairs v0 q25.1 q25.2.1 q25.2.2)] : List (List zE)).flatten
      cases hf
      exact AW.vret hZ hE rfl rfl rfl (Nat.le_refl 0) (Nat.le_refl 0) rfl ⟨rfl, rfl⟩
    · rw [if_neg c3] at hf
      obtain ⟨q27, h28, hf⟩ := zbind hf
      refine AW.callVc hZ hR hN (hr_f_R_pairsFrom v0 (a1 + 1) a2 q27 h28) zMX12_pairsFrom_ok rfl rfl zK_BorrowedLivesModel_441 zV_X12_pairsFrom rfl [25] [0] [0, 1, 2, 3, 4, 5, 6, 7, 8, 9, 10, 11, 12, 13, 14, 15, 16, 17, 18, 19, 20, 21, 22, 23, 24] rfl rfl rfl (by decide) (by decide) (by omega) (by decide) (Nat.zero_le _) (Nat.zero_le _) rfl rfl rfl rfl rfl ?_
      rintro v cc ⟨rfl, rfl⟩
      refine ⟨_, rfl, rfl, ?_⟩
      show AW Z 0 0 65 [some (.ref 0), some (.int a1), some (.int a2), none] [] ([kR 0 (R_s_pairRow_bestPairs_mostPairs v0 q27.1 q27.2.1 q27.2.2)] : List (List zE)).flatten
      cases hf
      exact AW.vret hZ hE rfl rfl rfl (Nat.le_refl 0) (Nat.le_refl 0) rfl ⟨rfl, rfl⟩
  · rw [if_pos c2] at hf
    refine ⟨fun c30 => ?_, fun c30 => ?_⟩
    · rw [if_pos c30] at hf
      cases hf
      exact AW.vret hZ hE rfl rfl rfl (Nat.le_refl 0) (Nat.le_refl 0) rfl ⟨rfl, rfl⟩
    · rw [if_neg c30] at hf
      obtain ⟨q35, h36, hf⟩ := zbind hf
      refine AW.forget [true, true, false, true] ?_
      show AW Z 0 0 23 [some (.ref 0), some (.int a1), none, some (.int 0)] [] ([kR 0 (R_mostPairs_s v0 a2)] : List (List zE)).flatten
      refine c_R_pairsFrom_L23 hZ hR (by omega) hN hRm hr_f_R_pairsFrom N N (R_mostPairs_s v0 a2) a1 0 (R_bestPairs v0) q35 h36 ?_
      show AW Z 0 0 46 [none, none, none, none] [] ([kR 0 (R_s_bestPairs_mostPairs v0 q35 a2)] : List (List zE)).flatten
      cases hf
      exact AW.vret hZ hE rfl rfl rfl (Nat.le_refl 0) (Nat.le_refl 0) rfl ⟨rfl, rfl⟩
set_option maxRecDepth 20000 in
set_option maxHeartbeats 4000000 in
theorem c_g_R_pairsFrom (N : Nat) : ∀ e : Nat, (∀ (v0 : VR) (a1 : Int32) (a2 : Int32) (R : (Nat → Int32) × (Nat → Int32) × Int32), (g_R_pairsFrom N e) v0 a1 a2 = some R → Ct zMX12_pairsFrom (e + 1) 0 0 0 [.ref 0, .int a1, .int a2] ([kR 0 v0] : List (List zE)).flatten (fun v cc => v = none ∧ cc = ([kR 0 (R_s_pairRow_bestPairs_mostPairs v0 R.1 R.2.1 R.2.2)] : List (List zE)).flatten)) := by
  intro e
  induction e with
  | zero => exact (fun _ _ _ R h => by cases h)
  | succ e ih =>
    exact (fun v0 a1 a2 R h => by
      have h9 := c_R_pairsFrom_b ih N v0 a1 a2 R h
      rw [show e + 1 + 1 = e + 2 by omega]
      exact h9)
set_option maxRecDepth 20000 in
set_option maxHeartbeats 4000000 in
theorem c_R_pairsFrom (e N : Nat) (v0 : VR) (a1 : Int32) (a2 : Int32) (R : (Nat → Int32) × (Nat → Int32) × Int32) (hf : f_R_pairsFrom e N v0 a1 a2 = some R) : Ct zMX12_pairsFrom (e + 1) 0 0 0 [.ref 0, .int a1, .int a2] ([kR 0 v0] : List (List zE)).flatten (fun v cc => v = none ∧ cc = ([kR 0 (R_s_pairRow_bestPairs_mostPairs v0 R.1 R.2.1 R.2.2)] : List (List zE)).flatten) := by
  exact (c_g_R_pairsFrom N e) v0 a1 a2 R hf
def f_R_pairs_L40 (N : Nat) : Nat → VR → Int32 → Int32 → Int32 → (Nat → Int32) → (Nat → Int32) → (Nat → Int32) → Option ((Nat → Int32) × (Nat → Int32) × (Nat → Int32))
  | 0, _, _, _, _, _, _, _ => none
  | fuel + 1, v0, y1, y2, x3, m_facts0, m_pile1, m_would2 => ((f_R_people N (R_s_facts_pile_would v0 m_facts0 m_pile1 m_would2)).bind (fun q5 => (if (q5 ≤ x3) then (some (m_facts0, m_pile1, m_would2)) else ((f_R_wishOf N (R_s_facts_pile_would v0 m_facts0 m_pile1 m_would2) y2 x3).bind (fun q7 => ((f_R_wishOf N (R_s_facts_pile_would v0 q7.2.1 q7.2.2 m_would2) y2 y2).bind (fun q8 => (if (((6 * y2) + x3) < 0 ∨ 36 ≤ Int32.toNatClampNeg ((6 * y2) + x3)) then none else (zlet ((upd m_would2 (Int32.toNatClampNeg ((6 * y2) + x3)) (vp_nar .boolean (if (q7.1 ≤ q8.1) then 0 else 1))) : (Nat → Int32)) (fun z11 => (f_R_pairs_L40 N fuel v0 y1 y2 (x3 + 1) q8.2.1 q8.2.2 z11)))))))))))
def f_R_pairs_L23 (N : Nat) : Nat → VR → Int32 → Int32 → (Nat → Int32) → (Nat → Int32) → (Nat → Int32) → (Nat → Int32) → Option ((Nat → Int32) × (Nat → Int32) × (Nat → Int32) × (Nat → Int32))
  | 0, _, _, _, _, _, _, _ => none
  | fuel + 1, v0, y1, x2, m_facts0, m_pile1, m_would2, m_pairRow3 => ((f_R_people N (R_s_facts_pile_would_pairRow v0 m_facts0 m_pile1 m_would2 m_pairRow3)).bind (fun q2 => (if (q2 ≤ x2) then (some (m_facts0, m_pile1, m_would2, m_pairRow3)) else (if (x2 < 0 ∨ 6 ≤ Int32.toNatClampNeg x2) then none else (zlet ((upd m_pairRow3 (Int32.toNatClampNeg x2) (-1)) : (Nat → Int32)) (fun z4 => ((f_R_pairs_L40 N N (R_s_facts_pile_would_pairRow v0 m_facts0 m_pile1 m_would2 z4) y1 x2 0 m_facts0 m_pile1 m_would2).bind (fun q16 => (f_R_pairs_L23 N fuel v0 y1 (x2 + 1) q16.1 q16.2.1 q16.2.2 z4)))))))))
def f_R_pairs (N : Nat) (v0 : VR) (a1 : Int32) : Option (Int32 × Int32 × (Nat → Int32) × (Nat → Int32) × (Nat → Int32) × (Nat → Int32) × (Nat → Int32) × Int32) := (if (a1 = (-1)) then ((f_R_pairs_L23 N N (R_thrown_s v0 0) a1 0 (R_facts v0) (R_pile v0) (R_would v0) (R_pairRow v0)).bind (fun q20 => ((f_R_pairsFrom 64 N (R_s_thrown_facts_pile_would_pairRow_mostPairs v0 0 q20.1 q20.2.1 q20.2.2.1 q20.2.2.2 (-1)) 0 0).bind (fun q22 => (if (0 ≤ a1) then (if (a1 < 0 ∨ 6 ≤ Int32.toNatClampNeg a1) then none else (some ((q22.2.1 (Int32.toNatClampNeg a1)), 0, q20.1, q20.2.1, q20.2.2.1, q22.1, q22.2.1, q22.2.2))) else (some (q22.2.2, 0, q20.1, q20.2.1, q20.2.2.1, q22.1, q22.2.1, q22.2.2))))))) else ((f_R_isPerson N (R_thrown_s v0 0) a1).bind (fun q26 => (if (q26 = 0) then (some ((-2), 0, (R_facts v0), (R_pile v0), (R_would v0), (R_pairRow v0), (R_bestPairs v0), (R_mostPairs v0))) else ((f_R_pairs_L23 N N (R_thrown_s v0 0) a1 0 (R_facts v0) (R_pile v0) (R_would v0) (R_pairRow v0)).bind (fun q28 => ((f_R_pairsFrom 64 N (R_s_thrown_facts_pile_would_pairRow_mostPairs v0 0 q28.1 q28.2.1 q28.2.2.1 q28.2.2.2 (-1)) 0 0).bind (fun q30 => (if (0 ≤ a1) then (if (a1 < 0 ∨ 6 ≤ Int32.toNatClampNeg a1) then none else (some ((q30.2.1 (Int32.toNatClampNeg a1)), 0, q28.1, q28.2.1, q28.2.2.1, q30.1, q30.2.1, q30.2.2))) else (some (q30.2.2, 0, q28.1, q28.2.1, q28.2.2.1, q30.1, q30.2.1, q30.2.2)))))))))))
set_option maxRecDepth 20000 in
set_option maxHeartbeats 4000000 in
theorem c_R_pairs_L40 {Z : zCtx} {D n0w nf mcw msw : Nat} (hZ : zOk Z zMX12_pairs) (hR : zCan Z D mcw msw) (hDd : 66 ≤ D) (hN : zNew Z n0w nf) (hRm : zRoom Z 0 0) (N : Nat) : ∀ (fuel : Nat) (v0 : VR) (y1 : Int32) (y2 : Int32) (x3 : Int32) (m_facts0 : (Nat → Int32)) (m_pile1 : (Nat → Int32)) (m_would2 : (Nat → Int32)) (q : ((Nat → Int32) × (Nat → Int32) × (Nat → Int32))), f_R_pairs_L40 N fuel v0 y1 y2 x3 m_facts0 m_pile1 m_would2 = some q → (AW Z 0 0 85 [some (.ref 0), some (.int y1), some (.int y2), none] [] ([kR 0 (R_s_facts_pile_would v0 q.1 q.2.1 q.2.2)] : List (List zE)).flatten) → AW Z 0 0 40 [some (.ref 0), some (.int y1), some (.int y2), some (.int x3)] [] ([kR 0 (R_s_facts_pile_would v0 m_facts0 m_pile1 m_would2)] : List (List zE)).flatten := by
  intro fuel
  induction fuel with
  | zero =>
    intro v0 y1 y2 x3 m_facts0 m_pile1 m_would2 q hf hk0
    simp [f_R_pairs_L40] at hf
  | succ fuel ih =>
    intro v0 y1 y2 x3 m_facts0 m_pile1 m_would2 q hf hk0
    rw [f_R_pairs_L40] at hf
    refine AW.run hZ hRm [42] 400 ?_
    show AW Z 0 0 42 [some (.ref 0), some (.int y1), some (.int y2), some (.int x3)] [.ref 0, .int x3] ([kR 0 (R_s_facts_pile_would v0 m_facts0 m_pile1 m_would2)] : List (List zE)).flatten
    obtain ⟨q5, h15, hf⟩ := zbind hf
    refine AW.callVc hZ hR hN (c_R_people N (R_s_facts_pile_would v0 m_facts0 m_pile1 m_would2) q5 h15) zMX12_people_ok rfl rfl zK_BorrowedLivesModel_291 zV_X12_people rfl [25] [0] [0, 1, 2, 3, 4, 5, 6, 7, 8, 9, 10, 11, 12, 13, 14, 15, 16, 17, 18, 19, 20, 21, 22, 23, 24] rfl rfl rfl (by decide) (by decide) (by omega) (by decide) (Nat.zero_le _) (Nat.zero_le _) rfl rfl rfl rfl rfl ?_
    rintro v cc ⟨rfl, rfl⟩
    refine ⟨_, rfl, rfl, ?_⟩
    show AW Z 0 0 45 [some (.ref 0), some (.int y1), some (.int y2), some (.int x3)] [.int q5, .int x3] ([kR 0 (R_s_facts_pile_would v0 m_facts0 m_pile1 m_would2)] : List (List zE)).flatten
    refine AW.run hZ hRm [61, 85] 400 ?_
    show (((q5 ≤ x3) → AW Z 0 0 85 [some (.ref 0), some (.int y1), some (.int y2), some (.int x3)] [] ([kR 0 (R_s_facts_pile_would v0 m_facts0 m_pile1 m_would2)] : List (List zE)).flatten) ∧ (¬ (q5 ≤ x3) → AW Z 0 0 61 [some (.ref 0), some (.int y1), some (.int y2), some (.int x3)] [.int x3, .int y2, .ref 0, .int ((6 * y2) + x3), .ref 20] ([kR 0 (R_s_facts_pile_would v0 m_facts0 m_pile1 m_would2)] : List (List zE)).flatten))
    refine ⟨fun c6 => ?_, fun c6 => ?_⟩
    · rw [if_pos c6] at hf
      cases hf
      refine AW.forget [true, true, true, false] ?_
      show AW Z 0 0 85 [some (.ref 0), some (.int y1), some (.int y2), none] [] ([kR 0 (R_s_facts_pile_would v0 m_facts0 m_pile1 m_would2)] : List (List zE)).flatten
      exact hk0
    · rw [if_neg c6] at hf
      obtain ⟨q7, h14, hf⟩ := zbind hf
      refine AW.callVc hZ hR hN (c_R_wishOf N (R_s_facts_pile_would v0 m_facts0 m_pile1 m_would2) y2 x3 q7 h14) zMX12_wishOf_ok rfl rfl zK_BorrowedLivesModel_444 zV_X12_wishOf rfl [25] [0] [0, 1, 2, 3, 4, 5, 6, 7, 8, 9, 10, 11, 12, 13, 14, 15, 16, 17, 18, 19, 20, 21, 22, 23, 24] rfl rfl rfl (by decide) (by decide) (by omega) (by decide) (Nat.zero_le _) (Nat.zero_le _) rfl rfl rfl rfl rfl ?_
      rintro v cc ⟨rfl, rfl⟩
      refine ⟨_, rfl, rfl, ?_⟩
      show AW Z 0 0 64 [some (.ref 0), some (.int y1), some (.int y2), some (.int x3)] [.int q7.1, .int ((6 * y2) + x3), .ref 20] ([kR 0 (R_s_facts_pile_would v0 q7.2.1 q7.2.2 m_would2)] : List (List zE)).flatten
      refine AW.run hZ hRm [67] 400 ?_
      show AW Z 0 0 67 [some (.ref 0), some (.int y1), some (.int y2), some (.int x3)] [.int y2, .int y2, .ref 0, .int q7.1, .int ((6 * y2) + x3), .ref 20] ([kR 0 (R_s_facts_pile_would v0 q7.2.1 q7.2.2 m_would2)] : List (List zE)).flatten
      obtain ⟨q8, h13, hf⟩ := zbind hf
      refine AW.callVc hZ hR hN (c_R_wishOf N (R_s_facts_pile_would v0 q7.2.1 q7.2.2 m_would2) y2 y2 q8 h13) zMX12_wishOf_ok rfl rfl zK_BorrowedLivesModel_444 zV_X12_wishOf rfl [25] [0] [0, 1, 2, 3, 4, 5, 6, 7, 8, 9, 10, 11, 12, 13, 14, 15, 16, 17, 18, 19, 20, 21, 22, 23, 24] rfl rfl rfl (by decide) (by decide) (by omega) (by decide) (Nat.zero_le _) (Nat.zero_le _) rfl rfl rfl rfl rfl ?_
      rintro v cc ⟨rfl, rfl⟩
      refine ⟨_, rfl, rfl, ?_⟩
      show AW Z 0 0 70 [some (.ref 0), some (.int y1), some (.int y2), some (.int x3)] [.int q8.1, .int q7.1, .int ((6 * y2) + x3), .ref 20] ([kR 0 (R_s_facts_pile_would v0 q8.2.1 q8.2.2 m_would2)] : List (List zE)).flatten
      suffices H9 : AW Z 0 0 78 [some (.ref 0), some (.int y1), some (.int y2), some (.int x3)] [.int (if (q7.1 ≤ q8.1) then 0 else 1), .int ((6 * y2) + x3), .ref 20] ([kR 0 (R_s_facts_pile_would v0 q8.2.1 q8.2.2 m_would2)] : List (List zE)).flatten from by
        refine AW.run hZ hRm [78] 400 ?_
        show (((q7.1 ≤ q8.1) → AW Z 0 0 78 [some (.ref 0), some (.int y1), some (.int y2), some (.int x3)] [.int 0, .int ((6 * y2) + x3), .ref 20] ([kR 0 (R_s_facts_pile_would v0 q8.2.1 q8.2.2 m_would2)] : List (List zE)).flatten) ∧ (¬ (q7.1 ≤ q8.1) → AW Z 0 0 78 [some (.ref 0), some (.int y1), some (.int y2), some (.int x3)] [.int 1, .int ((6 * y2) + x3), .ref 20] ([kR 0 (R_s_facts_pile_would v0 q8.2.1 q8.2.2 m_would2)] : List (List zE)).flatten))
        refine ⟨fun c10 => ?_, fun c10 => ?_⟩
        · simpa only [if_pos c10] using H9
        · simpa only [if_neg c10] using H9
      refine AW.run hZ hRm [79] 400 ?_
      show (¬ (((6 * y2) + x3) < 0 ∨ 36 ≤ Int32.toNatClampNeg ((6 * y2) + x3)) ∧ AW Z 0 0 79 [some (.ref 0), some (.int y1), some (.int y2), some (.int x3)] [] ([kR 0 (R_s_facts_pile_would v0 q8.2.1 q8.2.2 (upd m_would2 (Int32.toNatClampNeg ((6 * y2) + x3)) (vp_nar .boolean (if (q7.1 ≤ q8.1) then 0 else 1))))] : List (List zE)).flatten)
      obtain ⟨b12, hf⟩ := zneed hf
      refine ⟨b12, ?_⟩
      replace hf := zlet_gen hf
      generalize ((upd m_would2 (Int32.toNatClampNeg ((6 * y2) + x3)) (vp_nar .boolean (if (q7.1 ≤ q8.1) then 0 else 1))) : (Nat → Int32)) = z11 at hf ⊢
      as_aux_lemma =>
        refine AW.run hZ hRm [40] 400 ?_
        show AW Z 0 0 40 [some (.ref 0), some (.int y1), some (.int y2), some (.int (x3 + 1))] [] ([kR 0 (R_s_facts_pile_would v0 q8.2.1 q8.2.2 z11)] : List (List zE)).flatten
        exact ih v0 y1 y2 (x3 + 1) q8.2.1 q8.2.2 z11 q hf hk0
set_option maxRecDepth 20000 in
set_option maxHeartbeats 4000000 in
theorem c_R_pairs_L23 {Z : zCtx} {D n0w nf mcw msw : Nat} (hZ : zOk Z zMX12_pairs) (hR : zCan Z D mcw msw) (hDd : 66 ≤ D) (hN : zNew Z n0w nf) (hRm : zRoom Z 0 0) (N : Nat) : ∀ (fuel : Nat) (v0 : VR) (y1 : Int32) (x2 : Int32) (m_facts0 : (Nat → Int32)) (m_pile1 : (Nat → Int32)) (m_would2 : (Nat → Int32)) (m_pairRow3 : (Nat → Int32)) (q : ((Nat → Int32) × (Nat → Int32) × (Nat → Int32) × (Nat → Int32))), f_R_pairs_L23 N fuel v0 y1 x2 m_facts0 m_pile1 m_would2 m_pairRow3 = some q → (AW Z 0 0 91 [some (.ref 0), some (.int y1), none, none] [] ([kR 0 (R_s_facts_pile_would_pairRow v0 q.1 q.2.1 q.2.2.1 q.2.2.2)] : List (List zE)).flatten) → AW Z 0 0 23 [some (.ref 0), some (.int y1), some (.int x2), none] [] ([kR 0 (R_s_facts_pile_would_pairRow v0 m_facts0 m_pile1 m_would2 m_pairRow3)] : List (List zE)).flatten := by
  intro fuel
  induction fuel with
  | zero =>
    intro v0 y1 x2 m_facts0 m_pile1 m_would2 m_pairRow3 q hf hk0
    simp [f_R_pairs_L23] at hf
  | succ fuel ih =>
    intro v0 y1 x2 m_facts0 m_pile1 m_would2 m_pairRow3 q hf hk0
    rw [f_R_pairs_L23] at hf
    refine AW.run hZ hRm [25] 400 ?_
    show AW Z 0 0 25 [some (.ref 0), some (.int y1), some (.int x2), none] [.ref 0, .int x2] ([kR 0 (R_s_facts_pile_would_pairRow v0 m_facts0 m_pile1 m_would2 m_pairRow3)] : List (List zE)).flatten
    obtain ⟨q2, h19, hf⟩ := zbind hf
    refine AW.callVc hZ hR hN (c_R_people N (R_s_facts_pile_would_pairRow v0 m_facts0 m_pile1 m_would2 m_pairRow3) q2 h19) zMX12_people_ok rfl rfl zK_BorrowedLivesModel_291 zV_X12_people rfl [25] [0] [0, 1, 2, 3, 4, 5, 6, 7, 8, 9, 10, 11, 12, 13, 14, 15, 16, 17, 18, 19, 20, 21, 22, 23, 24] rfl rfl rfl (by decide) (by decide) (by omega) (by decide) (Nat.zero_le _) (Nat.zero_le _) rfl rfl rfl rfl rfl ?_
    rintro v cc ⟨rfl, rfl⟩
    refine ⟨_, rfl, rfl, ?_⟩
    show AW Z 0 0 28 [some (.ref 0), some (.int y1), some (.int x2), none] [.int q2, .int x2] ([kR 0 (R_s_facts_pile_would_pairRow v0 m_facts0 m_pile1 m_would2 m_pairRow3)] : List (List zE)).flatten
    refine AW.run hZ hRm [38, 91] 400 ?_
    show (((q2 ≤ x2) → AW Z 0 0 91 [some (.ref 0), some (.int y1), some (.int x2), none] [] ([kR 0 (R_s_facts_pile_would_pairRow v0 m_facts0 m_pile1 m_would2 m_pairRow3)] : List (List zE)).flatten) ∧ (¬ (q2 ≤ x2) → (¬ (x2 < 0 ∨ 6 ≤ Int32.toNatClampNeg x2) ∧ AW Z 0 0 38 [some (.ref 0), some (.int y1), some (.int x2), none] [] ([kR 0 (R_s_facts_pile_would_pairRow v0 m_facts0 m_pile1 m_would2 (upd m_pairRow3 (Int32.toNatClampNeg x2) (-1)))] : List (List zE)).flatten)))
    refine ⟨fun c3 => ?_, fun c3 => ?_⟩
    · rw [if_pos c3] at hf
      cases hf
      refine AW.forget [true, true, false, false] ?_
      show AW Z 0 0 91 [some (.ref 0), some (.int y1), none, none] [] ([kR 0 (R_s_facts_pile_would_pairRow v0 m_facts0 m_pile1 m_would2 m_pairRow3)] : List (List zE)).flatten
      exact hk0
    · rw [if_neg c3] at hf
      obtain ⟨b18, hf⟩ := zneed hf
      refine ⟨b18, ?_⟩
      replace hf := zlet_gen hf
      generalize ((upd m_pairRow3 (Int32.toNatClampNeg x2) (-1)) : (Nat → Int32)) = z4 at hf ⊢
      as_aux_lemma =>
        refine AW.run hZ hRm [40] 400 ?_
        show AW Z 0 0 40 [some (.ref 0), some (.int y1), some (.int x2), some (.int 0)] [] ([kR 0 (R_s_facts_pile_would_pairRow v0 m_facts0 m_pile1 m_would2 z4)] : List (List zE)).flatten
        obtain ⟨q16, h17, hf⟩ := zbind hf
        refine c_R_pairs_L40 hZ hR (by omega) hN hRm N N (R_s_facts_pile_would_pairRow v0 m_facts0 m_pile1 m_would2 z4) y1 x2 0 m_facts0 m_pile1 m_would2 q16 h17 ?_
        show AW Z 0 0 85 [some (.ref 0), some (.int y1), some (.int x2), none] [] ([kR 0 (R_s_facts_pile_would_pairRow v0 q16.1 q16.2.1 q16.2.2 z4)] : List (List zE)).flatten
        refine AW.run hZ hRm [23] 400 ?_
        show AW Z 0 0 23 [some (.ref 0), some (.int y1), some (.int (x2 + 1)), none] [] ([kR 0 (R_s_facts_pile_would_pairRow v0 q16.1 q16.2.1 q16.2.2 z4)] : List (List zE)).flatten
        exact ih v0 y1 (x2 + 1) q16.1 q16.2.1 q16.2.2 z4 q hf hk0
set_option maxRecDepth 20000 in
set_option maxHeartbeats 4000000 in
theorem c_R_pairs (N : Nat) (v0 : VR) (a1 : Int32) (R : Int32 × Int32 × (Nat → Int32) × (Nat → Int32) × (Nat → Int32) × (Nat → Int32) × (Nat → Int32) × Int32) (hf : f_R_pairs N v0 a1 = some R) : Ct zMX12_pairs 66 0 0 0 [.ref 0, .int a1] ([kR 0 v0] : List (List zE)).flatten (fun v cc => v = some (.int R.1) ∧ cc = ([kR 0 (R_s_thrown_facts_pile_would_pairRow_bestPairs_mostPairs v0 R.2.1 R.2.2.1 R.2.2.2.1 R.2.2.2.2.1 R.2.2.2.2.2.1 R.2.2.2.2.2.2.1 R.2.2.2.2.2.2.2)] : List (List zE)).flatten) := by
  refine Ct.of zMX12_pairs_ok (by decide) (Nat.le_of_ble_eq_true rfl) ?_
  intro Z hZ hR hN hE
  have hRm : zRoom Z 0 0 := zRoom0 Z
  unfold f_R_pairs at hf
  show AW Z 0 0 0 [some (.ref 0), some (.int a1), none, none] [] ([kR 0 v0] : List (List zE)).flatten
  refine AW.run hZ hRm [12, 23] 400 ?_
  show (((a1 = (-1)) → AW Z 0 0 23 [some (.ref 0), some (.int a1), some (.int 0), none] [] ([kR 0 (R_thrown_s v0 0)] : List (List zE)).flatten) ∧ (¬ (a1 = (-1)) → AW Z 0 0 12 [some (.ref 0), some (.int a1), none, none] [.int a1, .ref 0] ([kR 0 (R_thrown_s v0 0)] : List (List zE)).flatten))
  refine ⟨fun c1 => ?_, fun c1 => ?_⟩
  · rw [if_pos c1] at hf
    obtain ⟨q20, h21, hf⟩ := zbind hf
    refine c_R_pairs_L23 hZ hR (by omega) hN hRm N N (R_thrown_s v0 0) a1 0 (R_facts v0) (R_pile v0) (R_would v0) (R_pairRow v0) q20 h21 ?_
    show AW Z 0 0 91 [some (.ref 0), some (.int a1), none, none] [] ([kR 0 (R_s_thrown_facts_pile_would_pairRow v0 0 q20.1 q20.2.1 q20.2.2.1 q20.2.2.2)] : List (List zE)).flatten
    refine AW.run hZ hRm [99] 400 ?_
    show AW Z 0 0 99 [some (.ref 0), some (.int a1), none, none] [.int 0, .int 0, .ref 0] ([kR 0 (R_s_thrown_facts_pile_would_pairRow_mostPairs v0 0 q20.1 q20.2.1 q20.2.2.1 q20.2.2.2 (-1))] : List (List zE)).flatten
    obtain ⟨q22, h25, hf⟩ := zbind hf
    refine AW.callVc hZ hR hN (c_R_pairsFrom 64 N (R_s_thrown_facts_pile_would_pairRow_mostPairs v0 0 q20.1 q20.2.1 q20.2.2.1 q20.2.2.2 (-1)) 0 0 q22 h25) zMX12_pairsFrom_ok rfl rfl zK_BorrowedLivesModel_441 zV_X12_pairsFrom rfl [25] [0] [0, 1, 2, 3, 4, 5, 6, 7, 8, 9, 10, 11, 12, 13, 14, 15, 16, 17, 18, 19, 20, 21, 22, 23, 24] rfl rfl rfl (by decide) (by decide) (by omega) (by decide) (Nat.zero_le _) (Nat.zero_le _) rfl rfl rfl rfl rfl ?_
    rintro v cc ⟨rfl, rfl⟩
    refine ⟨_, rfl, rfl, ?_⟩
    show AW Z 0 0 102 [some (.ref 0), some (.int a1), none, none] [] ([kR 0 (R_s_thrown_facts_pile_would_pairRow_bestPairs_mostPairs v0 0 q20.1 q20.2.1 q20.2.2.1 q22.1 q22.2.1 q22.2.2)] : List (List zE)).flatten
    refine AW.run hZ hRm [119] 400 ?_
    show (((0 ≤ a1) → (¬ (a1 < 0 ∨ 6 ≤ Int32.toNatClampNeg a1) ∧ AW Z 0 0 119 [some (.ref 0), some (.int a1), none, none] [.int (q22.2.1 (Int32.toNatClampNeg a1))] ([kR 0 (R_s_thrown_facts_pile_would_pairRow_bestPairs_mostPairs v0 0 q20.1 q20.2.1 q20.2.2.1 q22.1 q22.2.1 q22.2.2)] : List (List zE)).flatten)) ∧ (¬ (0 ≤ a1) → AW Z 0 0 119 [some (.ref 0), some (.int a1), none, none] [.int q22.2.2] ([kR 0 (R_s_thrown_facts_pile_would_pairRow_bestPairs_mostPairs v0 0 q20.1 q20.2.1 q20.2.2.1 q22.1 q22.2.1 q22.2.2)] : List (List zE)).flatten))
    refine ⟨fun c23 => ?_, fun c23 => ?_⟩
    · rw [if_pos c23] at hf
      obtain ⟨b24, hf⟩ := zneed hf
      refine ⟨b24, ?_⟩
      cases hf
      exact AW.iret hZ hE rfl rfl rfl rfl (Nat.le_refl 0) (Nat.le_refl 0) rfl ⟨rfl, rfl⟩
    · rw [if_neg c23] at hf
      cases hf
      exact AW.iret hZ hE rfl rfl rfl rfl (Nat.le_refl 0) (Nat.le_refl 0) rfl ⟨rfl, rfl⟩
  · rw [if_neg c1] at hf
    obtain ⟨q26, h34, hf⟩ := zbind hf
    refine AW.callVc hZ hR hN (c_R_isPerson N (R_thrown_s v0 0) a1 q26 h34) zMX12_isPerson_ok rfl rfl zK_BorrowedLivesModel_356 zV_X12_isPerson rfl [25] [0] [0, 1, 2, 3, 4, 5, 6, 7, 8, 9, 10, 11, 12, 13, 14, 15, 16, 17, 18, 19, 20, 21, 22, 23, 24] rfl rfl rfl (by decide) (by decide) (by omega) (by decide) (Nat.zero_le _) (Nat.zero_le _) rfl rfl rfl rfl rfl ?_
    rintro v cc ⟨rfl, rfl⟩
    refine ⟨_, rfl, rfl, ?_⟩
    show AW Z 0 0 15 [some (.ref 0), some (.int a1), none, none] [.int q26] ([kR 0 (R_thrown_s v0 0)] : List (List zE)).flatten
    refine AW.run hZ hRm [20, 23] 400 ?_
    show ((¬ (q26 = 0) → AW Z 0 0 23 [some (.ref 0), some (.int a1), some (.int 0), none] [] ([kR 0 (R_thrown_s v0 0)] : List (List zE)).flatten) ∧ ((q26 = 0) → AW Z 0 0 20 [some (.ref 0), some (.int a1), none, none] [.int (-2)] ([kR 0 (R_thrown_s v0 0)] : List (List zE)).flatten))
    refine ⟨fun c27 => ?_, fun c27 => ?_⟩
    · rw [if_neg c27] at hf
      obtain ⟨q28, h29, hf⟩ := zbind hf
      refine c_R_pairs_L23 hZ hR (by omega) hN hRm N N (R_thrown_s v0 0) a1 0 (R_facts v0) (R_pile v0) (R_would v0) (R_pairRow v0) q28 h29 ?_
      show AW Z 0 0 91 [some (.ref 0), some (.int a1), none, none] [] ([kR 0 (R_s_thrown_facts_pile_would_pairRow v0 0 q28.1 q28.2.1 q28.2.2.1 q28.2.2.2)] : List (List zE)).flatten
      refine AW.run hZ hRm [99] 400 ?_
      show AW Z 0 0 99 [some (.ref 0), some (.int a1), none, none] [.int 0, .int 0, .ref 0] ([kR 0 (R_s_thrown_facts_pile_would_pairRow_mostPairs v0 0 q28.1 q28.2.1 q28.2.2.1 q28.2.2.2 (-1))] : List (List zE)).flatten
      obtain ⟨q30, h33, hf⟩ := zbind hf
      refine AW.callVc hZ hR hN (c_R_pairsFrom 64 N (R_s_thrown_facts_pile_would_pairRow_mostPairs v0 0 q28.1 q28.2.1 q28.2.2.1 q28.2.2.2 (-1)) 0 0 q30 h33) zMX12_pairsFrom_ok rfl rfl zK_BorrowedLivesModel_441 zV_X12_pairsFrom rfl [25] [0] [0, 1, 2, 3, 4, 5, 6, 7, 8, 9, 10, 11, 12, 13, 14, 15, 16, 17, 18, 19, 20, 21, 22, 23, 24] rfl rfl rfl (by decide) (by decide) (by omega) (by decide) (Nat.zero_le _) (Nat.zero_le _) rfl rfl rfl rfl rfl ?_
      rintro v cc ⟨rfl, rfl⟩
      refine ⟨_, rfl, rfl, ?_⟩
      show AW Z 0 0 102 [some (.ref 0), some (.int a1), none, none] [] ([kR 0 (R_s_thrown_facts_pile_would_pairRow_bestPairs_mostPairs v0 0 q28.1 q28.2.1 q28.2.2.1 q30.1 q30.2.1 q30.2.2)] : List (List zE)).flatten
      refine AW.run hZ hRm [119] 400 ?_
      show (((0 ≤ a1) → (¬ (a1 < 0 ∨ 6 ≤ Int32.toNatClampNeg a1) ∧ AW Z 0 0 119 [some (.ref 0), some (.int a1), none, none] [.int (q30.2.1 (Int32.toNatClampNeg a1))] ([kR 0 (R_s_thrown_facts_pile_would_pairRow_bestPairs_mostPairs v0 0 q28.1 q28.2.1 q28.2.2.1 q30.1 q30.2.1 q30.2.2)] : List (List zE)).flatten)) ∧ (¬ (0 ≤ a1) → AW Z 0 0 119 [some (.ref 0), some (.int a1), none, none] [.int q30.2.2] ([kR 0 (R_s_thrown_facts_pile_would_pairRow_bestPairs_mostPairs v0 0 q28.1 q28.2.1 q28.2.2.1 q30.1 q30.2.1 q30.2.2)] : List (List zE)).flatten))
      refine ⟨fun c31 => ?_, fun c31 => ?_⟩
      · rw [if_pos c31] at hf
        obtain ⟨b32, hf⟩ := zneed hf
        refine ⟨b32, ?_⟩
        cases hf
        exact AW.iret hZ hE rfl rfl rfl rfl (Nat.le_refl 0) (Nat.le_refl 0) rfl ⟨rfl, rfl⟩
      · rw [if_neg c31] at hf
        cases hf
        exact AW.iret hZ hE rfl rfl rfl rfl (Nat.le_refl 0) (Nat.le_refl 0) rfl ⟨rfl, rfl⟩
    · rw [if_pos c27] at hf
      cases hf
      exact AW.iret hZ hE rfl rfl rfl rfl (Nat.le_refl 0) (Nat.le_refl 0) rfl ⟨rfl, rfl⟩
def f_R_tale (N : Nat) (v0 : VR) (a1 : Int32) (a2 : Int32) (a3 : Int32) : Option (Int32 × Int32 × (Nat → Int32)) := ((f_R_isPerson N (R_thrown_s v0 0) a1).bind (fun q1 => (if (q1 = 0) then (some (0, 0, (R_state v0))) else ((f_R_within N a2 1 7).bind (fun q3 => (if (q3 = 0) then (some (0, 0, (R_state v0))) else ((f_R_within N a3 0 9999).bind (fun q5 => (if (q5 = 0) then (some (0, 0, (R_state v0))) else (if (((R_state v0) (Int32.toNatClampNeg 46)) = 8) then (some (0, 0, (R_state v0))) else (if ((47 + (3 * ((R_state v0) (Int32.toNatClampNeg 46)))) < 0 ∨ 1656 ≤ Int32.toNatClampNeg (47 + (3 * ((R_state v0) (Int32.toNatClampNeg 46))))) then none else (zlet ((upd (R_state v0) (Int32.toNatClampNeg (47 + (3 * ((R_state v0) (Int32.toNatClampNeg 46))))) a1) : (Nat → Int32)) (fun z8 => (if (((47 + (3 * ((R_state v0) (Int32.toNatClampNeg 46)))) + 1) < 0 ∨ 1656 ≤ Int32.toNatClampNeg ((47 + (3 * ((R_state v0) (Int32.toNatClampNeg 46)))) + 1)) then none else (zlet ((upd z8 (Int32.toNatClampNeg ((47 + (3 * ((R_state v0) (Int32.toNatClampNeg 46)))) + 1)) a2) : (Nat → Int32)) (fun z9 => (if (((47 + (3 * ((R_state v0) (Int32.toNatClampNeg 46)))) + 2) < 0 ∨ 1656 ≤ Int32.toNatClampNeg ((47 + (3 * ((R_state v0) (Int32.toNatClampNeg 46)))) + 2)) then none else (zlet ((upd z9 (Int32.toNatClampNeg ((47 + (3 * ((R_state v0) (Int32.toNatClampNeg 46)))) + 2)) a3) : (Nat → Int32)) (fun z10 => (zlet ((upd z10 (Int32.toNatClampNeg 46) ((z10 (Int32.toNatClampNeg 46)) + 1)) : (Nat → Int32)) (fun z11 => (some (1, 0, z11)))))))))))))))))))))))
set_option maxRecDepth 20000 in
set_option maxHeartbeats 4000000 in
theorem c_R_tale (N : Nat) (v0 : VR) (a1 : Int32) (a2 : Int32) (a3 : Int32) (R : Int32 × Int32 × (Nat → Int32)) (hf : f_R_tale N v0 a1 a2 a3 = some R) : Ct zMX12_tale 3 0 0 0 [.ref 0, .int a1, .int a2, .int a3] ([kR 0 v0] : List (List zE)).flatten (fun v cc => v = some (.int R.1) ∧ cc = ([kR 0 (R_s_thrown_state v0 R.2.1 R.2.2)] : List (List zE)).flatten) := by
  refine Ct.of zMX12_tale_ok (by decide) (Nat.le_of_ble_eq_true rfl) ?_
  intro Z hZ hR hN hE
  have hRm : zRoom Z 0 0 := zRoom0 Z
  unfold f_R_tale at hf
  show AW Z 0 0 0 [some (.ref 0), some (.int a1), some (.int a2), some (.int a3), none] [] ([kR 0 v0] : List (List zE)).flatten
  refine AW.run hZ hRm [7] 400 ?_
  show AW Z 0 0 7 [some (.ref 0), some (.int a1), some (.int a2), some (.int a3), none] [.int a1, .ref 0] ([kR 0 (R_thrown_s v0 0)] : List (List zE)).flatten
  obtain ⟨q1, h17, hf⟩ := zbind hf
  refine AW.callVc hZ hR hN (c_R_isPerson N (R_thrown_s v0 0) a1 q1 h17) zMX12_isPerson_ok rfl rfl zK_BorrowedLivesModel_356 zV_X12_isPerson rfl [25] [0] [0, 1, 2, 3, 4, 5, 6, 7, 8, 9, 10, 11, 12, 13, 14, 15, 16, 17, 18, 19, 20, 21, 22, 23, 24] rfl rfl rfl (by decide) (by decide) (by omega) (by decide) (Nat.zero_le _) (Nat.zero_le _) rfl rfl rfl rfl rfl ?_
  rintro v cc ⟨rfl, rfl⟩
  refine ⟨_, rfl, rfl, ?_⟩
  show AW Z 0 0 10 [some (.ref 0), some (.int a1), some (.int a2), some (.int a3), none] [.int q1] ([kR 0 (R_thrown_s v0 0)] : List (List zE)).flatten
  refine AW.run hZ hRm [17, 47] 400 ?_
  show (((q1 = 0) → AW Z 0 0 47 [some (.ref 0), some (.int a1), some (.int a2), some (.int a3), none] [.int 0] ([kR 0 (R_thrown_s v0 0)] : List (List zE)).flatten) ∧ (¬ (q1 = 0) → AW Z 0 0 17 [some (.ref 0), some (.int a1), some (.int a2), some (.int a3), none] [.int 7, .int 1, .int a2] ([kR 0 (R_thrown_s v0 0)] : List (List zE)).flatten))
  refine ⟨fun c2 => ?_, fun c2 => ?_⟩
  · rw [if_pos c2] at hf
    cases hf
    exact AW.iret hZ hE rfl rfl rfl rfl (Nat.le_refl 0) (Nat.le_refl 0) rfl ⟨rfl, rfl⟩
  · rw [if_neg c2] at hf
    obtain ⟨q3, h16, hf⟩ := zbind hf
    refine AW.callSc hZ hR hN (c_R_within N a2 1 7 q3 h16) zMX12_within_ok rfl rfl zK_BorrowedLivesModel_359 zV_X12_within rfl [25] [] [] rfl rfl rfl (by decide) (by decide) (by omega) (by decide) (Nat.zero_le _) (Nat.zero_le _) rfl rfl ?_
    rintro v cc ⟨rfl, rfl⟩
    refine ⟨_, rfl, rfl, ?_⟩
    show AW Z 0 0 20 [some (.ref 0), some (.int a1), some (.int a2), some (.int a3), none] [.int q3] ([kR 0 (R_thrown_s v0 0)] : List (List zE)).flatten
    refine AW.run hZ hRm [28, 47] 400 ?_
    show (((q3 = 0) → AW Z 0 0 47 [some (.ref 0), some (.int a1), some (.int a2), some (.int a3), none] [.int 0] ([kR 0 (R_thrown_s v0 0)] : List (List zE)).flatten) ∧ (¬ (q3 = 0) → AW Z 0 0 28 [some (.ref 0), some (.int a1), some (.int a2), some (.int a3), none] [.int 9999, .int 0, .int a3] ([kR 0 (R_thrown_s v0 0)] : List (List zE)).flatten))
    refine ⟨fun c4 => ?_, fun c4 => ?_⟩
    · rw [if_pos c4] at hf
      cases hf
      exact AW.iret hZ hE rfl rfl rfl rfl (Nat.le_refl 0) (Nat.le_refl 0) rfl ⟨rfl, rfl⟩
    · rw [if_neg c4] at hf
      obtain ⟨q5, h15, hf⟩ := zbind hf
      refine AW.callSc hZ hR hN (c_R_within N a3 0 9999 q5 h15) zMX12_within_ok rfl rfl zK_BorrowedLivesModel_359 zV_X12_within rfl [25] [] [] rfl rfl rfl (by decide) (by decide) (by omega) (by decide) (Nat.zero_le _) (Nat.zero_le _) rfl rfl ?_
      rintro v cc ⟨rfl, rfl⟩
      refine ⟨_, rfl, rfl, ?_⟩
      show AW Z 0 0 31 [some (.ref 0), some (.int a1), some (.int a2), some (.int a3), none] [.int q5] ([kR 0 (R_thrown_s v0 0)] : List (List zE)).flatten
      refine AW.run hZ hRm [47, 70] 400 ?_
      show (((q5 = 0) → AW Z 0 0 47 [some (.ref 0), some (.int a1), some (.int a2), some (.int a3), none] [.int 0] ([kR 0 (R_thrown_s v0 0)] : List (List zE)).flatten) ∧ (¬ (q5 = 0) → (¬ ((46 : Int32) < 0 ∨ 1656 ≤ Int32.toNatClampNeg 46) ∧ ((¬ (((R_state v0) (Int32.toNatClampNeg 46)) = 8) → (¬ ((46 : Int32) < 0 ∨ 1656 ≤ Int32.toNatClampNeg 46) ∧ (¬ ((47 + (3 * ((R_state v0) (Int32.toNatClampNeg 46)))) < 0 ∨ 1656 ≤ Int32.toNatClampNeg (47 + (3 * ((R_state v0) (Int32.toNatClampNeg 46))))) ∧ AW Z 0 0 70 [some (.ref 0), some (.int a1), some (.int a2), some (.int a3), some (.int (47 + (3 * ((R_state v0) (Int32.toNatClampNeg 46)))))] [] ([kR 0 (R_s_thrown_state v0 0 (upd (R_state v0) (Int32.toNatClampNeg (47 + (3 * ((R_state v0) (Int32.toNatClampNeg 46))))) a1))] : List (List zE)).flatten))) ∧ ((((R_state v0) (Int32.toNatClampNeg 46)) = 8) → AW Z 0 0 47 [some (.ref 0), some (.int a1), some (.int a2), some (.int a3), none] [.int 0] ([kR 0 (R_thrown_s v0 0)] : List (List zE)).flatten)))))
      refine ⟨fun c6 => ?_, fun c6 => ?_⟩
      · rw [if_pos c6] at hf
        cases hf
        exact AW.iret hZ hE rfl rfl rfl rfl (Nat.le_refl 0) (Nat.le_refl 0) rfl ⟨rfl, rfl⟩
      · rw [if_neg c6] at hf
        refine ⟨(by decide), ?_⟩
        refine ⟨fun c7 => ?_, fun c7 => ?_⟩
        · rw [if_neg c7] at hf
          refine ⟨(by decide), ?_⟩
          obtain ⟨b14, hf⟩ := zneed hf
          refine ⟨b14, ?_⟩
          replace hf := zlet_gen hf
          generalize ((upd (R_state v0) (Int32.toNatClampNeg (47 + (3 * ((R_state v0) (Int32.toNatClampNeg 46))))) a1) : (Nat → Int32)) = z8 at hf ⊢
          as_aux_lemma =>
            refine AW.run hZ hRm [80] 400 ?_
            show (¬ (((47 + (3 * ((R_state v0) (Int32.toNatClampNeg 46)))) + 1) < 0 ∨ 1656 ≤ Int32.toNatClampNeg ((47 + (3 * ((R_state v0) (Int32.toNatClampNeg 46)))) + 1)) ∧ AW Z 0 0 80 [some (.ref 0), some (.int a1), some (.int a2), some (.int a3), some (.int (47 + (3 * ((R_state v0) (Int32.toNatClampNeg 46)))))] [] ([kR 0 (R_s_thrown_state v0 0 (upd z8 (Int32.toNatClampNeg ((47 + (3 * ((R_state v0) (Int32.toNatClampNeg 46)))) + 1)) a2))] : List (List zE)).flatten)
            obtain ⟨b13, hf⟩ := zneed hf
            refine ⟨b13, ?_⟩
            replace hf := zlet_gen hf
            generalize ((upd z8 (Int32.toNatClampNeg ((47 + (3 * ((R_state v0) (Int32.toNatClampNeg 46)))) + 1)) a2) : (Nat → Int32)) = z9 at hf ⊢
            as_aux_lemma =>
              refine AW.run hZ hRm [90] 400 ?_
              show (¬ (((47 + (3 * ((R_state v0) (Int32.toNatClampNeg 46)))) + 2) < 0 ∨ 1656 ≤ Int32.toNatClampNeg ((47 + (3 * ((R_state v0) (Int32.toNatClampNeg 46)))) + 2)) ∧ AW Z 0 0 90 [some (.ref 0), some (.int a1), some (.int a2), some (.int a3), some (.int (47 + (3 * ((R_state v0) (Int32.toNatClampNeg 46)))))] [] ([kR 0 (R_s_thrown_state v0 0 (upd z9 (Int32.toNatClampNeg ((47 + (3 * ((R_state v0) (Int32.toNatClampNeg 46)))) + 2)) a3))] : List (List zE)).flatten)
              obtain ⟨b12, hf⟩ := zneed hf
              refine ⟨b12, ?_⟩
              replace hf := zlet_gen hf
              generalize ((upd z9 (Int32.toNatClampNeg ((47 + (3 * ((R_state v0) (Int32.toNatClampNeg 46)))) + 2)) a3) : (Nat → Int32)) = z10 at hf ⊢
              as_aux_lemma =>
                refine AW.run hZ hRm [101] 400 ?_
                show (¬ ((46 : Int32) < 0 ∨ 1656 ≤ Int32.toNatClampNeg 46) ∧ (¬ ((46 : Int32) < 0 ∨ 1656 ≤ Int32.toNatClampNeg 46) ∧ AW Z 0 0 101 [some (.ref 0), some (.int a1), some (.int a2), some (.int a3), some (.int (47 + (3 * ((R_state v0) (Int32.toNatClampNeg 46)))))] [] ([kR 0 (R_s_thrown_state v0 0 (upd z10 (Int32.toNatClampNeg 46) ((z10 (Int32.toNatClampNeg 46)) + 1)))] : List (List zE)).flatten))
                refine ⟨(by decide), ?_⟩
                refine ⟨(by decide), ?_⟩
                replace hf := zlet_gen hf
                generalize ((upd z10 (Int32.toNatClampNeg 46) ((z10 (Int32.toNatClampNeg 46)) + 1)) : (Nat → Int32)) = z11 at hf ⊢
                as_aux_lemma =>
                  refine AW.run hZ hRm [102] 400 ?_
                  show AW Z 0 0 102 [some (.ref 0), some (.int a1), some (.int a2), some (.int a3), some (.int (47 + (3 * ((R_state v0) (Int32.toNatClampNeg 46)))))] [.int 1] ([kR 0 (R_s_thrown_state v0 0 z11)] : List (List zE)).flatten
                  cases hf
                  exact AW.iret hZ hE rfl rfl rfl rfl (Nat.le_refl 0) (Nat.le_refl 0) rfl ⟨rfl, rfl⟩
        · rw [if_pos c7] at hf
          cases hf
          exact AW.iret hZ hE rfl rfl rfl rfl (Nat.le_refl 0) (Nat.le_refl 0) rfl ⟨rfl, rfl⟩
