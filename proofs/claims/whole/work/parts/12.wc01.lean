def f_Laws_valueOf_L23 (N : Nat) : Nat → VLaws → Int32 → Int32 → Int32 → (Nat → Int32) → Option (Int32 × (Nat → Int32))
  | 0, _, _, _, _, _ => none
  | fuel + 1, v0, y1, x2, x3, m_stack0 => (if (y1 < 0 ∨ 4 ≤ Int32.toNatClampNeg y1) then none else (if (((Laws_to v0) (Int32.toNatClampNeg y1)) ≤ x3) then (some (x2, m_stack0)) else (if (1000 ≤ x3) then (some (x2, m_stack0)) else (if (x3 < 0 ∨ 1000 ≤ Int32.toNatClampNeg x3) then none else (if (((Laws_codes v0) (Int32.toNatClampNeg x3)) < (-5)) then (if (((Laws_codes v0) (Int32.toNatClampNeg x3)) = (-147)) then (if (x2 < 1) then (if ((-5) ≤ ((Laws_codes v0) (Int32.toNatClampNeg x3))) then (f_Laws_valueOf_L23 N fuel v0 y1 x2 (x3 + 1) m_stack0) else (if (x2 < 2) then (f_Laws_valueOf_L23 N fuel v0 y1 x2 (x3 + 1) m_stack0) else (if (((x2 + (-1)) - 1) < 0 ∨ 64 ≤ Int32.toNatClampNeg ((x2 + (-1)) - 1)) then none else (if ((x2 + (-1)) < 0 ∨ 64 ≤ Int32.toNatClampNeg (x2 + (-1))) then none else ((f_Laws_join N (-((Laws_codes v0) (Int32.toNatClampNeg x3))) (m_stack0 (Int32.toNatClampNeg ((x2 + (-1)) - 1))) (m_stack0 (Int32.toNatClampNeg (x2 + (-1))))).bind (fun q17 => (if (((x2 + (-1)) - 1) < 0 ∨ 64 ≤ Int32.toNatClampNeg ((x2 + (-1)) - 1)) then none else (f_Laws_valueOf_L23 N fuel v0 y1 (x2 + (-1)) (x3 + 1) (upd m_stack0 (Int32.toNatClampNeg ((x2 + (-1)) - 1)) q17))))))))) else (if ((x2 - 1) < 0 ∨ 64 ≤ Int32.toNatClampNeg (x2 - 1)) then none else (zlet ((if ((m_stack0 (Int32.toNatClampNeg (x2 - 1))) = 0) then 1 else 0) : Int32) (fun z24 => (if ((x2 - 1) < 0 ∨ 64 ≤ Int32.toNatClampNeg (x2 - 1)) then none else (f_Laws_valueOf_L23 N fuel v0 y1 x2 (x3 + 1) (upd m_stack0 (Int32.toNatClampNeg (x2 - 1)) z24))))))) else (if ((-5) ≤ ((Laws_codes v0) (Int32.toNatClampNeg x3))) then (f_Laws_valueOf_L23 N fuel v0 y1 x2 (x3 + 1) m_stack0) else (if (x2 < 2) then (f_Laws_valueOf_L23 N fuel v0 y1 x2 (x3 + 1) m_stack0) else (if (((x2 + (-1)) - 1) < 0 ∨ 64 ≤ Int32.toNatClampNeg ((x2 + (-1)) - 1)) then none else (if ((x2 + (-1)) < 0 ∨ 64 ≤ Int32.toNatClampNeg (x2 + (-1))) then none else ((f_Laws_join N (-((Laws_codes v0) (Int32.toNatClampNeg x3))) (m_stack0 (Int32.toNatClampNeg ((x2 + (-1)) - 1))) (m_stack0 (Int32.toNatClampNeg (x2 + (-1))))).bind (fun q9 => (if (((x2 + (-1)) - 1) < 0 ∨ 64 ≤ Int32.toNatClampNeg ((x2 + (-1)) - 1)) then none else (f_Laws_valueOf_L23 N fuel v0 y1 (x2 + (-1)) (x3 + 1) (upd m_stack0 (Int32.toNatClampNeg ((x2 + (-1)) - 1)) q9)))))))))) else (if (64 ≤ x2) then (if (((Laws_codes v0) (Int32.toNatClampNeg x3)) = (-147)) then (if (x2 < 1) then (if ((-5) ≤ ((Laws_codes v0) (Int32.toNatClampNeg x3))) then (f_Laws_valueOf_L23 N fuel v0 y1 x2 (x3 + 1) m_stack0) else (if (x2 < 2) then (f_Laws_valueOf_L23 N fuel v0 y1 x2 (x3 + 1) m_stack0) else (if (((x2 + (-1)) - 1) < 0 ∨ 64 ≤ Int32.toNatClampNeg ((x2 + (-1)) - 1)) then none else (if ((x2 + (-1)) < 0 ∨ 64 ≤ Int32.toNatClampNeg (x2 + (-1))) then none else ((f_Laws_join N (-((Laws_codes v0) (Int32.toNatClampNeg x3))) (m_stack0 (Int32.toNatClampNeg ((x2 + (-1)) - 1))) (m_stack0 (Int32.toNatClampNeg (x2 + (-1))))).bind (fun q39 => (if (((x2 + (-1)) - 1) < 0 ∨ 64 ≤ Int32.toNatClampNeg ((x2 + (-1)) - 1)) then none else (f_Laws_valueOf_L23 N fuel v0 y1 (x2 + (-1)) (x3 + 1) (upd m_stack0 (Int32.toNatClampNeg ((x2 + (-1)) - 1)) q39))))))))) else (if ((x2 - 1) < 0 ∨ 64 ≤ Int32.toNatClampNeg (x2 - 1)) then none else (zlet ((if ((m_stack0 (Int32.toNatClampNeg (x2 - 1))) = 0) then 1 else 0) : Int32) (fun z46 => (if ((x2 - 1) < 0 ∨ 64 ≤ Int32.toNatClampNeg (x2 - 1)) then none else (f_Laws_valueOf_L23 N fuel v0 y1 x2 (x3 + 1) (upd m_stack0 (Int32.toNatClampNeg (x2 - 1)) z46))))))) else (if ((-5) ≤ ((Laws_codes v0) (Int32.toNatClampNeg x3))) then (f_Laws_valueOf_L23 N fuel v0 y1 x2 (x3 + 1) m_stack0) else (if (x2 < 2) then (f_Laws_valueOf_L23 N fuel v0 y1 x2 (x3 + 1) m_stack0) else (if (((x2 + (-1)) - 1) < 0 ∨ 64 ≤ Int32.toNatClampNeg ((x2 + (-1)) - 1)) then none else (if ((x2 + (-1)) < 0 ∨ 64 ≤ Int32.toNatClampNeg (x2 + (-1))) then none else ((f_Laws_join N (-((Laws_codes v0) (Int32.toNatClampNeg x3))) (m_stack0 (Int32.toNatClampNeg ((x2 + (-1)) - 1))) (m_stack0 (Int32.toNatClampNeg (x2 + (-1))))).bind (fun q31 => (if (((x2 + (-1)) - 1) < 0 ∨ 64 ≤ Int32.toNatClampNeg ((x2 + (-1)) - 1)) then none else (f_Laws_valueOf_L23 N fuel v0 y1 (x2 + (-1)) (x3 + 1) (upd m_stack0 (Int32.toNatClampNeg ((x2 + (-1)) - 1)) q31)))))))))) else (if (((Laws_codes v0) (Int32.toNatClampNeg x3)) < 0) then (if (((-1) - ((Laws_codes v0) (Int32.toNatClampNeg x3))) < 0 ∨ 5 ≤ Int32.toNatClampNeg ((-1) - ((Laws_codes v0) (Int32.toNatClampNeg x3)))) then none else (if (x2 < 0 ∨ 64 ≤ Int32.toNatClampNeg x2) then none else (f_Laws_valueOf_L23 N fuel v0 y1 (x2 + 1) (x3 + 1) (upd m_stack0 (Int32.toNatClampNeg x2) ((Laws_facts v0) (Int32.toNatClampNeg ((-1) - ((Laws_codes v0) (Int32.toNatClampNeg x3))))))))) else (if (x2 < 0 ∨ 64 ≤ Int32.toNatClampNeg x2) then none else (f_Laws_valueOf_L23 N fuel v0 y1 (x2 + 1) (x3 + 1) (upd m_stack0 (Int32.toNatClampNeg x2) ((Laws_codes v0) (Int32.toNatClampNeg x3))))))))))))
def f_Laws_valueOf (N : Nat) (v0 : VLaws) (a1 : Int32) : Option (Int32 × (Nat → Int32)) := ((f_Laws_isTold N v0 a1).bind (fun q1 => (if (q1 = 0) then ((f_Laws_untold N v0 a1).bind (fun q60 => (some (q60, (Laws_stack v0))))) else (if (a1 < 0 ∨ 4 ≤ Int32.toNatClampNeg a1) then none else ((f_Laws_valueOf_L23 N N v0 a1 0 ((Laws_from v0) (Int32.toNatClampNeg a1)) (Laws_stack v0)).bind (fun q55 => (if (q55.1 ≤ 0) then (some (0, q55.2)) else (if ((q55.1 - 1) < 0 ∨ 64 ≤ Int32.toNatClampNeg (q55.1 - 1)) then none else (some ((q55.2 (Int32.toNatClampNeg (q55.1 - 1))), q55.2))))))))))
set_option maxRecDepth 20000 in
set_option maxHeartbeats 4000000 in
theorem c_Laws_valueOf_L23 {Z : zCtx} {D n0w nf mcw msw : Nat} (hZ : zOk Z zMX2_valueOf) (hR : zCan Z D mcw msw) (hDd : 2 ≤ D) (hN : zNew Z n0w nf) (hRm : zRoom Z 0 0) (N : Nat) : ∀ (fuel : Nat) (v0 : VLaws) (y1 : Int32) (x2 : Int32) (x3 : Int32) (m_stack0 : (Nat → Int32)) (q : (Int32 × (Nat → Int32))), f_Laws_valueOf_L23 N fuel v0 y1 x2 x3 m_stack0 = some q → (AW Z 0 0 183 [some (.ref 0), none, some (.int q.1), none, none] [] ([kLaws 0 (Laws_stack_s v0 q.2)] : List (List zE)).flatten) → AW Z 0 0 23 [some (.ref 0), some (.int y1), some (.int x2), some (.int x3), none] [] ([kLaws 0 (Laws_stack_s v0 m_stack0)] : List (List zE)).flatten := by
  intro fuel
  induction fuel with
  | zero =>
    intro v0 y1 x2 x3 m_stack0 q hf hk0
    simp [f_Laws_valueOf_L23] at hf
  | succ fuel ih =>
    intro v0 y1 x2 x3 m_stack0 q hf hk0
    rw [f_Laws_valueOf_L23] at hf
    refine AW.run hZ hRm [23, 122, 173, 183] 400 ?_
    show (¬ (y1 < 0 ∨ 4 ≤ Int32.toNatClampNeg y1) ∧ (((((Laws_to v0) (Int32.toNatClampNeg y1)) ≤ x3) → AW Z 0 0 183 [some (.ref 0), some (.int y1), some (.int x2), some (.int x3), none] [] ([kLaws 0 (Laws_stack_s v0 m_stack0)] : List (List zE)).flatten) ∧ (¬ (((Laws_to v0) (Int32.toNatClampNeg y1)) ≤ x3) → (((1000 ≤ x3) → AW Z 0 0 183 [some (.ref 0), some (.int y1), some (.int x2), some (.int x3), none] [] ([kLaws 0 (Laws_stack_s v0 m_stack0)] : List (List zE)).flatten) ∧ (¬ (1000 ≤ x3) → (¬ (x3 < 0 ∨ 1000 ≤ Int32.toNatClampNeg x3) ∧ (((((Laws_codes v0) (Int32.toNatClampNeg x3)) < (-5)) → ((¬ (((Laws_codes v0) (Int32.toNatClampNeg x3)) = (-147)) → ((((-5) ≤ ((Laws_codes v0) (Int32.toNatClampNeg x3))) → AW Z 0 0 23 [some (.ref 0), some (.int y1), some (.int x2), some (.int (x3 + 1)), some (.int ((Laws_codes v0) (Int32.toNatClampNeg x3)))] [] ([kLaws 0 (Laws_stack_s v0 m_stack0)] : List (List zE)).flatten) ∧ (¬ ((-5) ≤ ((Laws_codes v0) (Int32.toNatClampNeg x3))) → (((x2 < 2) → AW Z 0 0 23 [some (.ref 0), some (.int y1), some (.int x2), some (.int (x3 + 1)), some (.int ((Laws_codes v0) (Int32.toNatClampNeg x3)))] [] ([kLaws 0 (Laws_stack_s v0 m_stack0)] : List (List zE)).flatten) ∧ (¬ (x2 < 2) → (¬ (((x2 + (-1)) - 1) < 0 ∨ 64 ≤ Int32.toNatClampNeg ((x2 + (-1)) - 1)) ∧ (¬ ((x2 + (-1)) < 0 ∨ 64 ≤ Int32.toNatClampNeg (x2 + (-1))) ∧ AW Z 0 0 173 [some (.ref 0), some (.int y1), some (.int (x2 + (-1))), some (.int x3), some (.int ((Laws_codes v0) (Int32.toNatClampNeg x3)))] [.int (m_stack0 (Int32.toNatClampNeg (x2 + (-1)))), .int (m_stack0 (Int32.toNatClampNeg ((x2 + (-1)) - 1))), .int (-((Laws_codes v0) (Int32.toNatClampNeg x3))), .int ((x2 + (-1)) - 1), .ref 5] ([kLaws 0 (Laws_stack_s v0 m_stack0)] : List (List zE)).flatten))))))) ∧ ((((Laws_codes v0) (Int32.toNatClampNeg x3)) = (-147)) → (((x2 < 1) → ((((-5) ≤ ((Laws_codes v0) (Int32.toNatClampNeg x3))) → AW Z 0 0 23 [some (.ref 0), some (.int y1), some (.int x2), some (.int (x3 + 1)), some (.int ((Laws_codes v0) (Int32.toNatClampNeg x3)))] [] ([kLaws 0 (Laws_stack_s v0 m_stack0)] : List (List zE)).flatten) ∧ (¬ ((-5) ≤ ((Laws_codes v0) (Int32.toNatClampNeg x3))) → (((x2 < 2) → AW Z 0 0 23 [some (.ref 0), some (.int y1), some (.int x2), some (.int (x3 + 1)), some (.int ((Laws_codes v0) (Int32.toNatClampNeg x3)))] [] ([kLaws 0 (Laws_stack_s v0 m_stack0)] : List (List zE)).flatten) ∧ (¬ (x2 < 2) → (¬ (((x2 + (-1)) - 1) < 0 ∨ 64 ≤ Int32.toNatClampNeg ((x2 + (-1)) - 1)) ∧ (¬ ((x2 + (-1)) < 0 ∨ 64 ≤ Int32.toNatClampNeg (x2 + (-1))) ∧ AW Z 0 0 173 [some (.ref 0), some (.int y1), some (.int (x2 + (-1))), some (.int x3), some (.int ((Laws_codes v0) (Int32.toNatClampNeg x3)))] [.int (m_stack0 (Int32.toNatClampNeg (x2 + (-1)))), .int (m_stack0 (Int32.toNatClampNeg ((x2 + (-1)) - 1))), .int (-((Laws_codes v0) (Int32.toNatClampNeg x3))), .int ((x2 + (-1)) - 1), .ref 5] ([kLaws 0 (Laws_stack_s v0 m_stack0)] : List (List zE)).flatten))))))) ∧ (¬ (x2 < 1) → (¬ ((x2 - 1) < 0 ∨ 64 ≤ Int32.toNatClampNeg (x2 - 1)) ∧ AW Z 0 0 122 [some (.ref 0), some (.int y1), some (.int x2), some (.int x3), some (.int ((Laws_codes v0) (Int32.toNatClampNeg x3)))] [.int (m_stack0 (Int32.toNatClampNeg (x2 - 1))), .int (x2 - 1), .ref 5] ([kLaws 0 (Laws_stack_s v0 m_stack0)] : List (List zE)).flatten)))))) ∧ (¬ (((Laws_codes v0) (Int32.toNatClampNeg x3)) < (-5)) → (((64 ≤ x2) → ((¬ (((Laws_codes v0) (Int32.toNatClampNeg x3)) = (-147)) → ((((-5) ≤ ((Laws_codes v0) (Int32.toNatClampNeg x3))) → AW Z 0 0 23 [some (.ref 0), some (.int y1), some (.int x2), some (.int (x3 + 1)), some (.int ((Laws_codes v0) (Int32.toNatClampNeg x3)))] [] ([kLaws 0 (Laws_stack_s v0 m_stack0)] : List (List zE)).flatten) ∧ (¬ ((-5) ≤ ((Laws_codes v0) (Int32.toNatClampNeg x3))) → (((x2 < 2) → AW Z 0 0 23 [some (.ref 0), some (.int y1), some (.int x2), some (.int (x3 + 1)), some (.int ((Laws_codes v0) (Int32.toNatClampNeg x3)))] [] ([kLaws 0 (Laws_stack_s v0 m_stack0)] : List (List zE)).flatten) ∧ (¬ (x2 < 2) → (¬ (((x2 + (-1)) - 1) < 0 ∨ 64 ≤ Int32.toNatClampNeg ((x2 + (-1)) - 1)) ∧ (¬ ((x2 + (-1)) < 0 ∨ 64 ≤ Int32.toNatClampNeg (x2 + (-1))) ∧ AW Z 0 0 173 [some (.ref 0), some (.int y1), some (.int (x2 + (-1))), some (.int x3), some (.int ((Laws_codes v0) (Int32.toNatClampNeg x3)))] [.int (m_stack0 (Int32.toNatClampNeg (x2 + (-1)))), .int (m_stack0 (Int32.toNatClampNeg ((x2 + (-1)) - 1))), .int (-((Laws_codes v0) (Int32.toNatClampNeg x3))), .int ((x2 + (-1)) - 1), .ref 5] ([kLaws 0 (Laws_stack_s v0 m_stack0)] : List (List zE)).flatten))))))) ∧ ((((Laws_codes v0) (Int32.toNatClampNeg x3)) = (-147)) → (((x2 < 1) → ((((-5) ≤ ((Laws_codes v0) (Int32.toNatClampNeg x3))) → AW Z 0 0 23 [some (.ref 0), some (.int y1), some (.int x2), some (.int (x3 + 1)), some (.int ((Laws_codes v0) (Int32.toNatClampNeg x3)))] [] ([kLaws 0 (Laws_stack_s v0 m_stack0)] : List (List zE)).flatten) ∧ (¬ ((-5) ≤ ((Laws_codes v0) (Int32.toNatClampNeg x3))) → (((x2 < 2) → AW Z 0 0 23 [some (.ref 0), some (.int y1), some (.int x2), some (.int (x3 + 1)), some (.int ((Laws_codes v0) (Int32.toNatClampNeg x3)))] [] ([kLaws 0 (Laws_stack_s v0 m_stack0)] : List (List zE)).flatten) ∧ (¬ (x2 < 2) → (¬ (((x2 + (-1)) - 1) < 0 ∨ 64 ≤ Int32.toNatClampNeg ((x2 + (-1)) - 1)) ∧ (¬ ((x2 + (-1)) < 0 ∨ 64 ≤ Int32.toNatClampNeg (x2 + (-1))) ∧ AW Z 0 0 173 [some (.ref 0), some (.int y1), some (.int (x2 + (-1))), some (.int x3), some (.int ((Laws_codes v0) (Int32.toNatClampNeg x3)))] [.int (m_stack0 (Int32.toNatClampNeg (x2 + (-1)))), .int (m_stack0 (Int32.toNatClampNeg ((x2 + (-1)) - 1))), .int (-((Laws_codes v0) (Int32.toNatClampNeg x3))), .int ((x2 + (-1)) - 1), .ref 5] ([kLaws 0 (Laws_stack_s v0 m_stack0)] : List (List zE)).flatten))))))) ∧ (¬ (x2 < 1) → (¬ ((x2 - 1) < 0 ∨ 64 ≤ Int32.toNatClampNeg (x2 - 1)) ∧ AW Z 0 0 122 [some (.ref 0), some (.int y1), some (.int x2), some (.int x3), some (.int ((Laws_codes v0) (Int32.toNatClampNeg x3)))] [.int (m_stack0 (Int32.toNatClampNeg (x2 - 1))), .int (x2 - 1), .ref 5] ([kLaws 0 (Laws_stack_s v0 m_stack0)] : List (List zE)).flatten)))))) ∧ (¬ (64 ≤ x2) → (((((Laws_codes v0) (Int32.toNatClampNeg x3)) < 0) → (¬ (((-1) - ((Laws_codes v0) (Int32.toNatClampNeg x3))) < 0 ∨ 5 ≤ Int32.toNatClampNeg ((-1) - ((Laws_codes v0) (Int32.toNatClampNeg x3)))) ∧ (¬ (x2 < 0 ∨ 64 ≤ Int32.toNatClampNeg x2) ∧ AW Z 0 0 23 [some (.ref 0), some (.int y1), some (.int (x2 + 1)), some (.int (x3 + 1)), some (.int ((Laws_codes v0) (Int32.toNatClampNeg x3)))] [] ([kLaws 0 (Laws_stack_s v0 (upd m_stack0 (Int32.toNatClampNeg x2) ((Laws_facts v0) (Int32.toNatClampNeg ((-1) - ((Laws_codes v0) (Int32.toNatClampNeg x3)))))))] : List (List zE)).flatten))) ∧ (¬ (((Laws_codes v0) (Int32.toNatClampNeg x3)) < 0) → (¬ (x2 < 0 ∨ 64 ≤ Int32.toNatClampNeg x2) ∧ AW Z 0 0 23 [some (.ref 0), some (.int y1), some (.int (x2 + 1)), some (.int (x3 + 1)), some (.int ((Laws_codes v0) (Int32.toNatClampNeg x3)))] [] ([kLaws 0 (Laws_stack_s v0 (upd m_stack0 (Int32.toNatClampNeg x2) ((Laws_codes v0) (Int32.toNatClampNeg x3))))] : List (List zE)).flatten)))))))))))))
    obtain ⟨b54, hf⟩ := zneed hf
    refine ⟨b54, ?_⟩
    refine ⟨fun c3 => ?_, fun c3 => ?_⟩
    · rw [if_pos c3] at hf
      cases hf
      refine AW.forget [true, false, true, false, false] ?_
      show AW Z 0 0 183 [some (.ref 0), none, some (.int x2), none, none] [] ([kLaws 0 (Laws_stack_s v0 m_stack0)] : List (List zE)).flatten
      exact hk0
    · rw [if_neg c3] at hf
      refine ⟨fun c4 => ?_, fun c4 => ?_⟩
      · rw [if_pos c4] at hf
        cases hf
        refine AW.forget [true, false, true, false, false] ?_
        show AW Z 0 0 183 [some (.ref 0), none, some (.int x2), none, none] [] ([kLaws 0 (Laws_stack_s v0 m_stack0)] : List (List zE)).flatten
        exact hk0
      · rw [if_neg c4] at hf
        obtain ⟨b53, hf⟩ := zneed hf
        refine ⟨b53, ?_⟩
        refine ⟨fun c5 => ?_, fun c5 => ?_⟩
        · rw [if_pos c5] at hf
          refine ⟨fun c6 => ?_, fun c6 => ?_⟩
          · rw [if_neg c6] at hf
            refine ⟨fun c7 => ?_, fun c7 => ?_⟩
            · rw [if_pos c7] at hf
              refine AW.forget [true, true, true, true, false] ?_
              show AW Z 0 0 23 [some (.ref 0), some (.int y1), some (.int x2), some (.int (x3 + 1)), none] [] ([kLaws 0 (Laws_stack_s v0 m_stack0)] : List (List zE)).flatten
              exact ih v0 y1 x2 (x3 + 1) m_stack0 q hf hk0
            · rw [if_neg c7] at hf
              refine ⟨fun c8 => ?_, fun c8 => ?_⟩
              · rw [if_pos c8] at hf
                refine AW.forget [true, true, true, true, false] ?_
                show AW Z 0 0 23 [some (.ref 0), some (.int y1), some (.int x2), some (.int (x3 + 1)), none] [] ([kLaws 0 (Laws_stack_s v0 m_stack0)] : List (List zE)).flatten
                exact ih v0 y1 x2 (x3 + 1) m_stack0 q hf hk0
              · rw [if_neg c8] at hf
                obtain ⟨b13, hf⟩ := zneed hf
                refine ⟨b13, ?_⟩
                obtain ⟨b12, hf⟩ := zneed hf
                refine ⟨b12, ?_⟩
                obtain ⟨q9, h11, hf⟩ := zbind hf
                refine AW.callSc hZ hR hN (c_Laws_join N (-((Laws_codes v0) (Int32.toNatClampNeg x3))) (m_stack0 (Int32.toNatClampNeg ((x2 + (-1)) - 1))) (m_stack0 (Int32.toNatClampNeg (x2 + (-1)))) q9 h11) zMX2_join_ok rfl rfl zK_BorrowedLives_Laws_51 zV_X2_join rfl [6] [] [] rfl rfl rfl (by decide) (by decide) (by omega) (by decide) (Nat.zero_le _) (Nat.zero_le _) rfl rfl ?_
                rintro v cc ⟨rfl, rfl⟩
                refine ⟨_, rfl, rfl, ?_⟩
                show AW Z 0 0 176 [some (.ref 0), some (.int y1), some (.int (x2 + (-1))), some (.int x3), some (.int ((Laws_codes v0) (Int32.toNatClampNeg x3)))] [.int q9, .int ((x2 + (-1)) - 1), .ref 5] ([kLaws 0 (Laws_stack_s v0 m_stack0)] : List (List zE)).flatten
                refine AW.run hZ hRm [23] 400 ?_
                show (¬ (((x2 + (-1)) - 1) < 0 ∨ 64 ≤ Int32.toNatClampNeg ((x2 + (-1)) - 1)) ∧ AW Z 0 0 23 [some (.ref 0), some (.int y1), some (.int (x2 + (-1))), some (.int (x3 + 1)), some (.int ((Laws_codes v0) (Int32.toNatClampNeg x3)))] [] ([kLaws 0 (Laws_stack_s v0 (upd m_stack0 (Int32.toNatClampNeg ((x2 + (-1)) - 1)) q9))] : List (List zE)).flatten)
                obtain ⟨b10, hf⟩ := zneed hf
                refine ⟨b10, ?_⟩
                refine AW.forget [true, true, true, true, false] ?_
                show AW Z 0 0 23 [some (.ref 0), some (.int y1), some (.int (x2 + (-1))), some (.int (x3 + 1)), none] [] ([kLaws 0 (Laws_stack_s v0 (upd m_stack0 (Int32.toNatClampNeg ((x2 + (-1)) - 1)) q9))] : List (List zE)).flatten
                exact ih v0 y1 (x2 + (-1)) (x3 + 1) (upd m_stack0 (Int32.toNatClampNeg ((x2 + (-1)) - 1)) q9) q hf hk0
          · rw [if_pos c6] at hf
            refine ⟨fun c14 => ?_, fun c14 => ?_⟩
            · rw [if_pos c14] at hf
              refine ⟨fun c15 => ?_, fun c15 => ?_⟩
              · rw [if_pos c15] at hf
                refine AW.forget [true, true, true, true, false] ?_
                show AW Z 0 0 23 [some (.ref 0), some (.int y1), some (.int x2), some (.int (x3 + 1)), none] [] ([kLaws 0 (Laws_stack_s v0 m_stack0)] : List (List zE)).flatten
                exact ih v0 y1 x2 (x3 + 1) m_stack0 q hf hk0
              · rw [if_neg c15] at hf
                refine ⟨fun c16 => ?_, fun c16 => ?_⟩
                · rw [if_pos c16] at hf
                  refine AW.forget [true, true, true, true, false] ?_
                  show AW Z 0 0 23 [some (.ref 0), some (.int y1), some (.int x2), some (.int (x3 + 1)), none] [] ([kLaws 0 (Laws_stack_s v0 m_stack0)] : List (List zE)).flatten
                  exact ih v0 y1 x2 (x3 + 1) m_stack0 q hf hk0
                · rw [if_neg c16] at hf
                  obtain ⟨b21, hf⟩ := zneed hf
                  refine ⟨b21, ?_⟩
                  obtain ⟨b20, hf⟩ := zneed hf
                  refine ⟨b20, ?_⟩
                  obtain ⟨q17, h19, hf⟩ := zbind hf
                  refine AW.callSc hZ hR hN (c_Laws_join N (-((Laws_codes v0) (Int32.toNatClampNeg x3))) (m_stack0 (Int32.toNatClampNeg ((x2 + (-1)) - 1))) (m_stack0 (Int32.toNatClampNeg (x2 + (-1)))) q17 h19) zMX2_join_ok rfl rfl zK_BorrowedLives_Laws_51 zV_X2_join rfl [6] [] [] rfl rfl rfl (by decide) (by decide) (by omega) (by decide) (Nat.zero_le _) (Nat.zero_le _) rfl rfl ?_
                  rintro v cc ⟨rfl, rfl⟩
                  refine ⟨_, rfl, rfl, ?_⟩
                  show AW Z 0 0 176 [some (.ref 0), some (.int y1), some (.int (x2 + (-1))), some (.int x3), some (.int ((Laws_codes v0) (Int32.toNatClampNeg x3)))] [.int q17, .int ((x2 + (-1)) - 1), .ref 5] ([kLaws 0 (Laws_stack_s v0 m_stack0)] : List (List zE)).flatten
                  refine AW.run hZ hRm [23] 400 ?_
                  show (¬ (((x2 + (-1)) - 1) < 0 ∨ 64 ≤ Int32.toNatClampNeg ((x2 + (-1)) - 1)) ∧ AW Z 0 0 23 [some (.ref 0), some (.int y1), some (.int (x2 + (-1))), some (.int (x3 + 1)), some (.int ((Laws_codes v0) (Int32.toNatClampNeg x3)))] [] ([kLaws 0 (Laws_stack_s v0 (upd m_stack0 (Int32.toNatClampNeg ((x2 + (-1)) - 1)) q17))] : List (List zE)).flatten)
                  obtain ⟨b18, hf⟩ := zneed hf
                  refine ⟨b18, ?_⟩
                  refine AW.forget [true, true, true, true, false] ?_
                  show AW Z 0 0 23 [some (.ref 0), some (.int y1), some (.int (x2 + (-1))), some (.int (x3 + 1)), none] [] ([kLaws 0 (Laws_stack_s v0 (upd m_stack0 (Int32.toNatClampNeg ((x2 + (-1)) - 1)) q17))] : List (List zE)).flatten
                  exact ih v0 y1 (x2 + (-1)) (x3 + 1) (upd m_stack0 (Int32.toNatClampNeg ((x2 + (-1)) - 1)) q17) q hf hk0
            · rw [if_neg c14] at hf
              obtain ⟨b26, hf⟩ := zneed hf
              refine ⟨b26, ?_⟩
              suffices H22 : AW Z 0 0 130 [some (.ref 0), some (.int y1), some (.int x2), some (.int x3), none] [.int (if ((m_stack0 (Int32.toNatClampNeg (x2 - 1))) = 0) then 1 else 0), .int (x2 - 1), .ref 5] ([kLaws 0 (Laws_stack_s v0 m_stack0)] : List (List zE)).flatten from by
                refine AW.run hZ hRm [130] 400 ?_
                show ((¬ ((m_stack0 (Int32.toNatClampNeg (x2 - 1))) = 0) → AW Z 0 0 130 [some (.ref 0), some (.int y1), some (.int x2), some (.int x3), some (.int ((Laws_codes v0) (Int32.toNatClampNeg x3)))] [.int 0, .int (x2 - 1), .ref 5] ([kLaws 0 (Laws_stack_s v0 m_stack0)] : List (List zE)).flatten) ∧ (((m_stack0 (Int32.toNatClampNeg (x2 - 1))) = 0) → AW Z 0 0 130 [some (.ref 0), some (.int y1), some (.int x2), some (.int x3), some (.int ((Laws_codes v0) (Int32.toNatClampNeg x3)))] [.int 1, .int (x2 - 1), .ref 5] ([kLaws 0 (Laws_stack_s v0 m_stack0)] : List (List zE)).flatten))
                refine ⟨fun c23 => ?_, fun c23 => ?_⟩
                · refine AW.forget [true, true, true, true, false] ?_
                  show AW Z 0 0 130 [some (.ref 0), some (.int y1), some (.int x2), some (.int x3), none] [.int 0, .int (x2 - 1), .ref 5] ([kLaws 0 (Laws_stack_s v0 m_stack0)] : List (List zE)).flatten
                  simpa only [if_neg c23] using H22
                · refine AW.forget [true, true, true, true, false] ?_
                  show AW Z 0 0 130 [some (.ref 0), some (.int y1), some (.int x2), some (.int x3), none] [.int 1, .int (x2 - 1), .ref 5] ([kLaws 0 (Laws_stack_s v0 m_stack0)] : List (List zE)).flatten
                  simpa only [if_pos c23] using H22
              replace hf := zlet_gen hf
              generalize ((if ((m_stack0 (Int32.toNatClampNeg (x2 - 1))) = 0) then 1 else 0) : Int32) = z24 at hf ⊢
              refine AW.run hZ hRm [23] 400 ?_
              show (¬ ((x2 - 1) < 0 ∨ 64 ≤ Int32.toNatClampNeg (x2 - 1)) ∧ AW Z 0 0 23 [some (.ref 0), some (.int y1), some (.int x2), some (.int (x3 + 1)), none] [] ([kLaws 0 (Laws_stack_s v0 (upd m_stack0 (Int32.toNatClampNeg (x2 - 1)) z24))] : List (List zE)).flatten)
              obtain ⟨b25, hf⟩ := zneed hf
              refine ⟨b25, ?_⟩
              exact ih v0 y1 x2 (x3 + 1) (upd m_stack0 (Int32.toNatClampNeg (x2 - 1)) z24) q hf hk0
        · rw [if_neg c5] at hf
          refine ⟨fun c27 => ?_, fun c27 => ?_⟩
          · rw [if_pos c27] at hf
            refine ⟨fun c28 => ?_, fun c28 => ?_⟩
            · rw [if_neg c28] at hf
              refine ⟨fun c29 => ?_, fun c29 => ?_⟩
              · rw [if_pos c29] at hf
                refine AW.forget [true, true, true, true, false] ?_
                show AW Z 0 0 23 [some (.ref 0), some (.int y1), some (.int x2), some (.int (x3 + 1)), none] [] ([kLaws 0 (Laws_stack_s v0 m_stack0)] : List (List zE)).flatten
                exact ih v0 y1 x2 (x3 + 1) m_stack0 q hf hk0
              · rw [if_neg c29] at hf
                refine ⟨fun c30 => ?_, fun c30 => ?_⟩
                · rw [if_pos c30] at hf
                  refine AW.forget [true, true, true, true, false] ?_
                  show AW Z 0 0 23 [some (.ref 0), some (.int y1), some (.int x2), some (.int (x3 + 1)), none] [] ([kLaws 0 (Laws_stack_s v0 m_stack0)] : List (List zE)).flatten
                  exact ih v0 y1 x2 (x3 + 1) m_stack0 q hf hk0
                · rw [if_neg c30] at hf
                  obtain ⟨b35, hf⟩ := zneed hf
                  refine ⟨b35, ?_⟩
                  obtain ⟨b34, hf⟩ := zneed hf
                  refine ⟨b34, ?_⟩
                  obtain ⟨q31, h33, hf⟩ := zbind hf
                  refine AW.callSc hZ hR hN (c_Laws_join N (-((Laws_codes v0) (Int32.toNatClampNeg x3))) (m_stack0 (Int32.toNatClampNeg ((x2 + (-1)) - 1))) (m_stack0 (Int32.toNatClampNeg (x2 + (-1)))) q31 h33) zMX2_join_ok rfl rfl zK_BorrowedLives_Laws_51 zV_X2_join rfl [6] [] [] rfl rfl rfl (by decide) (by decide) (by omega) (by decide) (Nat.zero_le _) (Nat.zero_le _) rfl rfl ?_
                  rintro v cc ⟨rfl, rfl⟩
                  refine ⟨_, rfl, rfl, ?_⟩
                  show AW Z 0 0 176 [some (.ref 0), some (.int y1), some (.int (x2 + (-1))), some (.int x3), some (.int ((Laws_codes v0) (Int32.toNatClampNeg x3)))] [.int q31, .int ((x2 + (-1)) - 1), .ref 5] ([kLaws 0 (Laws_stack_s v0 m_stack0)] : List (List zE)).flatten
                  refine AW.run hZ hRm [23] 400 ?_
                  show (¬ (((x2 + (-1)) - 1) < 0 ∨ 64 ≤ Int32.toNatClampNeg ((x2 + (-1)) - 1)) ∧ AW Z 0 0 23 [some (.ref 0), some (.int y1), some (.int (x2 + (-1))), some (.int (x3 + 1)), some (.int ((Laws_codes v0) (Int32.toNatClampNeg x3)))] [] ([kLaws 0 (Laws_stack_s v0 (upd m_stack0 (Int32.toNatClampNeg ((x2 + (-1)) - 1)) q31))] : List (List zE)).flatten)
                  obtain ⟨b32, hf⟩ := zneed hf
                  refine ⟨b32, ?_⟩
                  refine AW.forget [true, true, true, true, false] ?_
                  show AW Z 0 0 23 [some (.ref 0), some (.int y1), some (.int (x2 + (-1))), some (.int (x3 + 1)), none] [] ([kLaws 0 (Laws_stack_s v0 (upd m_stack0 (Int32.toNatClampNeg ((x2 + (-1)) - 1)) q31))] : List (List zE)).flatten
                  exact ih v0 y1 (x2 + (-1)) (x3 + 1) (upd m_stack0 (Int32.toNatClampNeg ((x2 + (-1)) - 1)) q31) q hf hk0
            · rw [if_pos c28] at hf
              refine ⟨fun c36 => ?_, fun c36 => ?_⟩
              · rw [if_pos c36] at hf
                refine ⟨fun c37 => ?_, fun c37 => ?_⟩
                · rw [if_pos c37] at hf
                  refine AW.forget [true, true, true, true, false] ?_
                  show AW Z 0 0 23 [some (.ref 0), some (.int y1), some (.int x2), some (.int (x3 + 1)), none] [] ([kLaws 0 (Laws_stack_s v0 m_stack0)] : List (List zE)).flatten
                  exact ih v0 y1 x2 (x3 + 1) m_stack0 q hf hk0
                · rw [if_neg c37] at hf
                  refine ⟨fun c38 => ?_, fun c38 => ?_⟩
                  · rw [if_pos c38] at hf
                    refine AW.forget [true, true, true, true, false] ?_
                    show AW Z 0 0 23 [some (.ref 0), some (.int y1), some (.int x2), some (.int (x3 + 1)), none] [] ([kLaws 0 (Laws_stack_s v0 m_stack0)] : List (List zE)).flatten
                    exact ih v0 y1 x2 (x3 + 1) m_stack0 q hf hk0
                  · rw [if_neg c38] at hf
                    obtain ⟨b43, hf⟩ := zneed hf
                    refine ⟨b43, ?_⟩
                    obtain ⟨b42, hf⟩ := zneed hf
                    refine ⟨b42, ?_⟩
                    obtain ⟨q39, h41, hf⟩ := zbind hf
                    refine AW.callSc hZ hR hN (c_Laws_join N (-((Laws_codes v0) (Int32.toNatClampNeg x3))) (m_stack0 (Int32.toNatClampNeg ((x2 + (-1)) - 1))) (m_stack0 (Int32.toNatClampNeg (x2 + (-1)))) q39 h41) zMX2_join_ok rfl rfl zK_BorrowedLives_Laws_51 zV_X2_join rfl [6] [] [] rfl rfl rfl (by decide) (by decide) (by omega) (by decide) (Nat.zero_le _) (Nat.zero_le _) rfl rfl ?_
                    rintro v cc ⟨rfl, rfl⟩
                    refine ⟨_, rfl, rfl, ?_⟩
                    show AW Z 0 0 176 [some (.ref 0), some (.int y1), some (.int (x2 + (-1))), some (.int x3), some (.int ((Laws_codes v0) (Int32.toNatClampNeg x3)))] [.int q39, .int ((x2 + (-1)) - 1), .ref 5] ([kLaws 0 (Laws_stack_s v0 m_stack0)] : List (List zE)).flatten
                    refine AW.run hZ hRm [23] 400 ?_
                    show (¬ (((x2 + (-1)) - 1) < 0 ∨ 64 ≤ Int32.toNatClampNeg ((x2 + (-1)) - 1)) ∧ AW Z 0 0 23 [some (.ref 0), some (.int y1), some (.int (x2 + (-1))), some (.int (x3 + 1)), some (.int ((Laws_codes v0) (Int32.toNatClampNeg x3)))] [] ([kLaws 0 (Laws_stack_s v0 (upd m_stack0 (Int32.toNatClampNeg ((x2 + (-1)) - 1)) q39))] : List (List zE)).flatten)
                    obtain ⟨b40, hf⟩ := zneed hf
                    refine ⟨b40, ?_⟩
                    refine AW.forget [true, true, true, true, false] ?_
                    show AW Z 0 0 23 [some (.ref 0), some (.int y1), some (.int (x2 + (-1))), some (.int (x3 + 1)), none] [] ([kLaws 0 (Laws_stack_s v0 (upd m_stack0 (Int32.toNatClampNeg ((x2 + (-1)) - 1)) q39))] : List (List zE)).flatten
                    exact ih v0 y1 (x2 + (-1)) (x3 + 1) (upd m_stack0 (Int32.toNatClampNeg ((x2 + (-1)) - 1)) q39) q hf hk0
              · rw [if_neg c36] at hf
                obtain ⟨b48, hf⟩ := zneed hf
                refine ⟨b48, ?_⟩
                suffices H44 : AW Z 0 0 130 [some (.ref 0), some (.int y1), some (.int x2), some (.int x3), none] [.int (if ((m_stack0 (Int32.toNatClampNeg (x2 - 1))) = 0) then 1 else 0), .int (x2 - 1), .ref 5] ([kLaws 0 (Laws_stack_s v0 m_stack0)] : List (List zE)).flatten from by
                  refine AW.run hZ hRm [130] 400 ?_
                  show ((¬ ((m_stack0 (Int32.toNatClampNeg (x2 - 1))) = 0) → AW Z 0 0 130 [some (.ref 0), some (.int y1), some (.int x2), some (.int x3), some (.int ((Laws_codes v0) (Int32.toNatClampNeg x3)))] [.int 0, .int (x2 - 1), .ref 5] ([kLaws 0 (Laws_stack_s v0 m_stack0)] : List (List zE)).flatten) ∧ (((m_stack0 (Int32.toNatClampNeg (x2 - 1))) = 0) → AW Z 0 0 130 [some (.ref 0), some (.int y1), some (.int x2), some (.int x3), some (.int ((Laws_codes v0) (Int32.toNatClampNeg x3)))] [.int 1, .int (x2 - 1), .ref 5] ([kLaws 0 (Laws_stack_s v0 m_stack0)] : List (List zE)).flatten))
                  refine ⟨fun c45 => ?_, fun c45 => ?_⟩
                  · refine AW.forget [true, true, true, true, false] ?_
                    show AW Z 0 0 130 [some (.ref 0), some (.int y1), some (.int x2), some (.int x3), none] [.int 0, .int (x2 - 1), .ref 5] ([kLaws 0 (Laws_stack_s v0 m_stack0)] : List (List zE)).flatten
                    simpa only [if_neg c45] using H44
                  · refine AW.forget [true, true, true, true, false] ?_
                    show AW Z 0 0 130 [some (.ref 0), some (.int y1), some (.int x2), some (.int x3), none] [.int 1, .int (x2 - 1), .ref 5] ([kLaws 0 (Laws_stack_s v0 m_stack0)] : List (List zE)).flatten
                    simpa only [if_pos c45] using H44
                replace hf := zlet_gen hf
                generalize ((if ((m_stack0 (Int32.toNatClampNeg (x2 - 1))) = 0) then 1 else 0) : Int32) = z46 at hf ⊢
                refine AW.run hZ hRm [23] 400 ?_
                show (¬ ((x2 - 1) < 0 ∨ 64 ≤ Int32.toNatClampNeg (x2 - 1)) ∧ AW Z 0 0 23 [some (.ref 0), some (.int y1), some (.int x2), some (.int (x3 + 1)), none] [] ([kLaws 0 (Laws_stack_s v0 (upd m_stack0 (Int32.toNatClampNeg (x2 - 1)) z46))] : List (List zE)).flatten)
                obtain ⟨b47, hf⟩ := zneed hf
                refine ⟨b47, ?_⟩
                exact ih v0 y1 x2 (x3 + 1) (upd m_stack0 (Int32.toNatClampNeg (x2 - 1)) z46) q hf hk0
          · rw [if_neg c27] at hf
            refine ⟨fun c49 => ?_, fun c49 => ?_⟩
            · rw [if_pos c49] at hf
              obtain ⟨b51, hf⟩ := zneed hf
              refine ⟨b51, ?_⟩
              obtain ⟨b50, hf⟩ := zneed hf
              refine ⟨b50, ?_⟩
              refine AW.forget [true, true, true, true, false] ?_
              show AW Z 0 0 23 [some (.ref 0), some (.int y1), some (.int (x2 + 1)), some (.int (x3 + 1)), none] [] ([kLaws 0 (Laws_stack_s v0 (upd m_stack0 (Int32.toNatClampNeg x2) ((Laws_facts v0) (Int32.toNatClampNeg ((-1) - ((Laws_codes v0) (Int32.toNatClampNeg x3)))))))] : List (List zE)).flatten
              exact ih v0 y1 (x2 + 1) (x3 + 1) (upd m_stack0 (Int32.toNatClampNeg x2) ((Laws_facts v0) (Int32.toNatClampNeg ((-1) - ((Laws_codes v0) (Int32.toNatClampNeg x3)))))) q hf hk0
            · rw [if_neg c49] at hf
              obtain ⟨b52, hf⟩ := zneed hf
              refine ⟨b52, ?_⟩
              refine AW.forget [true, true, true, true, false] ?_
              show AW Z 0 0 23 [some (.ref 0), some (.int y1), some (.int (x2 + 1)), some (.int (x3 + 1)), none] [] ([kLaws 0 (Laws_stack_s v0 (upd m_stack0 (Int32.toNatClampNeg x2) ((Laws_codes v0) (Int32.toNatClampNeg x3))))] : List (List zE)).flatten
              exact ih v0 y1 (x2 + 1) (x3 + 1) (upd m_stack0 (Int32.toNatClampNeg x2) ((Laws_codes v0) (Int32.toNatClampNeg x3))) q hf hk0
set_option maxRecDepth 20000 in
set_option maxHeartbeats 4000000 in
theorem c_Laws_valueOf (N : Nat) (v0 : VLaws) (a1 : Int32) (R : Int32 × (Nat → Int32)) (hf : f_Laws_valueOf N v0 a1 = some R) : Ct zMX2_valueOf 2 0 0 0 [.ref 0, .int a1] ([kLaws 0 v0] : List (List zE)).flatten (fun v cc => v = some (.int R.1) ∧ cc = ([kLaws 0 (Laws_stack_s v0 R.2)] : List (List zE)).flatten) := by
  refine Ct.of zMX2_valueOf_ok (by decide) (Nat.le_of_ble_eq_true rfl) ?_
  intro Z hZ hR hN hE
  have hRm : zRoom Z 0 0 := zRoom0 Z
  unfold f_Laws_valueOf at hf
  show AW Z 0 0 0 [some (.ref 0), some (.int a1), none, none, none] [] ([kLaws 0 v0] : List (List zE)).flatten
  refine AW.run hZ hRm [2] 400 ?_
  show AW Z 0 0 2 [some (.ref 0), some (.int a1), none, none, none] [.int a1, .ref 0] ([kLaws 0 v0] : List (List zE)).flatten
  obtain ⟨q1, h62, hf⟩ := zbind hf
  refine AW.callVc hZ hR hN (c_Laws_isTold N v0 a1 q1 h62) zMX2_isTold_ok rfl rfl zK_BorrowedLives_Laws_43 zV_X2_isTold rfl [6] [0] [0, 1, 2, 3, 4, 5] rfl rfl rfl (by decide) (by decide) (by omega) (by decide) (Nat.zero_le _) (Nat.zero_le _) rfl rfl rfl rfl rfl ?_
  rintro v cc ⟨rfl, rfl⟩
  refine ⟨_, rfl, rfl, ?_⟩
  show AW Z 0 0 5 [some (.ref 0), some (.int a1), none, none, none] [.int q1] ([kLaws 0 v0] : List (List zE)).flatten
  refine AW.run hZ hRm [10, 23] 400 ?_
  show ((¬ (q1 = 0) → (¬ (a1 < 0 ∨ 4 ≤ Int32.toNatClampNeg a1) ∧ AW Z 0 0 23 [some (.ref 0), some (.int a1), some (.int 0), some (.int ((Laws_from v0) (Int32.toNatClampNeg a1))), none] [] ([kLaws 0 v0] : List (List zE)).flatten)) ∧ ((q1 = 0) → AW Z 0 0 10 [some (.ref 0), some (.int a1), none, none, none] [.int a1, .ref 0] ([kLaws 0 v0] : List (List zE)).flatten))
  refine ⟨fun c2 => ?_, fun c2 => ?_⟩
  · rw [if_neg c2] at hf
    obtain ⟨b59, hf⟩ := zneed hf
    refine ⟨b59, ?_⟩
    obtain ⟨q55, h56, hf⟩ := zbind hf
    refine c_Laws_valueOf_L23 hZ hR (by omega) hN hRm N N v0 a1 0 ((Laws_from v0) (Int32.toNatClampNeg a1)) (Laws_stack v0) q55 h56 ?_
    show AW Z 0 0 183 [some (.ref 0), none, some (.int q55.1), none, none] [] ([kLaws 0 (Laws_stack_s v0 q55.2)] : List (List zE)).flatten
    refine AW.run hZ hRm [199] 400 ?_
    show (((q55.1 ≤ 0) → AW Z 0 0 199 [some (.ref 0), none, some (.int q55.1), none, none] [.int 0] ([kLaws 0 (Laws_stack_s v0 q55.2)] : List (List zE)).flatten) ∧ (¬ (q55.1 ≤ 0) → (¬ ((q55.1 - 1) < 0 ∨ 64 ≤ Int32.toNatClampNeg (q55.1 - 1)) ∧ AW Z 0 0 199 [some (.ref 0), none, some (.int q55.1), none, none] [.int (q55.2 (Int32.toNatClampNeg (q55.1 - 1)))] ([kLaws 0 (Laws_stack_s v0 q55.2)] : List (List zE)).flatten)))
    refine ⟨fun c57 => ?_, fun c57 => ?_⟩
    · rw [if_pos c57] at hf
      cases hf
      exact AW.iret hZ hE rfl rfl rfl rfl (Nat.le_refl 0) (Nat.le_refl 0) rfl ⟨rfl, rfl⟩
    · rw [if_neg c57] at hf
      obtain ⟨b58, hf⟩ := zneed hf
      refine ⟨b58, ?_⟩
      cases hf
      exact AW.iret hZ hE rfl rfl rfl rfl (Nat.le_refl 0) (Nat.le_refl 0) rfl ⟨rfl, rfl⟩
  · rw [if_pos c2] at hf
    obtain ⟨q60, h61, hf⟩ := zbind hf
    refine AW.callVc hZ hR hN (c_Laws_untold N v0 a1 q60 h61) zMX2_untold_ok rfl rfl zK_BorrowedLives_Laws_47 zV_X2_untold rfl [6] [0] [0, 1, 2, 3, 4, 5] rfl rfl rfl (by decide) (by decide) (by omega) (by decide) (Nat.zero_le _) (Nat.zero_le _) rfl rfl rfl rfl rfl ?_
    rintro v cc ⟨rfl, rfl⟩
    refine ⟨_, rfl, rfl, ?_⟩
    show AW Z 0 0 13 [some (.ref 0), some (.int a1), none, none, none] [.int q60] ([kLaws 0 v0] : List (List zE)).flatten
    cases hf
    exact AW.iret hZ hE rfl rfl rfl rfl (Nat.le_refl 0) (Nat.le_refl 0) rfl ⟨rfl, rfl⟩
def f_Deeds_goodBy_L52 (N : Nat) : Nat → VLives → VTown → VLaws → Int32 → Int32 → Int32 → Int32 → Int32 → Int32 → Int32 → Int32 → Int32 → Option (Int32 × Int32 × Int32)
  | 0, _, _, _, _, _, _, _, _, _, _, _, _ => none
  | fuel + 1, v0, v1, v2, y0, y2, y3, y4, y6, x7, x8, x9, x10 => (if (y4 ≤ x10) then (some (x7, x8, x9)) else ((f_Deeds_deedIn N y0 y4 x10).bind (fun q5 => (zlet ((if (q5 = 0) then (if (x7 + y6) < 9999 then (x7 + y6) else 9999) else (if (q5 = 1) then (x7 - (if (if x7 < x8 then x7 else x8) < 10 then (if x7 < x8 then x7 else x8) else 10)) else x7)) : Int32) (fun z10 => (zlet ((if (q5 = 0) then x8 else (if (q5 = 1) then (x8 - (if (if x7 < x8 then x7 else x8) < 10 then (if x7 < x8 then x7 else x8) else 10)) else x8)) : Int32) (fun z11 => (zlet ((if (q5 = 0) then x9 else (if (q5 = 1) then x9 else (if (y6 ≤ 4) then (if (x9 + 1) < 9 then (x9 + 1) else 9) else (if (x9 + 2) < 9 then (x9 + 2) else 9)))) : Int32) (fun z12 => (f_Deeds_goodBy_L52 N fuel v0 v1 v2 y0 y2 y3 y4 y6 z10 z11 z12 (x10 + 1)))))))))))
def f_Deeds_goodBy (N : Nat) (v0 : VLives) (v1 : VTown) (v2 : VLaws) (a0 : Int32) (a2 : Int32) (a3 : Int32) (a4 : Int32) : Option (Int32 × (Nat → Int32) × (Nat → Int32)) := ((f_Town_has N v1 v2 a3).bind (fun q1 => (if (q1 = 0) then (some (0, (Laws_facts v2), (Laws_stack v2))) else ((f_Town_skillOf N v1 v2 a2).bind (fun q3 => (if (a3 < 0 ∨ 6 ≤ Int32.toNatClampNeg a3) then none else (if (a3 < 0 ∨ 6 ≤ Int32.toNatClampNeg a3) then none else (if (a3 < 0 ∨ 6 ≤ Int32.toNatClampNeg a3) then none else ((f_Deeds_goodBy_L52 N N v0 v1 v2 a0 a2 a3 a4 q3 ((Lives_purse v0) (Int32.toNatClampNeg a3)) ((Lives_debt v0) (Int32.toNatClampNeg a3)) ((Lives_home v0) (Int32.toNatClampNeg a3)) 0).bind (fun q14 => (if (a3 < 0 ∨ 6 ≤ Int32.toNatClampNeg a3) then none else ((f_Town_kindOf N v1 v2 a2).bind (fun q16 => (zlet ((if 0 < (q14.1 - ((Lives_hidden v0) (Int32.toNatClampNeg a3))) then (q14.1 - ((Lives_hidden v0) (Int32.toNatClampNeg a3))) else 0) : Int32) (fun z17 => ((f_Laws_setFacts N v2 z17 q14.2.1 q14.2.2 q3 q16).bind (fun q18 => ((f_Laws_valueOf N (Laws_facts_s v2 q18) 2).bind (fun q19 => (some (q19.1, q18, q19.2)))))))))))))))))))))
set_option maxRecDepth 20000 in
set_option maxHeartbeats 4000000 in
theorem c_Deeds_goodBy_L52 {Z : zCtx} {D n0w nf mcw msw : Nat} (hZ : zOk Z zMX0_goodBy) (hR : zCan Z D mcw msw) (hDd : 3 ≤ D) (hN : zNew Z n0w nf) (hRm : zRoom Z 0 0) (N : Nat) : ∀ (fuel : Nat) (v0 : VLives) (v1 : VTown) (v2 : VLaws) (y0 : Int32) (y2 : Int32) (y3 : Int32) (y4 : Int32) (y6 : Int32) (x7 : Int32) (x8 : Int32) (x9 : Int32) (x10 : Int32) (q : (Int32 × Int32 × Int32)), f_Deeds_goodBy_L52 N fuel v0 v1 v2 y0 y2 y3 y4 y6 x7 x8 x9 x10 = some q → (AW Z 0 0 154 [none, some (.ref 0), some (.int y2), some (.int y3), none, some (.ref 8), some (.int y6), some (.int q.1), some (.int q.2.1), some (.int q.2.2), none, none, none] [] ([kLives 0 8 v0, kTown 8 16 v1, kLaws 16 v2] : List (List zE)).flatten) → AW Z 0 0 52 [some (.int y0), some (.ref 0), some (.int y2), some (.int y3), some (.int y4), some (.ref 8), some (.int y6), some (.int x7), some (.int x8), some (.int x9), some (.int x10), none, none] [] ([kLives 0 8 v0, kTown 8 16 v1, kLaws 16 v2] : List (List zE)).flatten := by
  intro fuel
  induction fuel with
  | zero =>
    intro v0 v1 v2 y0 y2 y3 y4 y6 x7 x8 x9 x10 q hf hk0
    simp [f_Deeds_goodBy_L52] at hf
  | succ fuel ih =>
    intro v0 v1 v2 y0 y2 y3 y4 y6 x7 x8 x9 x10 q hf hk0
    rw [f_Deeds_goodBy_L52] at hf
    refine AW.run hZ hRm [64, 154] 400 ?_
    show (((y4 ≤ x10) → AW Z 0 0 154 [some (.int y0), some (.ref 0), some (.int y2), some (.int y3), some (.int y4), some (.ref 8), some (.int y6), some (.int x7), some (.int x8), some (.int x9), some (.int x10), none, none] [] ([kLives 0 8 v0, kTown 8 16 v1, kLaws 16 v2] : List (List zE)).flatten) ∧ (¬ (y4 ≤ x10) → AW Z 0 0 64 [some (.int y0), some (.ref 0), some (.int y2), some (.int y3), some (.int y4), some (.ref 8), some (.int y6), some (.int x7), some (.int x8), some (.int x9), some (.int x10), none, none] [.int x10, .int y4, .int y0] ([kLives 0 8 v0, kTown 8 16 v1, kLaws 16 v2] : List (List zE)).flatten))
    refine ⟨fun c4 => ?_, fun c4 => ?_⟩
    · rw [if_pos c4] at hf
      cases hf
      refine AW.forget [false, true, true, true, false, true, true, true, true, true, false, false, false] ?_
      show AW Z 0 0 154 [none, some (.ref 0), some (.int y2), some (.int y3), none, some (.ref 8), some (.int y6), some (.int x7), some (.int x8), some (.int x9), none, none, none] [] ([kLives 0 8 v0, kTown 8 16 v1, kLaws 16 v2] : List (List zE)).flatten
      exact hk0
    · rw [if_neg c4] at hf
      obtain ⟨q5, h13, hf⟩ := zbind hf
      refine AW.callSc hZ hR hN (c_Deeds_deedIn N y0 y4 x10 q5 h13) zMX0_deedIn_ok rfl rfl zK_BorrowedLives_Deeds_26 zV_X0_deedIn rfl [8, 8, 6] [] [] rfl rfl rfl (by decide) (by decide) (by omega) (by decide) (Nat.zero_le _) (Nat.zero_le _) rfl rfl ?_
      rintro v cc ⟨rfl, rfl⟩
      refine ⟨_, rfl, rfl, ?_⟩
      show AW Z 0 0 67 [some (.int y0), some (.ref 0), some (.int y2), some (.int y3), some (.int y4), some (.ref 8), some (.int y6), some (.int x7), some (.int x8), some (.int x9), some (.int x10), none, none] [.int q5] ([kLives 0 8 v0, kTown 8 16 v1, kLaws 16 v2] : List (List zE)).flatten
      refine AW.run hZ hRm [71] 400 ?_
      show AW Z 0 0 71 [some (.int y0), some (.ref 0), some (.int y2), some (.int y3), some (.int y4), some (.ref 8), some (.int y6), some (.int x7), some (.int x8), some (.int x9), some (.int x10), some (.int q5), none] [.int q5] ([kLives 0 8 v0, kTown 8 16 v1, kLaws 16 v2] : List (List zE)).flatten
      suffices H6 : AW Z 0 0 148 [some (.int y0), some (.ref 0), some (.int y2), some (.int y3), some (.int y4), some (.ref 8), some (.int y6), some (.int (if (q5 = 0) then (if (x7 + y6) < 9999 then (x7 + y6) else 9999) else (if (q5 = 1) then (x7 - (if (if x7 < x8 then x7 else x8) < 10 then (if x7 < x8 then x7 else x8) else 10)) else x7))), some (.int (if (q5 = 0) then x8 else (if (q5 = 1) then (x8 - (if (if x7 < x8 then x7 else x8) < 10 then (if x7 < x8 then x7 else x8) else 10)) else x8))), some (.int (if (q5 = 0) then x9 else (if (q5 = 1) then x9 else (if (y6 ≤ 4) then (if (x9 + 1) < 9 then (x9 + 1) else 9) else (if (x9 + 2) < 9 then (x9 + 2) else 9))))), some (.int x10), none, none] [] ([kLives 0 8 v0, kTown 8 16 v1, kLaws 16 v2] : List (List zE)).flatten from by
        refine AW.run hZ hRm [148] 400 ?_
        show ((¬ (q5 = 0) → ((¬ (q5 = 1) → (((y6 ≤ 4) → AW Z 0 0 148 [some (.int y0), some (.ref 0), some (.int y2), some (.int y3), some (.int y4), some (.ref 8), some (.int y6), some (.int x7), some (.int x8), some (.int (if (x9 + 1) < 9 then (x9 + 1) else 9)), some (.int x10), some (.int q5), none] [] ([kLives 0 8 v0, kTown 8 16 v1, kLaws 16 v2] : List (List zE)).flatten) ∧ (¬ (y6 ≤ 4) → AW Z 0 0 148 [some (.int y0), some (.ref 0), some (.int y2), some (.int y3), some (.int y4), some (.ref 8), some (.int y6), some (.int x7), some (.int x8), some (.int (if (x9 + 2) < 9 then (x9 + 2) else 9)), some (.int x10), some (.int q5), none] [] ([kLives 0 8 v0, kTown 8 16 v1, kLaws 16 v2] : List (List zE)).flatten))) ∧ ((q5 = 1) → AW Z 0 0 148 [some (.int y0), some (.ref 0), some (.int y2), some (.int y3), some (.int y4), some (.ref 8), some (.int y6), some (.int (x7 - (if (if x7 < x8 then x7 else x8) < 10 then (if x7 < x8 then x7 else x8) else 10))), some (.int (x8 - (if (if x7 < x8 then x7 else x8) < 10 then (if x7 < x8 then x7 else x8) else 10))), some (.int x9), some (.int x10), some (.int q5), some (.int (if (if x7 < x8 then x7 else x8) < 10 then (if x7 < x8 then x7 else x8) else 10))] [] ([kLives 0 8 v0, kTown 8 16 v1, kLaws 16 v2] : List (List zE)).flatten))) ∧ ((q5 = 0) → AW Z 0 0 148 [some (.int y0), some (.ref 0), some (.int y2), some (.int y3), some (.int y4), some (.ref 8), some (.int y6), some (.int (if (x7 + y6) < 9999 then (x7 + y6) else 9999)), some (.int x8), some (.int x9), some (.int x10), some (.int q5), none] [] ([kLives 0 8 v0, kTown 8 16 v1, kLaws 16 v2] : List (List zE)).flatten))
        refine ⟨fun c7 => ?_, fun c7 => ?_⟩
        · refine ⟨fun c8 => ?_, fun c8 => ?_⟩
          · refine ⟨fun c9 => ?_, fun c9 => ?_⟩
            · refine AW.forget [true, true, true, true, true, true, true, true, true, true, true, false, false] ?_
              show AW Z 0 0 148 [some (.int y0), some (.ref 0), some (.int y2), some (.int y3), some (.int y4), some (.ref 8), some (.int y6), some (.int x7), some (.int x8), some (.int (if (x9 + 1) < 9 then (x9 + 1) else 9)), some (.int x10), none, none] [] ([kLives 0 8 v0, kTown 8 16 v1, kLaws 16 v2] : List (List zE)).flatten
              simpa only [if_neg c7, if_neg c8, if_pos c9] using H6
            · refine AW.forget [true, true, true, true, true, true, true, true, true, true, true, false, false] ?_
              show AW Z 0 0 148 [some (.int y0), some (.ref 0), some (.int y2), some (.int y3), some (.int y4), some (.ref 8), some (.int y6), some (.int x7), some (.int x8), some (.int (if (x9 + 2) < 9 then (x9 + 2) else 9)), some (.int x10), none, none] [] ([kLives 0 8 v0, kTown 8 16 v1, kLaws 16 v2] : List (List zE)).flatten
              simpa only [if_neg c7, if_neg c8, if_neg c9] using H6
          · refine AW.forget [true, true, true, true, true, true, true, true, true, true, true, false, false] ?_
            show AW Z 0 0 148 [some (.int y0), some (.ref 0), some (.int y2), some (.int y3), some (.int y4), some (.ref 8), some (.int y6), some (.int (x7 - (if (if x7 < x8 then x7 else x8) < 10 then (if x7 < x8 then x7 else x8) else 10))), some (.int (x8 - (if (if x7 < x8 then x7 else x8) < 10 then (if x7 < x8 then x7 else x8) else 10))), some (.int x9), some (.int x10), none, none] [] ([kLives 0 8 v0, kTown 8 16 v1, kLaws 16 v2] : List (List zE)).flatten
            simpa only [if_neg c7, if_pos c8] using H6
        · refine AW.forget [true, true, true, true, true, true, true, true, true, true, true, false, false] ?_
          show AW Z 0 0 148 [some (.int y0), some (.ref 0), some (.int y2), some (.int y3), some (.int y4), some (.ref 8), some (.int y6), some (.int (if (x7 + y6) < 9999 then (x7 + y6) else 9999)), some (.int x8), some (.int x9), some (.int x10), none, none] [] ([kLives 0 8 v0, kTown 8 16 v1, kLaws 16 v2] : List (List zE)).flatten
          simpa only [if_pos c7] using H6
      replace hf := zlet_gen hf
      generalize ((if (q5 = 0) then (if (x7 + y6) < 9999 then (x7 + y6) else 9999) else (if (q5 = 1) then (x7 - (if (if x7 < x8 then x7 else x8) < 10 then (if x7 < x8 then x7 else x8) else 10)) else x7)) : Int32) = z10 at hf ⊢
      replace hf := zlet_gen hf
      generalize ((if (q5 = 0) then x8 else (if (q5 = 1) then (x8 - (if (if x7 < x8 then x7 else x8) < 10 then (if x7 < x8 then x7 else x8) else 10)) else x8)) : Int32) = z11 at hf ⊢
      replace hf := zlet_gen hf
      generalize ((if (q5 = 0) then x9 else (if (q5 = 1) then x9 else (if (y6 ≤ 4) then (if (x9 + 1) < 9 then (x9 + 1) else 9) else (if (x9 + 2) < 9 then (x9 + 2) else 9)))) : Int32) = z12 at hf ⊢
      refine AW.run hZ hRm [52] 400 ?_
      show AW Z 0 0 52 [some (.int y0), some (.ref 0), some (.int y2), some (.int y3), some (.int y4), some (.ref 8), some (.int y6), some (.int z10), some (.int z11), some (.int z12), some (.int (x10 + 1)), none, none] [] ([kLives 0 8 v0, kTown 8 16 v1, kLaws 16 v2] : List (List zE)).flatten
      exact ih v0 v1 v2 y0 y2 y3 y4 y6 z10 z11 z12 (x10 + 1) q hf hk0
set_option maxRecDepth 20000 in
set_option maxHeartbeats 4000000 in
theorem c_Deeds_goodBy (N : Nat) (v0 : VLives) (v1 : VTown) (v2 : VLaws) (a0 : Int32) (a2 : Int32) (a3 : Int32) (a4 : Int32) (R : Int32 × (Nat → Int32) × (Nat → Int32)) (hf : f_Deeds_goodBy N v0 v1 v2 a0 a2 a3 a4 = some R) : Ct zMX0_goodBy 3 0 0 0 [.int a0, .ref 0, .int a2, .int a3, .int a4] ([kLives 0 8 v0, kTown 8 16 v1, kLaws 16 v2] : List (List zE)).flatten (fun v cc => v = some (.int R.1) ∧ cc = ([kLives 0 8 v0, kTown 8 16 v1, kLaws 16 (Laws_s_facts_stack v2 R.2.1 R.2.2)] : List (List zE)).flatten) := by
  refine Ct.of zMX0_goodBy_ok (by decide) (Nat.le_of_ble_eq_true rfl) ?_
  intro Z hZ hR hN hE
  have hRm : zRoom Z 0 0 := zRoom0 Z
  unfold f_Deeds_goodBy at hf
  show AW Z 0 0 0 [some (.int a0), some (.ref 0), some (.int a2), some (.int a3), some (.int a4), none, none, none, none, none, none, none, none] [] ([kLives 0 8 v0, kTown 8 16 v1, kLaws 16 v2] : List (List zE)).flatten
  refine AW.run hZ hRm [9] 400 ?_
  show AW Z 0 0 9 [some (.int a0), some (.ref 0), some (.int a2), some (.int a3), some (.int a4), some (.ref 8), none, none, none, none, none, none, none] [.int a3, .ref 8] ([kLives 0 8 v0, kTown 8 16 v1, kLaws 16 v2] : List (List zE)).flatten
  obtain ⟨q1, h28, hf⟩ := zbind hf
  refine AW.callVc hZ hR hN (c_Town_has N v1 v2 a3 q1 h28) zMX8_has_ok rfl rfl zK_BorrowedLives_Deeds_36 zV_X8_has rfl [8, 8, 6] [1, 2] [8, 9, 10, 11, 12, 13, 14, 15, 16, 17, 18, 19, 20, 21] rfl rfl rfl (by decide) (by decide) (by omega) (by decide) (Nat.zero_le _) (Nat.zero_le _) rfl rfl rfl rfl rfl ?_
  rintro v cc ⟨rfl, rfl⟩
  refine ⟨_, rfl, rfl, ?_⟩
  show AW Z 0 0 12 [some (.int a0), some (.ref 0), some (.int a2), some (.int a3), some (.int a4), some (.ref 8), none, none, none, none, none, none, none] [.int q1] ([kLives 0 8 v0, kTown 8 16 v1, kLaws 16 v2] : List (List zE)).flatten
  refine AW.run hZ hRm [16, 20] 400 ?_
  show ((¬ (q1 = 0) → AW Z 0 0 20 [some (.int a0), some (.ref 0), some (.int a2), some (.int a3), some (.int a4), some (.ref 8), none, none, none, none, none, none, none] [.int a2, .ref 8] ([kLives 0 8 v0, kTown 8 16 v1, kLaws 16 v2] : List (List zE)).flatten) ∧ ((q1 = 0) → AW Z 0 0 16 [some (.int a0), some (.ref 0), some (.int a2), some (.int a3), some (.int a4), some (.ref 8), none, none, none, none, none, none, none] [.int 0] ([kLives 0 8 v0, kTown 8 16 v1, kLaws 16 v2] : List (List zE)).flatten))
  refine ⟨fun c2 => ?_, fun c2 => ?_⟩
  · rw [if_neg c2] at hf
    obtain ⟨q3, h27, hf⟩ := zbind hf
    refine AW.callVc hZ hR hN (c_Town_skillOf N v1 v2 a2 q3 h27) zMX8_skillOf_ok rfl rfl zK_BorrowedLives_Deeds_42 zV_X8_skillOf rfl [8, 8, 6] [1, 2] [8, 9, 10, 11, 12, 13, 14, 15, 16, 17, 18, 19, 20, 21] rfl rfl rfl (by decide) (by decide) (by omega) (by decide) (Nat.zero_le _) (Nat.zero_le _) rfl rfl rfl rfl rfl ?_
    rintro v cc ⟨rfl, rfl⟩
    refine ⟨_, rfl, rfl, ?_⟩
    show AW Z 0 0 23 [some (.int a0), some (.ref 0), some (.int a2), some (.int a3), some (.int a4), some (.ref 8), none, none, none, none, none, none, none] [.int q3] ([kLives 0 8 v0, kTown 8 16 v1, kLaws 16 v2] : List (List zE)).flatten
    refine AW.run hZ hRm [52] 400 ?_
    show (¬ (a3 < 0 ∨ 6 ≤ Int32.toNatClampNeg a3) ∧ (¬ (a3 < 0 ∨ 6 ≤ Int32.toNatClampNeg a3) ∧ (¬ (a3 < 0 ∨ 6 ≤ Int32.toNatClampNeg a3) ∧ AW Z 0 0 52 [some (.int a0), some (.ref 0), some (.int a2), some (.int a3), some (.int a4), some (.ref 8), some (.int q3), some (.int ((Lives_purse v0) (Int32.toNatClampNeg a3))), some (.int ((Lives_debt v0) (Int32.toNatClampNeg a3))), some (.int ((Lives_home v0) (Int32.toNatClampNeg a3))), some (.int 0), none, none] [] ([kLives 0 8 v0, kTown 8 16 v1, kLaws 16 v2] : List (List zE)).flatten)))
    obtain ⟨b26, hf⟩ := zneed hf
    refine ⟨b26, ?_⟩
    obtain ⟨b25, hf⟩ := zneed hf
    refine ⟨b25, ?_⟩
    obtain ⟨b24, hf⟩ := zneed hf
    refine ⟨b24, ?_⟩
    obtain ⟨q14, h15, hf⟩ := zbind hf
    refine c_Deeds_goodBy_L52 hZ hR (by omega) hN hRm N N v0 v1 v2 a0 a2 a3 a4 q3 ((Lives_purse v0) (Int32.toNatClampNeg a3)) ((Lives_debt v0) (Int32.toNatClampNeg a3)) ((Lives_home v0) (Int32.toNatClampNeg a3)) 0 q14 h15 ?_
    show AW Z 0 0 154 [none, some (.ref 0), some (.int a2), some (.int a3), none, some (.ref 8), some (.int q3), some (.int q14.1), some (.int q14.2.1), some (.int q14.2.2), none, none, none] [] ([kLives 0 8 v0, kTown 8 16 v1, kLaws 16 v2] : List (List zE)).flatten
    refine AW.run hZ hRm [185] 400 ?_
    show (¬ (a3 < 0 ∨ 6 ≤ Int32.toNatClampNeg a3) ∧ AW Z 0 0 185 [none, some (.ref 0), some (.int a2), some (.int a3), none, some (.ref 8), some (.int q3), some (.int q14.1), some (.int q14.2.1), some (.int q14.2.2), some (.int (if 0 < (q14.1 - ((Lives_hidden v0) (Int32.toNatClampNeg a3))) then (q14.1 - ((Lives_hidden v0) (Int32.toNatClampNeg a3))) else 0)), none, none] [.int a2, .ref 8, .int q3, .int q14.2.2, .int q14.2.1, .int (if 0 < (q14.1 - ((Lives_hidden v0) (Int32.toNatClampNeg a3))) then (q14.1 - ((Lives_hidden v0) (Int32.toNatClampNeg a3))) else 0), .ref 16] ([kLives 0 8 v0, kTown 8 16 v1, kLaws 16 v2] : List (List zE)).flatten)
    obtain ⟨b23, hf⟩ := zneed hf
    refine ⟨b23, ?_⟩
    obtain ⟨q16, h22, hf⟩ := zbind hf
    refine AW.callVc hZ hR hN (c_Town_kindOf N v1 v2 a2 q16 h22) zMX8_kindOf_ok rfl rfl zK_BorrowedLives_Deeds_71 zV_X8_kindOf rfl [8, 8, 6] [1, 2] [8, 9, 10, 11, 12, 13, 14, 15, 16, 17, 18, 19, 20, 21] rfl rfl rfl (by decide) (by decide) (by omega) (by decide) (Nat.zero_le _) (Nat.zero_le _) rfl rfl rfl rfl rfl ?_
    rintro v cc ⟨rfl, rfl⟩
    refine ⟨_, rfl, rfl, ?_⟩
    show AW Z 0 0 188 [none, some (.ref 0), some (.int a2), some (.int a3), none, some (.ref 8), some (.int q3), some (.int q14.1), some (.int q14.2.1), some (.int q14.2.2), some (.int (if 0 < (q14.1 - ((Lives_hidden v0) (Int32.toNatClampNeg a3))) then (q14.1 - ((Lives_hidden v0) (Int32.toNatClampNeg a3))) else 0)), none, none] [.int q16, .int q3, .int q14.2.2, .int q14.2.1, .int (if 0 < (q14.1 - ((Lives_hidden v0) (Int32.toNatClampNeg a3))) then (q14.1 - ((Lives_hidden v0) (Int32.toNatClampNeg a3))) else 0), .ref 16] ([kLives 0 8 v0, kTown 8 16 v1, kLaws 16 v2] : List (List zE)).flatten
    replace hf := zlet_gen hf
    generalize ((if 0 < (q14.1 - ((Lives_hidden v0) (Int32.toNatClampNeg a3))) then (q14.1 - ((Lives_hidden v0) (Int32.toNatClampNeg a3))) else 0) : Int32) = z17 at hf ⊢
    obtain ⟨q18, h21, hf⟩ := zbind hf
    refine AW.callVc hZ hR hN (c_Laws_setFacts N v2 z17 q14.2.1 q14.2.2 q3 q16 q18 h21) zMX2_setFacts_ok rfl rfl zK_BorrowedLives_Deeds_74 zV_X2_setFacts rfl [8, 8, 6] [2] [16, 17, 18, 19, 20, 21] rfl rfl rfl (by decide) (by decide) (by omega) (by decide) (Nat.zero_le _) (Nat.zero_le _) rfl rfl rfl rfl rfl ?_
    rintro v cc ⟨rfl, rfl⟩
    refine ⟨_, rfl, rfl, ?_⟩
    show AW Z 0 0 191 [none, some (.ref 0), some (.int a2), some (.int a3), none, some (.ref 8), some (.int q3), some (.int q14.1), some (.int q14.2.1), some (.int q14.2.2), some (.int z17), none, none] [] ([kLives 0 8 v0, kTown 8 16 v1, kLaws 16 (Laws_facts_s v2 q18)] : List (List zE)).flatten
    refine AW.run hZ hRm [197] 400 ?_
    show AW Z 0 0 197 [none, some (.ref 0), some (.int a2), some (.int a3), none, some (.ref 8), some (.int q3), some (.int q14.1), some (.int q14.2.1), some (.int q14.2.2), some (.int z17), none, none] [.int 2, .ref 16] ([kLives 0 8 v0, kTown 8 16 v1, kLaws 16 (Laws_facts_s v2 q18)] : List (List zE)).flatten
    obtain ⟨q19, h20, hf⟩ := zbind hf
    refine AW.callVc hZ hR hN (c_Laws_valueOf N (Laws_facts_s v2 q18) 2 q19 h20) zMX2_valueOf_ok rfl rfl zK_BorrowedLives_Deeds_80 zV_X2_valueOf rfl [8, 8, 6] [2] [16, 17, 18, 19, 20, 21] rfl rfl rfl (by decide) (by decide) (by omega) (by decide) (Nat.zero_le _) (Nat.zero_le _) rfl rfl rfl rfl rfl ?_
    rintro v cc ⟨rfl, rfl⟩
    refine ⟨_, rfl, rfl, ?_⟩
    show AW Z 0 0 200 [none, some (.ref 0), some (.int a2), some (.int a3), none, some (.ref 8), some (.int q3), some (.int q14.1), some (.int q14.2.1), some (.int q14.2.2), some (.int z17), none, none] [.int q19.1] ([kLives 0 8 v0, kTown 8 16 v1, kLaws 16 (Laws_s_facts_stack v2 q18 q19.2)] : List (List zE)).flatten
    cases hf
    exact AW.iret hZ hE rfl rfl rfl rfl (Nat.le_refl 0) (Nat.le_refl 0) rfl ⟨rfl, rfl⟩
  · rw [if_pos c2] at hf
    cases hf
    exact AW.iret hZ hE rfl rfl rfl rfl (Nat.le_refl 0) (Nat.le_refl 0) rfl ⟨rfl, rfl⟩
