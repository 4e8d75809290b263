def f_Deeds_goodBy_L52 (N : Nat) : Nat → VLives → VTown → VLaws → Int32 → Int32 → Int32 → Int32 → Int32 → Int32 → Int32 → Int32 → Int32 → Option (Int32 × Int32 × Int32)
  | 0, _, _, _, _, _, _, _, _, _, _, _, _ => none
  | fuel + 1, v0, v1, v2, y0, y2, y3, y4, y6, x7, x8, x9, x10 => (if (y4 ≤ x10) then (some (x7, x8, x9)) else ((f_Deeds_deedIn N y0 y4 x10).bind (fun q5 => (zlet ((if (q5 = 0) then (if (x7 + y6) < 9999 then (x7 + y6) else 9999) else (if (q5 = 1) then (x7 - (if (if x7 < x8 then x7 else x8) < 10 then (if x7 < x8 then x7 else x8) else 10)) else x7)) : Int32) (fun z10 => (zlet ((if (q5 = 0) then x8 else (if (q5 = 1) then (x8 - (if (if x7 < x8 then x7 else x8) < 10 then (if x7 < x8 then x7 else x8) else 10)) else x8)) : Int32) (fun z11 => (zlet ((if (q5 = 0) then x9 else (if (q5 = 1) then x9 else (if (y6 ≤ 4) then (if (x9 + 1) < 9 then (x9 + 1) else 9) else (if (x9 + 2) < 9 then (x9 + 2) else 9)))) : Int32) (fun z12 => (f_Deeds_goodBy_L52 N fuel v0 v1 v2 y0 y2 y3 y4 y6 z10 z11 z12 (x10 + 1)))))))))))
def f_Deeds_goodBy (N : Nat) (v0 : VLives) (v1 : VTown) (v2 : VLaws) (a0 : Int32) (a2 : Int32) (a3 : Int32) (a4 : Int32) : Option (Int32 × (Nat → Int32) × (Nat → Int32)) := ((f_Town_has N v1 v2 a3).bind (fun q1 => (if (q1 = 0) then (some (0, (Laws_facts v2), (Laws_stack v2))) else ((f_Town_skillOf N v1 v2 a2).bind (fun q3 => (if (a3 < 0 ∨ 6 ≤ Int32.toNatClampNeg a3) then none else (if (a3 < 0 ∨ 6 ≤ Int32.toNatClampNeg a3) then none else (if (a3 < 0 ∨ 6 ≤ Int32.toNatClampNeg a3) then none else ((f_Deeds_goodBy_L52 N N v0 v1 v2 a0 a2 a3 a4 q3 ((Lives_purse v0) (Int32.toNatClampNeg a3)) ((Lives_debt v0) (Int32.toNatClampNeg a3)) ((Lives_home v0) (Int32.toNatClampNeg a3)) 0).bind (fun q14 => (if (a3 < 0 ∨ 6 ≤ Int32.toNatClampNeg a3) then none else ((f_Town_kindOf N v1 v2 a2).bind (fun q16 => ((f_Laws_setFacts N v2 (if 0 < (q14.1 - ((Lives_hidden v0) (Int32.toNatClampNeg a3))) then (q14.1 - ((Lives_hidden v0) (Int32.toNatClampNeg a3))) else 0) q14.2.1 q14.2.2 q3 q16).bind (fun q17 => ((f_Laws_valueOf N (Laws_facts_s v2 q17) 2).bind (fun q18 => (some (q18.1, q17, q18.2)))))))))))))))))))
set_option maxRecDepth 20000 in
set_option maxHeartbeats 4000000 in
theorem c_Deeds_goodBy_L52 {Z : zCtx} {D n0w nf mcw msw : Nat} (hZ : zOk Z zMX0_goodBy) (hR : zCan Z D mcw msw) (hDd : 3 ≤ D) (hN : zNew Z n0w nf) (hRm : zRoom Z 0 0) (N : Nat) : ∀ (fuel : Nat) (v0 : VLives) (v1 : VTown) (v2 : VLaws) (y0 : Int32) (y2 : Int32) (y3 : Int32) (y4 : Int32) (y6 : Int32) (x7 : Int32) (x8 : Int32) (x9 : Int32) (x10 : Int32) (q : (Int32 × Int32 × Int32)), f_Deeds_goodBy_L52 N fuel v0 v1 v2 y0 y2 y3 y4 y6 x7 x8 x9 x10 = some q → (AW Z 0 0 154 [none, some (.ref 0), some (.int y2), some (.int y3), none, some (.ref 8), some (.int y6), some (.int q.1), some (.int q.2.1), some (.int q.2.2), none, none, none] [] ([kLives 0 8 v0, kTown 8 16 v1, kLaws 16 v2] : List (List zE)).flatten) → AW Z 0 0 52 [some (.int y0), some (.ref 0), some (.int y2), some (.int y3), some (.int y4), some (.ref 8), some (.int y6), some (.int x7), some (.int x8), some (.int x9), some (.int x10), none, none] [] ([kLives 0 8 v0, kTown 8 16 v1, kLaws 16 v2] : List (List zE)).flatten := by
  intro fuel
  induction fuel with
  | zero =>
    intro v0 v1 v2 y0 y2 y3 y4 y6 x7 x8 x9 x10 q hf hk0
    simp [f_Deeds_goodBy_L52] at hf
  | succ fuel ih =>
    intro v0 v1 v2 y0 y2 y3 y4 y6 x7 x8 x9 x10 q hf hk0
    rw [f_Deeds_goodBy_L52] at hf
    refine AW.run hZ hRm [64, 154] 400 ?_
    show (((y4 ≤ x10) → AW Z 0 0 154 [some (.int y0), some (.ref 0), some (.int y2), some (.int y3), some (.int y4), some (.ref 8), some (.int y6), some (.int x7), some (.int x8), some (.int x9), some (.int x10), none, none] [] ([kLives 0 8 v0, kTown 8 16 v1, kLaws 16 v2] : List (List zE)).flatten) ∧ (¬ (y4 ≤ x10) → AW Z 0 0 64 [some (.int y0), some (.ref 0), some (.int y2), some (.int y3), some (.int y4), some (.ref 8), some (.int y6), some (.int x7), some (.int x8), some (.int x9), some (.int x10), none, none] [.int x10, .int y4, .int y0] ([kLives 0 8 v0, kTown 8 16 v1, kLaws 16 v2] : List (List zE)).flatten))
    refine ⟨fun c4 => ?_, fun c4 => ?_⟩
    · rw [if_pos c4] at hf
      cases hf
      refine AW.forget [false, true, true, true, false, true, true, true, true, true, false, false, false] ?_
      show AW Z 0 0 154 [none, some (.ref 0), some (.int y2), some (.int y3), none, some (.ref 8), some (.int y6), some (.int x7), some (.int x8), some (.int x9), none, none, none] [] ([kLives 0 8 v0, kTown 8 16 v1, kLaws 16 v2] : List (List zE)).flatten
      exact hk0
    · rw [if_neg c4] at hf
      obtain ⟨q5, h13, hf⟩ := zbind hf
      refine AW.callSc hZ hR hN (c_Deeds_deedIn N y0 y4 x10 q5 h13) zMX0_deedIn_ok rfl rfl zK_BorrowedLives_Deeds_26 zV_X0_deedIn rfl [8, 8, 6] [] [] rfl rfl rfl (by decide) (by decide) (by omega) (by decide) (Nat.zero_le _) (Nat.zero_le _) rfl rfl ?_
      rintro v cc ⟨rfl, rfl⟩
      refine ⟨_, rfl, rfl, ?_⟩
      show AW Z 0 0 67 [some (.int y0), some (.ref 0), some (.int y2), some (.int y3), some (.int y4), some (.ref 8), some (.int y6), some (.int x7), some (.int x8), some (.int x9), some (.int x10), none, none] [.int q5] ([kLives 0 8 v0, kTown 8 16 v1, kLaws 16 v2] : List (List zE)).flatten
      refine AW.run hZ hRm [71] 400 ?_
      show AW Z 0 0 71 [some (.int y0), some (.ref 0), some (.int y2), some (.int y3), some (.int y4), some (.ref 8), some (.int y6), some (.int x7), some (.int x8), some (.int x9), some (.int x10), some (.int q5), none] [.int q5] ([kLives 0 8 v0, kTown 8 16 v1, kLaws 16 v2] : List (List zE)).flatten
      suffices H6 : AW Z 0 0 148 [some (.int y0), some (.ref 0), some (.int y2), some (.int y3), some (.int y4), some (.ref 8), some (.int y6), some (.int (if (q5 = 0) then (if (x7 + y6) < 9999 then (x7 + y6) else 9999) else (if (q5 = 1) then (x7 - (if (if x7 < x8 then x7 else x8) < 10 then (if x7 < x8 then x7 else x8) else 10)) else x7))), some (.int (if (q5 = 0) then x8 else (if (q5 = 1) then (x8 - (if (if x7 < x8 then x7 else x8) < 10 then (if x7 < x8 then x7 else x8) else 10)) else x8))), some (.int (if (q5 = 0) then x9 else (if (q5 = 1) then x9 else (if (y6 ≤ 4) then (if (x9 + 1) < 9 then (x9 + 1) else 9) else (if (x9 + 2) < 9 then (x9 + 2) else 9))))), some (.int x10), none, none] [] ([kLives 0 8 v0, kTown 8 16 v1, kLaws 16 v2] : List (List zE)).flatten from by
        refine AW.run hZ hRm [148] 400 ?_
        show ((¬ (q5 = 0) → ((¬ (q5 = 1) → (((y6 ≤ 4) → AW Z 0 0 148 [some (.int y0), some (.ref 0), some (.int y2), some (.int y3), some (.int y4), some (.ref 8), some (.int y6), some (.int x7), some (.int x8), some (.int (if (x9 + 1) < 9 then (x9 + 1) else 9)), some (.int x10), some (.int q5), none] [] ([kLives 0 8 v0, kTown 8 16 v1, kLaws 16 v2] : List (List zE)).flatten) ∧ (¬ (y6 ≤ 4) → AW Z 0 0 148 [some (.int y0), some (.ref 0), some (.int y2), some (.int y3), some (.int y4), some (.ref 8), some (.int y6), some (.int x7), some (.int x8), some (.int (if (x9 + 2) < 9 then (x9 + 2) else 9)), some (.int x10), some (.int q5), none] [] ([kLives 0 8 v0, kTown 8 16 v1, kLaws 16 v2] : List (List zE)).flatten))) ∧ ((q5 = 1) → AW Z 0 0 148 [some (.int y0), some (.ref 0), some (.int y2), some (.int y3), some (.int y4), some (.ref 8), some (.int y6), some (.int (x7 - (if (if x7 < x8 then x7 else x8) < 10 then (if x7 < x8 then x7 else x8) else 10))), some (.int (x8 - (if (if x7 < x8 then x7 else x8) < 10 then (if x7 < x8 then x7 else x8) else 10))), some (.int x9), some (.int x10), some (.int q5), some (.int (if (if x7 < x8 then x7 else x8) < 10 then (if x7 < x8 then x7 else x8) else 10))] [] ([kLives 0 8 v0, kTown 8 16 v1, kLaws 16 v2] : List (List zE)).flatten))) ∧ ((q5 = 0) → AW Z 0 0 148 [some (.int y0), some (.ref 0), some (.int y2), some (.int y3), some (.int y4), some (.ref 8), some (.int y6), some (.int (if (x7 + y6) < 9999 then (x7 + y6) else 9999)), some (.int x8), some (.int x9), some (.int x10), some (.int q5), none] [] ([kLives 0 8 v0, kTown 8 16 v1, kLaws 16 v2] : List (List zE)).flatten))
        refine ⟨fun c7 => ?_, fun c7 => ?_⟩
        · refine ⟨fun c8 => ?_, fun c8 => ?_⟩
          · refine ⟨fun c9 => ?_, fun c9 => ?_⟩
            · refine AW.forget [true, true, true, true, true, true, true, true, true, true, true, false, false] ?_
              show AW Z 0 0 148 [some (.int y0), some (.ref 0), some (.int y2), some (.int y3), some (.int y4), some (.ref 8), some (.int y6), some (.int x7), some (.int x8), some (.int (if (x9 + 1) < 9 then (x9 + 1) else 9)), some (.int x10), none, none] [] ([kLives 0 8 v0, kTown 8 16 v1, kLaws 16 v2] : List (List zE)).flatten
              simpa only [if_neg c7, if_neg c8, if_pos c9] using H6
            · refine AW.forget [true, true, true, true, true, true, true, true, true, true, true, false, false] ?_
              show AW Z 0 0 148 [some (.int y0), some (.ref 0), some (.int y2), some (.int y3), some (.int y4), some (.ref 8), some (.int y6), some (.int x7), some (.int x8), some (.int (if (x9 + 2) < 9 then (x9 + 2) else 9)), some (.int x10), none, none] [] ([kLives 0 8 v0, kTown 8 16 v1, kLaws 16 v2] : List (List zE)).flatten
              simpa only [if_neg c7, if_neg c8, if_neg c9] using H6
          · refine AW.forget [true, true, true, true, true, true, true, true, true, true, true, false, false] ?_
            show AW Z 0 0 148 [some (.int y0), some (.ref 0), some (.int y2), some (.int y3), some (.int y4), some (.ref 8), some (.int y6), some (.int (x7 - (if (if x7 < x8 then x7 else x8) < 10 then (if x7 < x8 then x7 else x8) else 10))), some (.int (x8 - (if (if x7 < x8 then x7 else x8) < 10 then (if x7 < x8 then x7 else x8) else 10))), some (.int x9), some (.int x10), none, none] [] ([kLives 0 8 v0, kTown 8 16 v1, kLaws 16 v2] : List (List zE)).flatten
            simpa only [if_neg c7, if_pos c8] using H6
        · refine AW.forget [true, true, true, true, true, true, true, true, true, true, true, false, false] ?_
          show AW Z 0 0 148 [some (.int y0), some (.ref 0), some (.int y2), some (.int y3), some (.int y4), some (.ref 8), some (.int y6), some (.int (if (x7 + y6) < 9999 then (x7 + y6) else 9999)), some (.int x8), some (.int x9), some (.int x10), none, none] [] ([kLives 0 8 v0, kTown 8 16 v1, kLaws 16 v2] : List (List zE)).flatten
          simpa only [if_pos c7] using H6
      replace hf := zlet_gen hf
      generalize ((if (q5 = 0) then (if (x7 + y6) < 9999 then (x7 + y6) else 9999) else (if (q5 = 1) then (x7 - (if (if x7 < x8 then x7 else x8) < 10 then (if x7 < x8 then x7 else x8) else 10)) else x7)) : Int32) = z10 at hf ⊢
      replace hf := zlet_gen hf
      generalize ((if (q5 = 0) then x8 else (if (q5 = 1) then (x8 - (if (if x7 < x8 then x7 else x8) < 10 then (if x7 < x8 then x7 else x8) else 10)) else x8)) : Int32) = z11 at hf ⊢
      replace hf := zlet_gen hf
      generalize ((if (q5 = 0) then x9 else (if (q5 = 1) then x9 else (if (y6 ≤ 4) then (if (x9 + 1) < 9 then (x9 + 1) else 9) else (if (x9 + 2) < 9 then (x9 + 2) else 9)))) : Int32) = z12 at hf ⊢
      refine AW.run hZ hRm [52] 400 ?_
      show AW Z 0 0 52 [some (.int y0), some (.ref 0), some (.int y2), some (.int y3), some (.int y4), some (.ref 8), some (.int y6), some (.int z10), some (.int z11), some (.int z12), some (.int (x10 + 1)), none, none] [] ([kLives 0 8 v0, kTown 8 16 v1, kLaws 16 v2] : List (List zE)).flatten
      exact ih v0 v1 v2 y0 y2 y3 y4 y6 z10 z11 z12 (x10 + 1) q hf hk0
set_option maxRecDepth 20000 in
set_option maxHeartbeats 4000000 in
theorem c_Deeds_goodBy (N : Nat) (v0 : VLives) (v1 : VTown) (v2 : VLaws) (a0 : Int32) (a2 : Int32) (a3 : Int32) (a4 : Int32) (R : Int32 × (Nat → Int32) × (Nat → Int32)) (hf : f_Deeds_goodBy N v0 v1 v2 a0 a2 a3 a4 = some R) : Ct zMX0_goodBy 3 0 0 0 [.int a0, .ref 0, .int a2, .int a3, .int a4] ([kLives 0 8 v0, kTown 8 16 v1, kLaws 16 v2] : List (List zE)).flatten (fun v cc => v = some (.int R.1) ∧ cc = ([kLives 0 8 v0, kTown 8 16 v1, kLaws 16 (Laws_stack_s (Laws_facts_s v2 R.2.1) R.2.2)] : List (List zE)).flatten) := by
  refine Ct.of zMX0_goodBy_ok (by decide) (Nat.le_of_ble_eq_true rfl) ?_
  intro Z hZ hR hN hE
  have hRm : zRoom Z 0 0 := zRoom0 Z
  unfold f_Deeds_goodBy at hf
  show AW Z 0 0 0 [some (.int a0), some (.ref 0), some (.int a2), some (.int a3), some (.int a4), none, none, none, none, none, none, none, none] [] ([kLives 0 8 v0, kTown 8 16 v1, kLaws 16 v2] : List (List zE)).flatten
  refine AW.run hZ hRm [9] 400 ?_
  show AW Z 0 0 9 [some (.int a0), some (.ref 0), some (.int a2), some (.int a3), some (.int a4), some (.ref 8), none, none, none, none, none, none, none] [.int a3, .ref 8] ([kLives 0 8 v0, kTown 8 16 v1, kLaws 16 v2] : List (List zE)).flatten
  obtain ⟨q1, h27, hf⟩ := zbind hf
  refine AW.callVc hZ hR hN (c_Town_has N v1 v2 a3 q1 h27) zMX8_has_ok rfl rfl zK_BorrowedLives_Deeds_36 zV_X8_has rfl [8, 8, 6] [1, 2] [8, 9, 10, 11, 12, 13, 14, 15, 16, 17, 18, 19, 20, 21] rfl rfl rfl (by decide) (by decide) (by omega) (by decide) (Nat.zero_le _) (Nat.zero_le _) rfl rfl rfl rfl rfl ?_
  rintro v cc ⟨rfl, rfl⟩
  refine ⟨_, rfl, rfl, ?_⟩
  show AW Z 0 0 12 [some (.int a0), some (.ref 0), some (.int a2), some (.int a3), some (.int a4), some (.ref 8), none, none, none, none, none, none, none] [.int q1] ([kLives 0 8 v0, kTown 8 16 v1, kLaws 16 v2] : List (List zE)).flatten
  refine AW.run hZ hRm [16, 20] 400 ?_
  show ((¬ (q1 = 0) → AW Z 0 0 20 [some (.int a0), some (.ref 0), some (.int a2), some (.int a3), some (.int a4), some (.ref 8), none, none, none, none, none, none, none] [.int a2, .ref 8] ([kLives 0 8 v0, kTown 8 16 v1, kLaws 16 v2] : List (List zE)).flatten) ∧ ((q1 = 0) → AW Z 0 0 16 [some (.int a0), some (.ref 0), some (.int a2), some (.int a3), some (.int a4), some (.ref 8), none, none, none, none, none, none, none] [.int 0] ([kLives 0 8 v0, kTown 8 16 v1, kLaws 16 v2] : List (List zE)).flatten))
  refine ⟨fun c2 => ?_, fun c2 => ?_⟩
  · rw [if_neg c2] at hf
    obtain ⟨q3, h26, hf⟩ := zbind hf
    refine AW.callVc hZ hR hN (c_Town_skillOf N v1 v2 a2 q3 h26) zMX8_skillOf_ok rfl rfl zK_BorrowedLives_Deeds_42 zV_X8_skillOf rfl [8, 8, 6] [1, 2] [8, 9, 10, 11, 12, 13, 14, 15, 16, 17, 18, 19, 20, 21] rfl rfl rfl (by decide) (by decide) (by omega) (by decide) (Nat.zero_le _) (Nat.zero_le _) rfl rfl rfl rfl rfl ?_
    rintro v cc ⟨rfl, rfl⟩
    refine ⟨_, rfl, rfl, ?_⟩
    show AW Z 0 0 23 [some (.int a0), some (.ref 0), some (.int a2), some (.int a3), some (.int a4), some (.ref 8), none, none, none, none, none, none, none] [.int q3] ([kLives 0 8 v0, kTown 8 16 v1, kLaws 16 v2] : List (List zE)).flatten
    refine AW.run hZ hRm [52] 400 ?_
    show (¬ (a3 < 0 ∨ 6 ≤ Int32.toNatClampNeg a3) ∧ (¬ (a3 < 0 ∨ 6 ≤ Int32.toNatClampNeg a3) ∧ (¬ (a3 < 0 ∨ 6 ≤ Int32.toNatClampNeg a3) ∧ AW Z 0 0 52 [some (.int a0), some (.ref 0), some (.int a2), some (.int a3), some (.int a4), some (.ref 8), some (.int q3), some (.int ((Lives_purse v0) (Int32.toNatClampNeg a3))), some (.int ((Lives_debt v0) (Int32.toNatClampNeg a3))), some (.int ((Lives_home v0) (Int32.toNatClampNeg a3))), some (.int 0), none, none] [] ([kLives 0 8 v0, kTown 8 16 v1, kLaws 16 v2] : List (List zE)).flatten)))
    obtain ⟨b25, hf⟩ := zneed hf
    refine ⟨b25, ?_⟩
    obtain ⟨b24, hf⟩ := zneed hf
    refine ⟨b24, ?_⟩
    obtain ⟨b23, hf⟩ := zneed hf
    refine ⟨b23, ?_⟩
    obtain ⟨q14, h15, hf⟩ := zbind hf
    refine c_Deeds_goodBy_L52 hZ hR (by omega) hN hRm N N v0 v1 v2 a0 a2 a3 a4 q3 ((Lives_purse v0) (Int32.toNatClampNeg a3)) ((Lives_debt v0) (Int32.toNatClampNeg a3)) ((Lives_home v0) (Int32.toNatClampNeg a3)) 0 q14 h15 ?_
    show AW Z 0 0 154 [none, some (.ref 0), some (.int a2), some (.int a3), none, some (.ref 8), some (.int q3), some (.int q14.1), some (.int q14.2.1), some (.int q14.2.2), none, none, none] [] ([kLives 0 8 v0, kTown 8 16 v1, kLaws 16 v2] : List (List zE)).flatten
    refine AW.run hZ hRm [185] 400 ?_
    show (¬ (a3 < 0 ∨ 6 ≤ Int32.toNatClampNeg a3) ∧ AW Z 0 0 185 [none, some (.ref 0), some (.int a2), some (.int a3), none, some (.ref 8), some (.int q3), some (.int q14.1), some (.int q14.2.1), some (.int q14.2.2), some (.int (if 0 < (q14.1 - ((Lives_hidden v0) (Int32.toNatClampNeg a3))) then (q14.1 - ((Lives_hidden v0) (Int32.toNatClampNeg a3))) else 0)), none, none] [.int a2, .ref 8, .int q3, .int q14.2.2, .int q14.2.1, .int (if 0 < (q14.1 - ((Lives_hidden v0) (Int32.toNatClampNeg a3))) then (q14.1 - ((Lives_hidden v0) (Int32.toNatClampNeg a3))) else 0), .ref 16] ([kLives 0 8 v0, kTown 8 16 v1, kLaws 16 v2] : List (List zE)).flatten)
    obtain ⟨b22, hf⟩ := zneed hf
    refine ⟨b22, ?_⟩
    obtain ⟨q16, h21, hf⟩ := zbind hf
    refine AW.callVc hZ hR hN (c_Town_kindOf N v1 v2 a2 q16 h21) zMX8_kindOf_ok rfl rfl zK_BorrowedLives_Deeds_71 zV_X8_kindOf rfl [8, 8, 6] [1, 2] [8, 9, 10, 11, 12, 13, 14, 15, 16, 17, 18, 19, 20, 21] rfl rfl rfl (by decide) (by decide) (by omega) (by decide) (Nat.zero_le _) (Nat.zero_le _) rfl rfl rfl rfl rfl ?_
    rintro v cc ⟨rfl, rfl⟩
    refine ⟨_, rfl, rfl, ?_⟩
    show AW Z 0 0 188 [none, some (.ref 0), some (.int a2), some (.int a3), none, some (.ref 8), some (.int q3), some (.int q14.1), some (.int q14.2.1), some (.int q14.2.2), some (.int (if 0 < (q14.1 - ((Lives_hidden v0) (Int32.toNatClampNeg a3))) then (q14.1 - ((Lives_hidden v0) (Int32.toNatClampNeg a3))) else 0)), none, none] [.int q16, .int q3, .int q14.2.2, .int q14.2.1, .int (if 0 < (q14.1 - ((Lives_hidden v0) (Int32.toNatClampNeg a3))) then (q14.1 - ((Lives_hidden v0) (Int32.toNatClampNeg a3))) else 0), .ref 16] ([kLives 0 8 v0, kTown 8 16 v1, kLaws 16 v2] : List (List zE)).flatten
    obtain ⟨q17, h20, hf⟩ := zbind hf
    refine AW.callVc hZ hR hN (c_Laws_setFacts N v2 (if 0 < (q14.1 - ((Lives_hidden v0) (Int32.toNatClampNeg a3))) then (q14.1 - ((Lives_hidden v0) (Int32.toNatClampNeg a3))) else 0) q14.2.1 q14.2.2 q3 q16 q17 h20) zMX2_setFacts_ok rfl rfl zK_BorrowedLives_Deeds_74 zV_X2_setFacts rfl [8, 8, 6] [2] [16, 17, 18, 19, 20, 21] rfl rfl rfl (by decide) (by decide) (by omega) (by decide) (Nat.zero_le _) (Nat.zero_le _) rfl rfl rfl rfl rfl ?_
    rintro v cc ⟨rfl, rfl⟩
    refine ⟨_, rfl, rfl, ?_⟩
    show AW Z 0 0 191 [none, some (.ref 0), some (.int a2), some (.int a3), none, some (.ref 8), some (.int q3), some (.int q14.1), some (.int q14.2.1), some (.int q14.2.2), some (.int (if 0 < (q14.1 - ((Lives_hidden v0) (Int32.toNatClampNeg a3))) then (q14.1 - ((Lives_hidden v0) (Int32.toNatClampNeg a3))) else 0)), none, none] [] ([kLives 0 8 v0, kTown 8 16 v1, kLaws 16 (Laws_facts_s v2 q17)] : List (List zE)).flatten
    refine AW.run hZ hRm [197] 400 ?_
    show AW Z 0 0 197 [none, some (.ref 0), some (.int a2), some (.int a3), none, some (.ref 8), some (.int q3), some (.int q14.1), some (.int q14.2.1), some (.int q14.2.2), some (.int (if 0 < (q14.1 - ((Lives_hidden v0) (Int32.toNatClampNeg a3))) then (q14.1 - ((Lives_hidden v0) (Int32.toNatClampNeg a3))) else 0)), none, none] [.int 2, .ref 16] ([kLives 0 8 v0, kTown 8 16 v1, kLaws 16 (Laws_facts_s v2 q17)] : List (List zE)).flatten
    obtain ⟨q18, h19, hf⟩ := zbind hf
    refine AW.callVc hZ hR hN (c_Laws_valueOf N (Laws_facts_s v2 q17) 2 q18 h19) zMX2_valueOf_ok rfl rfl zK_BorrowedLives_Deeds_80 zV_X2_valueOf rfl [8, 8, 6] [2] [16, 17, 18, 19, 20, 21] rfl rfl rfl (by decide) (by decide) (by omega) (by decide) (Nat.zero_le _) (Nat.zero_le _) rfl rfl rfl rfl rfl ?_
    rintro v cc ⟨rfl, rfl⟩
    refine ⟨_, rfl, rfl, ?_⟩
    show AW Z 0 0 200 [none, some (.ref 0), some (.int a2), some (.int a3), none, some (.ref 8), some (.int q3), some (.int q14.1), some (.int q14.2.1), some (.int q14.2.2), some (.int (if 0 < (q14.1 - ((Lives_hidden v0) (Int32.toNatClampNeg a3))) then (q14.1 - ((Lives_hidden v0) (Int32.toNatClampNeg a3))) else 0)), none, none] [.int q18.1] ([kLives 0 8 v0, kTown 8 16 v1, kLaws 16 (Laws_stack_s (Laws_facts_s v2 q17) q18.2)] : List (List zE)).flatten
    cases hf
    exact AW.iret hZ hE rfl rfl rfl rfl (Nat.le_refl 0) (Nat.le_refl 0) rfl ⟨rfl, rfl⟩
  · rw [if_pos c2] at hf
    cases hf
    exact AW.iret hZ hE rfl rfl rfl rfl (Nat.le_refl 0) (Nat.le_refl 0) rfl ⟨rfl, rfl⟩
def f_Deeds_seek_L10 (N : Nat) : Nat → VDeeds → VLives → VTown → VLaws → Int32 → Int32 → Int32 → Int32 → Int32 → Int32 → Int32 → (Nat → Int32) → (Nat → Int32) → Option (Int32 × Int32 × (Nat → Int32) × (Nat → Int32))
  | 0, _, _, _, _, _, _, _, _, _, _, _, _, _ => none
  | fuel + 1, v0, v1, v2, v3, y2, y3, y4, y5, x6, m_bestGood0, m_bestRow1, m_facts2, m_stack3 => (if (y5 ≤ x6) then (some (m_bestGood0, m_bestRow1, m_facts2, m_stack3)) else ((f_Deeds_goodBy N v1 v2 (Laws_stack_s (Laws_facts_s v3 m_facts2) m_stack3) x6 y2 y3 y4).bind (fun q3 => (zlet ((if (x6 = 0) then q3.1 else (if (q3.1 ≤ m_bestGood0) then m_bestGood0 else q3.1)) : Int32) (fun z7 => (zlet ((if (x6 = 0) then x6 else (if (q3.1 ≤ m_bestGood0) then m_bestRow1 else x6)) : Int32) (fun z8 => (f_Deeds_seek_L10 N fuel v0 v1 v2 v3 y2 y3 y4 y5 (x6 + 1) z7 z8 q3.2.1 q3.2.2))))))))
def f_Deeds_seek (N : Nat) (v0 : VDeeds) (v1 : VLives) (v2 : VTown) (v3 : VLaws) (a2 : Int32) (a3 : Int32) (a4 : Int32) : Option (Int32 × Int32 × (Nat → Int32) × (Nat → Int32)) := ((f_Deeds_rowsOf N a4).bind (fun q1 => ((f_Deeds_seek_L10 N N v0 v1 v2 v3 a2 a3 a4 q1 0 (Deeds_bestGood v0) (Deeds_bestRow v0) (Laws_facts v3) (Laws_stack v3)).bind (fun q10 => (some (q10.1, q10.2.1, q10.2.2.1, q10.2.2.2))))))
set_option maxRecDepth 20000 in
set_option maxHeartbeats 4000000 in
theorem c_Deeds_seek_L10 {Z : zCtx} {D n0w nf mcw msw : Nat} (hZ : zOk Z zMX0_seek) (hR : zCan Z D mcw msw) (hDd : 4 ≤ D) (hN : zNew Z n0w nf) (hRm : zRoom Z 0 0) (N : Nat) : ∀ (fuel : Nat) (v0 : VDeeds) (v1 : VLives) (v2 : VTown) (v3 : VLaws) (y2 : Int32) (y3 : Int32) (y4 : Int32) (y5 : Int32) (x6 : Int32) (m_bestGood0 : Int32) (m_bestRow1 : Int32) (m_facts2 : (Nat → Int32)) (m_stack3 : (Nat → Int32)) (q : (Int32 × Int32 × (Nat → Int32) × (Nat → Int32))), f_Deeds_seek_L10 N fuel v0 v1 v2 v3 y2 y3 y4 y5 x6 m_bestGood0 m_bestRow1 m_facts2 m_stack3 = some q → (AW Z 0 0 61 [none, none, none, none, none, none, none, none] [] ([kDeeds 0 (Deeds_bestRow_s (Deeds_bestGood_s v0 q.1) q.2.1), kLives 1 9 v1, kTown 9 17 v2, kLaws 17 (Laws_stack_s (Laws_facts_s v3 q.2.2.1) q.2.2.2)] : List (List zE)).flatten) → AW Z 0 0 10 [some (.ref 0), some (.ref 1), some (.int y2), some (.int y3), some (.int y4), some (.int y5), some (.int x6), none] [] ([kDeeds 0 (Deeds_bestRow_s (Deeds_bestGood_s v0 m_bestGood0) m_bestRow1), kLives 1 9 v1, kTown 9 17 v2, kLaws 17 (Laws_stack_s (Laws_facts_s v3 m_facts2) m_stack3)] : List (List zE)).flatten := by
  intro fuel
  induction fuel with
  | zero =>
    intro v0 v1 v2 v3 y2 y3 y4 y5 x6 m_bestGood0 m_bestRow1 m_facts2 m_stack3 q hf hk0
    simp [f_Deeds_seek_L10] at hf
  | succ fuel ih =>
    intro v0 v1 v2 v3 y2 y3 y4 y5 x6 m_bestGood0 m_bestRow1 m_facts2 m_stack3 q hf hk0
    rw [f_Deeds_seek_L10] at hf
    refine AW.run hZ hRm [24, 61] 400 ?_
    show (((y5 ≤ x6) → AW Z 0 0 61 [some (.ref 0), some (.ref 1), some (.int y2), some (.int y3), some (.int y4), some (.int y5), some (.int x6), none] [] ([kDeeds 0 (Deeds_bestRow_s (Deeds_bestGood_s v0 m_bestGood0) m_bestRow1), kLives 1 9 v1, kTown 9 17 v2, kLaws 17 (Laws_stack_s (Laws_facts_s v3 m_facts2) m_stack3)] : List (List zE)).flatten) ∧ (¬ (y5 ≤ x6) → AW Z 0 0 24 [some (.ref 0), some (.ref 1), some (.int y2), some (.int y3), some (.int y4), some (.int y5), some (.int x6), none] [.int y4, .int y3, .int y2, .ref 1, .int x6] ([kDeeds 0 (Deeds_bestRow_s (Deeds_bestGood_s v0 m_bestGood0) m_bestRow1), kLives 1 9 v1, kTown 9 17 v2, kLaws 17 (Laws_stack_s (Laws_facts_s v3 m_facts2) m_stack3)] : List (List zE)).flatten))
    refine ⟨fun c2 => ?_, fun c2 => ?_⟩
    · rw [if_pos c2] at hf
      cases hf
      refine AW.forget [false, false, false, false, false, false, false, false] ?_
      show AW Z 0 0 61 [none, none, none, none, none, none, none, none] [] ([kDeeds 0 (Deeds_bestRow_s (Deeds_bestGood_s v0 m_bestGood0) m_bestRow1), kLives 1 9 v1, kTown 9 17 v2, kLaws 17 (Laws_stack_s (Laws_facts_s v3 m_facts2) m_stack3)] : List (List zE)).flatten
      exact hk0
    · rw [if_neg c2] at hf
      obtain ⟨q3, h9, hf⟩ := zbind hf
      refine AW.callSc hZ hR hN (c_Deeds_goodBy N v1 v2 (Laws_stack_s (Laws_facts_s v3 m_facts2) m_stack3) x6 y2 y3 y4 q3 h9) zMX0_goodBy_ok rfl rfl zK_BorrowedLives_Deeds_22 zV_X0_goodBy rfl [1, 8, 8, 6] [1, 2, 3] [1, 2, 3, 4, 5, 6, 7, 8, 9, 10, 11, 12, 13, 14, 15, 16, 17, 18, 19, 20, 21, 22] rfl rfl rfl (by decide) (by decide) (by omega) (by decide) (Nat.zero_le _) (Nat.zero_le _) rfl rfl ?_
      rintro v cc ⟨rfl, rfl⟩
      refine ⟨_, rfl, rfl, ?_⟩
      show AW Z 0 0 27 [some (.ref 0), some (.ref 1), some (.int y2), some (.int y3), some (.int y4), some (.int y5), some (.int x6), none] [.int q3.1] ([kDeeds 0 (Deeds_bestRow_s (Deeds_bestGood_s v0 m_bestGood0) m_bestRow1), kLives 1 9 v1, kTown 9 17 v2, kLaws 17 (Laws_stack_s (Laws_facts_s v3 q3.2.1) q3.2.2)] : List (List zE)).flatten
      refine AW.run hZ hRm [31] 400 ?_
      show AW Z 0 0 31 [some (.ref 0), some (.ref 1), some (.int y2), some (.int y3), some (.int y4), some (.int y5), some (.int x6), some (.int q3.1)] [.int x6] ([kDeeds 0 (Deeds_bestRow_s (Deeds_bestGood_s v0 m_bestGood0) m_bestRow1), kLives 1 9 v1, kTown 9 17 v2, kLaws 17 (Laws_stack_s (Laws_facts_s v3 q3.2.1) q3.2.2)] : List (List zE)).flatten
      suffices H4 : AW Z 0 0 55 [some (.ref 0), some (.ref 1), some (.int y2), some (.int y3), some (.int y4), some (.int y5), some (.int x6), none] [] ([kDeeds 0 (Deeds_bestRow_s (Deeds_bestGood_s v0 (if (x6 = 0) then q3.1 else (if (q3.1 ≤ m_bestGood0) then m_bestGood0 else q3.1))) (if (x6 = 0) then x6 else (if (q3.1 ≤ m_bestGood0) then m_bestRow1 else x6))), kLives 1 9 v1, kTown 9 17 v2, kLaws 17 (Laws_stack_s (Laws_facts_s v3 q3.2.1) q3.2.2)] : List (List zE)).flatten from by
        refine AW.run hZ hRm [55] 400 ?_
        show (((x6 = 0) → AW Z 0 0 55 [some (.ref 0), some (.ref 1), some (.int y2), some (.int y3), some (.int y4), some (.int y5), some (.int x6), some (.int q3.1)] [] ([kDeeds 0 (Deeds_bestRow_s (Deeds_bestGood_s v0 q3.1) x6), kLives 1 9 v1, kTown 9 17 v2, kLaws 17 (Laws_stack_s (Laws_facts_s v3 q3.2.1) q3.2.2)] : List (List zE)).flatten) ∧ (¬ (x6 = 0) → (((q3.1 ≤ m_bestGood0) → AW Z 0 0 55 [some (.ref 0), some (.ref 1), some (.int y2), some (.int y3), some (.int y4), some (.int y5), some (.int x6), some (.int q3.1)] [] ([kDeeds 0 (Deeds_bestRow_s (Deeds_bestGood_s v0 m_bestGood0) m_bestRow1), kLives 1 9 v1, kTown 9 17 v2, kLaws 17 (Laws_stack_s (Laws_facts_s v3 q3.2.1) q3.2.2)] : List (List zE)).flatten) ∧ (¬ (q3.1 ≤ m_bestGood0) → AW Z 0 0 55 [some (.ref 0), some (.ref 1), some (.int y2), some (.int y3), some (.int y4), some (.int y5), some (.int x6), some (.int q3.1)] [] ([kDeeds 0 (Deeds_bestRow_s (Deeds_bestGood_s v0 q3.1) x6), kLives 1 9 v1, kTown 9 17 v2, kLaws 17 (Laws_stack_s (Laws_facts_s v3 q3.2.1) q3.2.2)] : List (List zE)).flatten))))
        refine ⟨fun c5 => ?_, fun c5 => ?_⟩
        · refine AW.forget [true, true, true, true, true, true, true, false] ?_
          show AW Z 0 0 55 [some (.ref 0), some (.ref 1), some (.int y2), some (.int y3), some (.int y4), some (.int y5), some (.int x6), none] [] ([kDeeds 0 (Deeds_bestRow_s (Deeds_bestGood_s v0 q3.1) x6), kLives 1 9 v1, kTown 9 17 v2, kLaws 17 (Laws_stack_s (Laws_facts_s v3 q3.2.1) q3.2.2)] : List (List zE)).flatten
          simpa only [if_pos c5] using H4
        · refine ⟨fun c6 => ?_, fun c6 => ?_⟩
          · refine AW.forget [true, true, true, true, true, true, true, false] ?_
            show AW Z 0 0 55 [some (.ref 0), some (.ref 1), some (.int y2), some (.int y3), some (.int y4), some (.int y5), some (.int x6), none] [] ([kDeeds 0 (Deeds_bestRow_s (Deeds_bestGood_s v0 m_bestGood0) m_bestRow1), kLives 1 9 v1, kTown 9 17 v2, kLaws 17 (Laws_stack_s (Laws_facts_s v3 q3.2.1) q3.2.2)] : List (List zE)).flatten
            simpa only [if_neg c5, if_pos c6] using H4
          · refine AW.forget [true, true, true, true, true, true, true, false] ?_
            show AW Z 0 0 55 [some (.ref 0), some (.ref 1), some (.int y2), some (.int y3), some (.int y4), some (.int y5), some (.int x6), none] [] ([kDeeds 0 (Deeds_bestRow_s (Deeds_bestGood_s v0 q3.1) x6), kLives 1 9 v1, kTown 9 17 v2, kLaws 17 (Laws_stack_s (Laws_facts_s v3 q3.2.1) q3.2.2)] : List (List zE)).flatten
            simpa only [if_neg c5, if_neg c6] using H4
      replace hf := zlet_gen hf
      generalize ((if (x6 = 0) then q3.1 else (if (q3.1 ≤ m_bestGood0) then m_bestGood0 else q3.1)) : Int32) = z7 at hf ⊢
      replace hf := zlet_gen hf
      generalize ((if (x6 = 0) then x6 else (if (q3.1 ≤ m_bestGood0) then m_bestRow1 else x6)) : Int32) = z8 at hf ⊢
      refine AW.run hZ hRm [10] 400 ?_
      show AW Z 0 0 10 [some (.ref 0), some (.ref 1), some (.int y2), some (.int y3), some (.int y4), some (.int y5), some (.int (x6 + 1)), none] [] ([kDeeds 0 (Deeds_bestRow_s (Deeds_bestGood_s v0 z7) z8), kLives 1 9 v1, kTown 9 17 v2, kLaws 17 (Laws_stack_s (Laws_facts_s v3 q3.2.1) q3.2.2)] : List (List zE)).flatten
      exact ih v0 v1 v2 v3 y2 y3 y4 y5 (x6 + 1) z7 z8 q3.2.1 q3.2.2 q hf hk0
set_option maxRecDepth 20000 in
set_option maxHeartbeats 4000000 in
theorem c_Deeds_seek (N : Nat) (v0 : VDeeds) (v1 : VLives) (v2 : VTown) (v3 : VLaws) (a2 : Int32) (a3 : Int32) (a4 : Int32) (R : Int32 × Int32 × (Nat → Int32) × (Nat → Int32)) (hf : f_Deeds_seek N v0 v1 v2 v3 a2 a3 a4 = some R) : Ct zMX0_seek 4 0 0 0 [.ref 0, .ref 1, .int a2, .int a3, .int a4] ([kDeeds 0 v0, kLives 1 9 v1, kTown 9 17 v2, kLaws 17 v3] : List (List zE)).flatten (fun v cc => v = none ∧ cc = ([kDeeds 0 (Deeds_bestRow_s (Deeds_bestGood_s v0 R.1) R.2.1), kLives 1 9 v1, kTown 9 17 v2, kLaws 17 (Laws_stack_s (Laws_facts_s v3 R.2.2.1) R.2.2.2)] : List (List zE)).flatten) := by
  refine Ct.of zMX0_seek_ok (by decide) (Nat.le_of_ble_eq_true rfl) ?_
  intro Z hZ hR hN hE
  have hRm : zRoom Z 0 0 := zRoom0 Z
  unfold f_Deeds_seek at hf
  show AW Z 0 0 0 [some (.ref 0), some (.ref 1), some (.int a2), some (.int a3), some (.int a4), none, none, none] [] ([kDeeds 0 v0, kLives 1 9 v1, kTown 9 17 v2, kLaws 17 v3] : List (List zE)).flatten
  refine AW.run hZ hRm [2] 400 ?_
  show AW Z 0 0 2 [some (.ref 0), some (.ref 1), some (.int a2), some (.int a3), some (.int a4), none, none, none] [.int a4] ([kDeeds 0 v0, kLives 1 9 v1, kTown 9 17 v2, kLaws 17 v3] : List (List zE)).flatten
  obtain ⟨q1, h12, hf⟩ := zbind hf
  refine AW.callSc hZ hR hN (c_Deeds_rowsOf N a4 q1 h12) zMX0_rowsOf_ok rfl rfl zK_BorrowedLives_Deeds_18 zV_X0_rowsOf rfl [1, 8, 8, 6] [] [] rfl rfl rfl (by decide) (by decide) (by omega) (by decide) (Nat.zero_le _) (Nat.zero_le _) rfl rfl ?_
  rintro v cc ⟨rfl, rfl⟩
  refine ⟨_, rfl, rfl, ?_⟩
  show AW Z 0 0 5 [some (.ref 0), some (.ref 1), some (.int a2), some (.int a3), some (.int a4), none, none, none] [.int q1] ([kDeeds 0 v0, kLives 1 9 v1, kTown 9 17 v2, kLaws 17 v3] : List (List zE)).flatten
  refine AW.run hZ hRm [10] 400 ?_
  show AW Z 0 0 10 [some (.ref 0), some (.ref 1), some (.int a2), some (.int a3), some (.int a4), some (.int q1), some (.int 0), none] [] ([kDeeds 0 v0, kLives 1 9 v1, kTown 9 17 v2, kLaws 17 v3] : List (List zE)).flatten
  obtain ⟨q10, h11, hf⟩ := zbind hf
  refine c_Deeds_seek_L10 hZ hR (by omega) hN hRm N N v0 v1 v2 v3 a2 a3 a4 q1 0 (Deeds_bestGood v0) (Deeds_bestRow v0) (Laws_facts v3) (Laws_stack v3) q10 h11 ?_
  show AW Z 0 0 61 [none, none, none, none, none, none, none, none] [] ([kDeeds 0 (Deeds_bestRow_s (Deeds_bestGood_s v0 q10.1) q10.2.1), kLives 1 9 v1, kTown 9 17 v2, kLaws 17 (Laws_stack_s (Laws_facts_s v3 q10.2.2.1) q10.2.2.2)] : List (List zE)).flatten
  cases hf
  exact AW.vret hZ hE rfl rfl rfl (Nat.le_refl 0) (Nat.le_refl 0) rfl ⟨rfl, rfl⟩
def f_Deeds_deedOf (N : Nat) (v0 : VDeeds) (a1 : Int32) (a2 : Int32) : Option (Int32) := ((f_Deeds_deedIn N (Deeds_bestRow v0) a1 a2).bind (fun q1 => (some q1)))
set_option maxRecDepth 20000 in
set_option maxHeartbeats 4000000 in
theorem c_Deeds_deedOf (N : Nat) (v0 : VDeeds) (a1 : Int32) (a2 : Int32) (R : Int32) (hf : f_Deeds_deedOf N v0 a1 a2 = some R) : Ct zMX0_deedOf 3 0 0 0 [.ref 0, .int a1, .int a2] ([kDeeds 0 v0] : List (List zE)).flatten (fun v cc => v = some (.int R) ∧ cc = ([kDeeds 0 v0] : List (List zE)).flatten) := by
  refine Ct.of zMX0_deedOf_ok (by decide) (Nat.le_of_ble_eq_true rfl) ?_
  intro Z hZ hR hN hE
  have hRm : zRoom Z 0 0 := zRoom0 Z
  unfold f_Deeds_deedOf at hf
  show AW Z 0 0 0 [some (.ref 0), some (.int a1), some (.int a2)] [] ([kDeeds 0 v0] : List (List zE)).flatten
  refine AW.run hZ hRm [6] 400 ?_
  show AW Z 0 0 6 [some (.ref 0), some (.int a1), some (.int a2)] [.int a2, .int a1, .int (Deeds_bestRow v0)] ([kDeeds 0 v0] : List (List zE)).flatten
  obtain ⟨q1, h2, hf⟩ := zbind hf
  refine AW.callSc hZ hR hN (c_Deeds_deedIn N (Deeds_bestRow v0) a1 a2 q1 h2) zMX0_deedIn_ok rfl rfl zK_BorrowedLives_Deeds_26 zV_X0_deedIn rfl [1] [] [] rfl rfl rfl (by decide) (by decide) (by omega) (by decide) (Nat.zero_le _) (Nat.zero_le _) rfl rfl ?_
  rintro v cc ⟨rfl, rfl⟩
  refine ⟨_, rfl, rfl, ?_⟩
  show AW Z 0 0 9 [some (.ref 0), some (.int a1), some (.int a2)] [.int q1] ([kDeeds 0 v0] : List (List zE)).flatten
  cases hf
  exact AW.iret hZ hE rfl rfl rfl rfl (Nat.le_refl 0) (Nat.le_refl 0) rfl ⟨rfl, rfl⟩
def f_Forecast_forget (N : Nat) (v0 : VForecast) (v1 : VTown) (v2 : VLaws) (v3 : VLots) (v4 : VLives) (v5 : VLives) : Option (Int32 × Int32) := (some (0, (-1)))
set_option maxRecDepth 20000 in
set_option maxHeartbeats 4000000 in
theorem c_Forecast_forget (N : Nat) (v0 : VForecast) (v1 : VTown) (v2 : VLaws) (v3 : VLots) (v4 : VLives) (v5 : VLives) (R : Int32 × Int32) (hf : f_Forecast_forget N v0 v1 v2 v3 v4 v5 = some R) : Ct zMX1_forget 1 0 0 0 [.ref 0] ([kForecast 0 5 19 22 30 v0, kTown 5 13 v1, kLaws 13 v2, kLots 19 v3, kLives 22 5 v4, kLives 30 5 v5] : List (List zE)).flatten (fun v cc => v = none ∧ cc = ([kForecast 0 5 19 22 30 (Forecast_prepared_s (Forecast_ready_s v0 R.1) R.2), kTown 5 13 v1, kLaws 13 v2, kLots 19 v3, kLives 22 5 v4, kLives 30 5 v5] : List (List zE)).flatten) := by
  refine Ct.of zMX1_forget_ok (by decide) (Nat.le_of_ble_eq_true rfl) ?_
  intro Z hZ hR hN hE
  have hRm : zRoom Z 0 0 := zRoom0 Z
  unfold f_Forecast_forget at hf
  show AW Z 0 0 0 [some (.ref 0)] [] ([kForecast 0 5 19 22 30 v0, kTown 5 13 v1, kLaws 13 v2, kLots 19 v3, kLives 22 5 v4, kLives 30 5 v5] : List (List zE)).flatten
  refine AW.run hZ hRm [10] 400 ?_
  show (((0 : Int32) = 0 ∨ (0 : Int32) = 1) ∧ AW Z 0 0 10 [some (.ref 0)] [] ([kForecast 0 5 19 22 30 (Forecast_prepared_s (Forecast_ready_s v0 0) (-1)), kTown 5 13 v1, kLaws 13 v2, kLots 19 v3, kLives 22 5 v4, kLives 30 5 v5] : List (List zE)).flatten)
  refine ⟨(by decide), ?_⟩
  cases hf
  exact AW.vret hZ hE rfl rfl rfl (Nat.le_refl 0) (Nat.le_refl 0) rfl ⟨rfl, rfl⟩
def f_Lives_copyFrom (N : Nat) (v0 : VLives) (v1 : VTown) (v2 : VLaws) (v3 : VLives) : Option ((Nat → Int32) × (Nat → Int32) × (Nat → Int32) × (Nat → Int32) × (Nat → Int32) × (Nat → Int32) × (Nat → Int32) × Int32 × Int32 × Int32 × Int32) := (if ((Lives_away v3) = 0 ∨ (Lives_away v3) = 1) then (some ((va_cpy (Lives_purse v3) (Lives_purse v0) (Int32.toNatClampNeg 0) (Int32.toNatClampNeg 0) (Int32.toNatClampNeg 6)), (va_cpy (Lives_debt v3) (Lives_debt v0) (Int32.toNatClampNeg 0) (Int32.toNatClampNeg 0) (Int32.toNatClampNeg 6)), (va_cpy (Lives_home v3) (Lives_home v0) (Int32.toNatClampNeg 0) (Int32.toNatClampNeg 0) (Int32.toNatClampNeg 6)), (va_cpy (Lives_hidden v3) (Lives_hidden v0) (Int32.toNatClampNeg 0) (Int32.toNatClampNeg 0) (Int32.toNatClampNeg 6)), (va_cpy (Lives_self v3) (Lives_self v0) (Int32.toNatClampNeg 0) (Int32.toNatClampNeg 0) (Int32.toNatClampNeg 6)), (va_cpy (Lives_worthThen v3) (Lives_worthThen v0) (Int32.toNatClampNeg 0) (Int32.toNatClampNeg 0) (Int32.toNatClampNeg 6)), (va_cpy (Lives_homeThen v3) (Lives_homeThen v0) (Int32.toNatClampNeg 0) (Int32.toNatClampNeg 0) (Int32.toNatClampNeg 6)), (Lives_away v3), (Lives_days v3), (Lives_homes v3), (Lives_harm v3))) else none)
set_option maxRecDepth 20000 in
set_option maxHeartbeats 4000000 in
theorem c_Lives_copyFrom (N : Nat) (v0 : VLives) (v1 : VTown) (v2 : VLaws) (v3 : VLives) (R : (Nat → Int32) × (Nat → Int32) × (Nat → Int32) × (Nat → Int32) × (Nat → Int32) × (Nat → Int32) × (Nat → Int32) × Int32 × Int32 × Int32 × Int32) (hf : f_Lives_copyFrom N v0 v1 v2 v3 = some R) : Ct zMX3_copyFrom 2 0 0 0 [.ref 0, .ref 22] ([kLives 0 8 v0, kTown 8 16 v1, kLaws 16 v2, kLives 22 8 v3] : List (List zE)).flatten (fun v cc => v = none ∧ cc = ([kLives 0 8 (Lives_harm_s (Lives_homes_s (Lives_days_s (Lives_away_s (Lives_homeThen_s (Lives_worthThen_s (Lives_self_s (Lives_hidden_s (Lives_home_s (Lives_debt_s (Lives_purse_s v0 R.1) R.2.1) R.2.2.1) R.2.2.2.1) R.2.2.2.2.1) R.2.2.2.2.2.1) R.2.2.2.2.2.2.1) R.2.2.2.2.2.2.2.1) R.2.2.2.2.2.2.2.2.1) R.2.2.2.2.2.2.2.2.2.1) R.2.2.2.2.2.2.2.2.2.2), kTown 8 16 v1, kLaws 16 v2, kLives 22 8 v3] : List (List zE)).flatten) := by
  refine Ct.of zMX3_copyFrom_ok (by decide) (Nat.le_of_ble_eq_true rfl) ?_
  intro Z hZ hR hN hE
  have hRm : zRoom Z 0 0 := zRoom0 Z
  unfold f_Lives_copyFrom at hf
  show AW Z 0 0 0 [some (.ref 0), some (.ref 22)] [] ([kLives 0 8 v0, kTown 8 16 v1, kLaws 16 v2, kLives 22 8 v3] : List (List zE)).flatten
  refine AW.run hZ hRm [137] 400 ?_
  show ((zcpyOk 0 0 6 6 6) ∧ ((zcpyOk 0 0 6 6 6) ∧ ((zcpyOk 0 0 6 6 6) ∧ ((zcpyOk 0 0 6 6 6) ∧ ((zcpyOk 0 0 6 6 6) ∧ ((zcpyOk 0 0 6 6 6) ∧ ((zcpyOk 0 0 6 6 6) ∧ (((Lives_away v3) = 0 ∨ (Lives_away v3) = 1) ∧ AW Z 0 0 137 [some (.ref 0), some (.ref 22)] [] ([kLives 0 8 (Lives_harm_s (Lives_homes_s (Lives_days_s (Lives_away_s (Lives_homeThen_s (Lives_worthThen_s (Lives_self_s (Lives_hidden_s (Lives_home_s (Lives_debt_s (Lives_purse_s v0 (va_cpy (Lives_purse v3) (Lives_purse v0) (Int32.toNatClampNeg 0) (Int32.toNatClampNeg 0) (Int32.toNatClampNeg 6))) (va_cpy (Lives_debt v3) (Lives_debt v0) (Int32.toNatClampNeg 0) (Int32.toNatClampNeg 0) (Int32.toNatClampNeg 6))) (va_cpy (Lives_home v3) (Lives_home v0) (Int32.toNatClampNeg 0) (Int32.toNatClampNeg 0) (Int32.toNatClampNeg 6))) (va_cpy (Lives_hidden v3) (Lives_hidden v0) (Int32.toNatClampNeg 0) (Int32.toNatClampNeg 0) (Int32.toNatClampNeg 6))) (va_cpy (Lives_self v3) (Lives_self v0) (Int32.toNatClampNeg 0) (Int32.toNatClampNeg 0) (Int32.toNatClampNeg 6))) (va_cpy (Lives_worthThen v3) (Lives_worthThen v0) (Int32.toNatClampNeg 0) (Int32.toNatClampNeg 0) (Int32.toNatClampNeg 6))) (va_cpy (Lives_homeThen v3) (Lives_homeThen v0) (Int32.toNatClampNeg 0) (Int32.toNatClampNeg 0) (Int32.toNatClampNeg 6))) (Lives_away v3)) (Lives_days v3)) (Lives_homes v3)) (Lives_harm v3)), kTown 8 16 v1, kLaws 16 v2, kLives 22 8 v3] : List (List zE)).flatten))))))))
  refine ⟨(by unfold zcpyOk; decide), ?_⟩
  refine ⟨(by unfold zcpyOk; decide), ?_⟩
  refine ⟨(by unfold zcpyOk; decide), ?_⟩
  refine ⟨(by unfold zcpyOk; decide), ?_⟩
  refine ⟨(by unfold zcpyOk; decide), ?_⟩
  refine ⟨(by unfold zcpyOk; decide), ?_⟩
  refine ⟨(by unfold zcpyOk; decide), ?_⟩
  obtain ⟨b1, hf⟩ := zneedP hf
  refine ⟨b1, ?_⟩
  cases hf
  exact AW.vret hZ hE rfl rfl rfl (Nat.le_refl 0) (Nat.le_refl 0) rfl ⟨rfl, rfl⟩
