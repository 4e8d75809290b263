def f_R_moneyOf (N : Nat) (v0 : VR) (a1 : Int32) (a2 : Int32) (a3 : Int32) : Option (Int32) := (if (((a1 + 4) + a2) < 0 ∨ 1656 ≤ Int32.toNatClampNeg ((a1 + 4) + a2)) then none else (if (a3 = 0) then (if (((a1 + 22) + a2) < 0 ∨ 1656 ≤ Int32.toNatClampNeg ((a1 + 22) + a2)) then none else (if (0 ≤ (((R_state v0) (Int32.toNatClampNeg ((a1 + 4) + a2))) - ((R_state v0) (Int32.toNatClampNeg ((a1 + 22) + a2))))) then (some (((R_state v0) (Int32.toNatClampNeg ((a1 + 4) + a2))) - ((R_state v0) (Int32.toNatClampNeg ((a1 + 22) + a2))))) else (some 0))) else (if (0 ≤ (((R_state v0) (Int32.toNatClampNeg ((a1 + 4) + a2))) - 0)) then (some (((R_state v0) (Int32.toNatClampNeg ((a1 + 4) + a2))) - 0)) else (some 0))))
set_option maxRecDepth 20000 in
set_option maxHeartbeats 4000000 in
theorem c_R_moneyOf (N : Nat) (v0 : VR) (a1 : Int32) (a2 : Int32) (a3 : Int32) (R : Int32) (hf : f_R_moneyOf N v0 a1 a2 a3 = some R) : Ct zMX12_moneyOf 1 0 0 0 [.ref 0, .int a1, .int a2, .int a3] ([kR 0 v0] : List (List zE)).flatten (fun v cc => v = some (.int R) ∧ cc = ([kR 0 v0] : List (List zE)).flatten) := by
  refine Ct.of zMX12_moneyOf_ok (by decide) (Nat.le_of_ble_eq_true rfl) ?_
  intro Z hZ hR hN hE
  have hRm : zRoom Z 0 0 := zRoom0 Z
  unfold f_R_moneyOf at hf
  show AW Z 0 0 0 [some (.ref 0), some (.int a1), some (.int a2), some (.int a3), none] [] ([kR 0 v0] : List (List zE)).flatten
  refine AW.run hZ hRm [43] 400 ?_
  show (¬ (((a1 + 4) + a2) < 0 ∨ 1656 ≤ Int32.toNatClampNeg ((a1 + 4) + a2)) ∧ (((a3 = 0) → (¬ (((a1 + 22) + a2) < 0 ∨ 1656 ≤ Int32.toNatClampNeg ((a1 + 22) + a2)) ∧ (((0 ≤ (((R_state v0) (Int32.toNatClampNeg ((a1 + 4) + a2))) - ((R_state v0) (Int32.toNatClampNeg ((a1 + 22) + a2))))) → AW Z 0 0 43 [some (.ref 0), some (.int a1), some (.int a2), some (.int a3), some (.int (((R_state v0) (Int32.toNatClampNeg ((a1 + 4) + a2))) - ((R_state v0) (Int32.toNatClampNeg ((a1 + 22) + a2)))))] [.int (((R_state v0) (Int32.toNatClampNeg ((a1 + 4) + a2))) - ((R_state v0) (Int32.toNatClampNeg ((a1 + 22) + a2))))] ([kR 0 v0] : List (List zE)).flatten) ∧ (¬ (0 ≤ (((R_state v0) (Int32.toNatClampNeg ((a1 + 4) + a2))) - ((R_state v0) (Int32.toNatClampNeg ((a1 + 22) + a2))))) → AW Z 0 0 43 [some (.ref 0), some (.int a1), some (.int a2), some (.int a3), some (.int (((R_state v0) (Int32.toNatClampNeg ((a1 + 4) + a2))) - ((R_state v0) (Int32.toNatClampNeg ((a1 + 22) + a2)))))] [.int 0] ([kR 0 v0] : List (List zE)).flatten)))) ∧ (¬ (a3 = 0) → (((0 ≤ (((R_state v0) (Int32.toNatClampNeg ((a1 + 4) + a2))) - 0)) → AW Z 0 0 43 [some (.ref 0), some (.int a1), some (.int a2), some (.int a3), some (.int (((R_state v0) (Int32.toNatClampNeg ((a1 + 4) + a2))) - 0))] [.int (((R_state v0) (Int32.toNatClampNeg ((a1 + 4) + a2))) - 0)] ([kR 0 v0] : List (List zE)).flatten) ∧ (¬ (0 ≤ (((R_state v0) (Int32.toNatClampNeg ((a1 + 4) + a2))) - 0)) → AW Z 0 0 43 [some (.ref 0), some (.int a1), some (.int a2), some (.int a3), some (.int (((R_state v0) (Int32.toNatClampNeg ((a1 + 4) + a2))) - 0))] [.int 0] ([kR 0 v0] : List (List zE)).flatten)))))
  obtain ⟨b5, hf⟩ := zneed hf
  refine ⟨b5, ?_⟩
  refine ⟨fun c1 => ?_, fun c1 => ?_⟩
  · rw [if_pos c1] at hf
    obtain ⟨b3, hf⟩ := zneed hf
    refine ⟨b3, ?_⟩
    refine ⟨fun c2 => ?_, fun c2 => ?_⟩
    · rw [if_pos c2] at hf
      cases hf
      exact AW.iret hZ hE rfl rfl rfl rfl (Nat.le_refl 0) (Nat.le_refl 0) rfl ⟨rfl, rfl⟩
    · rw [if_neg c2] at hf
      cases hf
      exact AW.iret hZ hE rfl rfl rfl rfl (Nat.le_refl 0) (Nat.le_refl 0) rfl ⟨rfl, rfl⟩
  · rw [if_neg c1] at hf
    refine ⟨fun c4 => ?_, fun c4 => ?_⟩
    · rw [if_pos c4] at hf
      cases hf
      exact AW.iret hZ hE rfl rfl rfl rfl (Nat.le_refl 0) (Nat.le_refl 0) rfl ⟨rfl, rfl⟩
    · rw [if_neg c4] at hf
      cases hf
      exact AW.iret hZ hE rfl rfl rfl rfl (Nat.le_refl 0) (Nat.le_refl 0) rfl ⟨rfl, rfl⟩
def f_R_laysFacts (N : Nat) (v0 : VR) (a1 : Int32) (a2 : Int32) (a3 : Int32) (a4 : Int32) : Option ((Nat → Int32)) := ((f_R_moneyOf N v0 a1 a2 a4).bind (fun q1 => (zlet ((upd (R_facts v0) (Int32.toNatClampNeg 0) q1) : (Nat → Int32)) (fun z2 => (if (((a1 + 10) + a2) < 0 ∨ 1656 ≤ Int32.toNatClampNeg ((a1 + 10) + a2)) then none else (zlet ((upd z2 (Int32.toNatClampNeg 1) ((R_state v0) (Int32.toNatClampNeg ((a1 + 10) + a2)))) : (Nat → Int32)) (fun z3 => (if (((a1 + 16) + a2) < 0 ∨ 1656 ≤ Int32.toNatClampNeg ((a1 + 16) + a2)) then none else (zlet ((upd z3 (Int32.toNatClampNeg 2) ((R_state v0) (Int32.toNatClampNeg ((a1 + 16) + a2)))) : (Nat → Int32)) (fun z4 => ((f_R_personOf N (R_facts_s v0 z4) a3 1).bind (fun q5 => (zlet ((upd z4 (Int32.toNatClampNeg 3) q5) : (Nat → Int32)) (fun z6 => ((f_R_personOf N (R_facts_s v0 z6) a3 0).bind (fun q7 => (zlet ((upd z6 (Int32.toNatClampNeg 4) q7) : (Nat → Int32)) (fun z8 => (some z8)))))))))))))))))))
set_option maxRecDepth 20000 in
set_option maxHeartbeats 4000000 in
theorem c_R_laysFacts (N : Nat) (v0 : VR) (a1 : Int32) (a2 : Int32) (a3 : Int32) (a4 : Int32) (R : (Nat → Int32)) (hf : f_R_laysFacts N v0 a1 a2 a3 a4 = some R) : Ct zMX12_laysFacts 2 0 0 0 [.ref 0, .int a1, .int a2, .int a3, .int a4] ([kR 0 v0] : List (List zE)).flatten (fun v cc => v = none ∧ cc = ([kR 0 (R_facts_s v0 R)] : List (List zE)).flatten) := by
  refine Ct.of zMX12_laysFacts_ok (by decide) (Nat.le_of_ble_eq_true rfl) ?_
  intro Z hZ hR hN hE
  have hRm : zRoom Z 0 0 := zRoom0 Z
  unfold f_R_laysFacts at hf
  show AW Z 0 0 0 [some (.ref 0), some (.int a1), some (.int a2), some (.int a3), some (.int a4)] [] ([kR 0 v0] : List (List zE)).flatten
  refine AW.run hZ hRm [10] 400 ?_
  show AW Z 0 0 10 [some (.ref 0), some (.int a1), some (.int a2), some (.int a3), some (.int a4)] [.int a4, .int a2, .int a1, .ref 0, .int 0, .ref 12] ([kR 0 v0] : List (List zE)).flatten
  obtain ⟨q1, h13, hf⟩ := zbind hf
  refine AW.callVc hZ hR hN (c_R_moneyOf N v0 a1 a2 a4 q1 h13) zMX12_moneyOf_ok rfl rfl zK_BorrowedLivesModel_323 zV_X12_moneyOf rfl [25] [0] [0, 1, 2, 3, 4, 5, 6, 7, 8, 9, 10, 11, 12, 13, 14, 15, 16, 17, 18, 19, 20, 21, 22, 23, 24] rfl rfl rfl (by decide) (by decide) (by omega) (by decide) (Nat.zero_le _) (Nat.zero_le _) rfl rfl rfl rfl rfl ?_
  rintro v cc ⟨rfl, rfl⟩
  refine ⟨_, rfl, rfl, ?_⟩
  show AW Z 0 0 13 [some (.ref 0), some (.int a1), some (.int a2), some (.int a3), some (.int a4)] [.int q1, .int 0, .ref 12] ([kR 0 v0] : List (List zE)).flatten
  refine AW.run hZ hRm [14] 400 ?_
  show (¬ ((0 : Int32) < 0 ∨ 5 ≤ Int32.toNatClampNeg 0) ∧ AW Z 0 0 14 [some (.ref 0), some (.int a1), some (.int a2), some (.int a3), some (.int a4)] [] ([kR 0 (R_facts_s v0 (upd (R_facts v0) (Int32.toNatClampNeg 0) q1))] : List (List zE)).flatten)
  refine ⟨(by decide), ?_⟩
  replace hf := zlet_gen hf
  generalize ((upd (R_facts v0) (Int32.toNatClampNeg 0) q1) : (Nat → Int32)) = z2 at hf ⊢
  as_aux_lemma =>
    refine AW.run hZ hRm [31] 400 ?_
    show (¬ (((a1 + 10) + a2) < 0 ∨ 1656 ≤ Int32.toNatClampNeg ((a1 + 10) + a2)) ∧ (¬ ((1 : Int32) < 0 ∨ 5 ≤ Int32.toNatClampNeg 1) ∧ AW Z 0 0 31 [some (.ref 0), some (.int a1), some (.int a2), some (.int a3), some (.int a4)] [] ([kR 0 (R_facts_s v0 (upd z2 (Int32.toNatClampNeg 1) ((R_state v0) (Int32.toNatClampNeg ((a1 + 10) + a2)))))] : List (List zE)).flatten))
    obtain ⟨b12, hf⟩ := zneed hf
    refine ⟨b12, ?_⟩
    refine ⟨(by decide), ?_⟩
    replace hf := zlet_gen hf
    generalize ((upd z2 (Int32.toNatClampNeg 1) ((R_state v0) (Int32.toNatClampNeg ((a1 + 10) + a2)))) : (Nat → Int32)) = z3 at hf ⊢
    as_aux_lemma =>
      refine AW.run hZ hRm [48] 400 ?_
      show (¬ (((a1 + 16) + a2) < 0 ∨ 1656 ≤ Int32.toNatClampNeg ((a1 + 16) + a2)) ∧ (¬ ((2 : Int32) < 0 ∨ 5 ≤ Int32.toNatClampNeg 2) ∧ AW Z 0 0 48 [some (.ref 0), some (.int a1), some (.int a2), some (.int a3), some (.int a4)] [] ([kR 0 (R_facts_s v0 (upd z3 (Int32.toNatClampNeg 2) ((R_state v0) (Int32.toNatClampNeg ((a1 + 16) + a2)))))] : List (List zE)).flatten))
      obtain ⟨b11, hf⟩ := zneed hf
      refine ⟨b11, ?_⟩
      refine ⟨(by decide), ?_⟩
      replace hf := zlet_gen hf
      generalize ((upd z3 (Int32.toNatClampNeg 2) ((R_state v0) (Int32.toNatClampNeg ((a1 + 16) + a2)))) : (Nat → Int32)) = z4 at hf ⊢
      as_aux_lemma =>
        refine AW.run hZ hRm [56] 400 ?_
        show AW Z 0 0 56 [some (.ref 0), some (.int a1), some (.int a2), some (.int a3), some (.int a4)] [.int 1, .int a3, .ref 0, .int 3, .ref 12] ([kR 0 (R_facts_s v0 z4)] : List (List zE)).flatten
        obtain ⟨q5, h10, hf⟩ := zbind hf
        refine AW.callVc hZ hR hN (c_R_personOf N (R_facts_s v0 z4) a3 1 q5 h10) zMX12_personOf_ok rfl rfl zK_BorrowedLivesModel_294 zV_X12_personOf rfl [25] [0] [0, 1, 2, 3, 4, 5, 6, 7, 8, 9, 10, 11, 12, 13, 14, 15, 16, 17, 18, 19, 20, 21, 22, 23, 24] rfl rfl rfl (by decide) (by decide) (by omega) (by decide) (Nat.zero_le _) (Nat.zero_le _) rfl rfl rfl rfl rfl ?_
        rintro v cc ⟨rfl, rfl⟩
        refine ⟨_, rfl, rfl, ?_⟩
        show AW Z 0 0 59 [some (.ref 0), some (.int a1), some (.int a2), some (.int a3), some (.int a4)] [.int q5, .int 3, .ref 12] ([kR 0 (R_facts_s v0 z4)] : List (List zE)).flatten
        refine AW.run hZ hRm [60] 400 ?_
        show (¬ ((3 : Int32) < 0 ∨ 5 ≤ Int32.toNatClampNeg 3) ∧ AW Z 0 0 60 [some (.ref 0), some (.int a1), some (.int a2), some (.int a3), some (.int a4)] [] ([kR 0 (R_facts_s v0 (upd z4 (Int32.toNatClampNeg 3) q5))] : List (List zE)).flatten)
        refine ⟨(by decide), ?_⟩
        replace hf := zlet_gen hf
        generalize ((upd z4 (Int32.toNatClampNeg 3) q5) : (Nat → Int32)) = z6 at hf ⊢
        as_aux_lemma =>
          refine AW.run hZ hRm [68] 400 ?_
          show AW Z 0 0 68 [some (.ref 0), some (.int a1), some (.int a2), some (.int a3), some (.int a4)] [.int 0, .int a3, .ref 0, .int 4, .ref 12] ([kR 0 (R_facts_s v0 z6)] : List (List zE)).flatten
          obtain ⟨q7, h9, hf⟩ := zbind hf
          refine AW.callVc hZ hR hN (c_R_personOf N (R_facts_s v0 z6) a3 0 q7 h9) zMX12_personOf_ok rfl rfl zK_BorrowedLivesModel_294 zV_X12_personOf rfl [25] [0] [0, 1, 2, 3, 4, 5, 6, 7, 8, 9, 10, 11, 12, 13, 14, 15, 16, 17, 18, 19, 20, 21, 22, 23, 24] rfl rfl rfl (by decide) (by decide) (by omega) (by decide) (Nat.zero_le _) (Nat.zero_le _) rfl rfl rfl rfl rfl ?_
          rintro v cc ⟨rfl, rfl⟩
          refine ⟨_, rfl, rfl, ?_⟩
          show AW Z 0 0 71 [some (.ref 0), some (.int a1), some (.int a2), some (.int a3), some (.int a4)] [.int q7, .int 4, .ref 12] ([kR 0 (R_facts_s v0 z6)] : List (List zE)).flatten
          refine AW.run hZ hRm [72] 400 ?_
          show (¬ ((4 : Int32) < 0 ∨ 5 ≤ Int32.toNatClampNeg 4) ∧ AW Z 0 0 72 [some (.ref 0), some (.int a1), some (.int a2), some (.int a3), some (.int a4)] [] ([kR 0 (R_facts_s v0 (upd z6 (Int32.toNatClampNeg 4) q7))] : List (List zE)).flatten)
          refine ⟨(by decide), ?_⟩
          replace hf := zlet_gen hf
          generalize ((upd z6 (Int32.toNatClampNeg 4) q7) : (Nat → Int32)) = z8 at hf ⊢
          as_aux_lemma =>
            cases hf
            exact AW.vret hZ hE rfl rfl rfl (Nat.le_refl 0) (Nat.le_refl 0) rfl ⟨rfl, rfl⟩
def f_R_gets (N : Nat) (v0 : VR) (a1 : Int32) (a2 : Int32) (a3 : Int32) : Option ((Nat → Int32)) := (if (((a1 + 4) + a2) < 0 ∨ 1656 ≤ Int32.toNatClampNeg ((a1 + 4) + a2)) then none else (zlet ((if ((((R_state v0) (Int32.toNatClampNeg ((a1 + 4) + a2))) + a3) ≤ 9999) then (((R_state v0) (Int32.toNatClampNeg ((a1 + 4) + a2))) + a3) else 9999) : Int32) (fun z3 => (if (((a1 + 4) + a2) < 0 ∨ 1656 ≤ Int32.toNatClampNeg ((a1 + 4) + a2)) then none else (zlet ((upd (R_state v0) (Int32.toNatClampNeg ((a1 + 4) + a2)) z3) : (Nat → Int32)) (fun z4 => (some z4)))))))
set_option maxRecDepth 20000 in
set_option maxHeartbeats 4000000 in
theorem c_R_gets (N : Nat) (v0 : VR) (a1 : Int32) (a2 : Int32) (a3 : Int32) (R : (Nat → Int32)) (hf : f_R_gets N v0 a1 a2 a3 = some R) : Ct zMX12_gets 1 0 0 0 [.ref 0, .int a1, .int a2, .int a3] ([kR 0 v0] : List (List zE)).flatten (fun v cc => v = none ∧ cc = ([kR 0 (R_state_s v0 R)] : List (List zE)).flatten) := by
  refine Ct.of zMX12_gets_ok (by decide) (Nat.le_of_ble_eq_true rfl) ?_
  intro Z hZ hR hN hE
  have hRm : zRoom Z 0 0 := zRoom0 Z
  unfold f_R_gets at hf
  show AW Z 0 0 0 [some (.ref 0), some (.int a1), some (.int a2), some (.int a3), none] [] ([kR 0 v0] : List (List zE)).flatten
  refine AW.run hZ hRm [28] 400 ?_
  show (¬ (((a1 + 4) + a2) < 0 ∨ 1656 ≤ Int32.toNatClampNeg ((a1 + 4) + a2)) ∧ AW Z 0 0 28 [some (.ref 0), some (.int a1), some (.int a2), some (.int a3), some (.int (((R_state v0) (Int32.toNatClampNeg ((a1 + 4) + a2))) + a3))] [.int 9999, .int (((R_state v0) (Int32.toNatClampNeg ((a1 + 4) + a2))) + a3), .int ((a1 + 4) + a2), .ref 14] ([kR 0 v0] : List (List zE)).flatten)
  obtain ⟨b6, hf⟩ := zneed hf
  refine ⟨b6, ?_⟩
  suffices H1 : AW Z 0 0 39 [none, none, none, none, none] [.int (if ((((R_state v0) (Int32.toNatClampNeg ((a1 + 4) + a2))) + a3) ≤ 9999) then (((R_state v0) (Int32.toNatClampNeg ((a1 + 4) + a2))) + a3) else 9999), .int ((a1 + 4) + a2), .ref 14] ([kR 0 v0] : List (List zE)).flatten from by
    refine AW.run hZ hRm [39] 400 ?_
    show ((((((R_state v0) (Int32.toNatClampNeg ((a1 + 4) + a2))) + a3) ≤ 9999) → AW Z 0 0 39 [some (.ref 0), some (.int a1), some (.int a2), some (.int a3), some (.int (((R_state v0) (Int32.toNatClampNeg ((a1 + 4) + a2))) + a3))] [.int (((R_state v0) (Int32.toNatClampNeg ((a1 + 4) + a2))) + a3), .int ((a1 + 4) + a2), .ref 14] ([kR 0 v0] : List (List zE)).flatten) ∧ (¬ ((((R_state v0) (Int32.toNatClampNeg ((a1 + 4) + a2))) + a3) ≤ 9999) → AW Z 0 0 39 [some (.ref 0), some (.int a1), some (.int a2), some (.int a3), some (.int (((R_state v0) (Int32.toNatClampNeg ((a1 + 4) + a2))) + a3))] [.int 9999, .int ((a1 + 4) + a2), .ref 14] ([kR 0 v0] : List (List zE)).flatten))
    refine ⟨fun c2 => ?_, fun c2 => ?_⟩
    · refine AW.forget [false, false, false, false, false] ?_
      show AW Z 0 0 39 [none, none, none, none, none] [.int (((R_state v0) (Int32.toNatClampNeg ((a1 + 4) + a2))) + a3), .int ((a1 + 4) + a2), .ref 14] ([kR 0 v0] : List (List zE)).flatten
      simpa only [if_pos c2] using H1
    · refine AW.forget [false, false, false, false, false] ?_
      show AW Z 0 0 39 [none, none, none, none, none] [.int 9999, .int ((a1 + 4) + a2), .ref 14] ([kR 0 v0] : List (List zE)).flatten
      simpa only [if_neg c2] using H1
  replace hf := zlet_gen hf
  generalize ((if ((((R_state v0) (Int32.toNatClampNeg ((a1 + 4) + a2))) + a3) ≤ 9999) then (((R_state v0) (Int32.toNatClampNeg ((a1 + 4) + a2))) + a3) else 9999) : Int32) = z3 at hf ⊢
  refine AW.run hZ hRm [40] 400 ?_
  show (¬ (((a1 + 4) + a2) < 0 ∨ 1656 ≤ Int32.toNatClampNeg ((a1 + 4) + a2)) ∧ AW Z 0 0 40 [none, none, none, none, none] [] ([kR 0 (R_state_s v0 (upd (R_state v0) (Int32.toNatClampNeg ((a1 + 4) + a2)) z3))] : List (List zE)).flatten)
  obtain ⟨b5, hf⟩ := zneed hf
  refine ⟨b5, ?_⟩
  replace hf := zlet_gen hf
  generalize ((upd (R_state v0) (Int32.toNatClampNeg ((a1 + 4) + a2)) z3) : (Nat → Int32)) = z4 at hf ⊢
  as_aux_lemma =>
    cases hf
    exact AW.vret hZ hE rfl rfl rfl (Nat.le_refl 0) (Nat.le_refl 0) rfl ⟨rfl, rfl⟩
def f_R_poorest_L5 (N : Nat) : Nat → VR → Int32 → Int32 → Int32 → Int32 → Option (Int32)
  | 0, _, _, _, _, _ => none
  | fuel + 1, v0, y1, y2, x3, x4 => ((f_R_people N v0).bind (fun q1 => (if (q1 ≤ x4) then (some x3) else (if (x4 = y2) then (f_R_poorest_L5 N fuel v0 y1 y2 x3 (x4 + 1)) else (if (x3 < 0) then (f_R_poorest_L5 N fuel v0 y1 y2 x4 (x4 + 1)) else (if (((y1 + 4) + x4) < 0 ∨ 1656 ≤ Int32.toNatClampNeg ((y1 + 4) + x4)) then none else (if (((y1 + 4) + x3) < 0 ∨ 1656 ≤ Int32.toNatClampNeg ((y1 + 4) + x3)) then none else (zlet ((if (((R_state v0) (Int32.toNatClampNeg ((y1 + 4) + x3))) ≤ ((R_state v0) (Int32.toNatClampNeg ((y1 + 4) + x4)))) then 0 else 1) : Int32) (fun z7 => (f_R_poorest_L5 N fuel v0 y1 y2 (if (z7 = 0) then x3 else x4) (x4 + 1)))))))))))
def f_R_poorest (N : Nat) (v0 : VR) (a1 : Int32) (a2 : Int32) : Option (Int32) := ((f_R_poorest_L5 N N v0 a1 a2 (-1) 0).bind (fun q13 => (some q13)))
set_option maxRecDepth 20000 in
set_option maxHeartbeats 4000000 in
theorem c_R_poorest_L5 {Z : zCtx} {D n0w nf mcw msw : Nat} (hZ : zOk Z zMX12_poorest) (hR : zCan Z D mcw msw) (hDd : 2 ≤ D) (hN : zNew Z n0w nf) (hRm : zRoom Z 0 0) (N : Nat) : ∀ (fuel : Nat) (v0 : VR) (y1 : Int32) (y2 : Int32) (x3 : Int32) (x4 : Int32) (q : (Int32)), f_R_poorest_L5 N fuel v0 y1 y2 x3 x4 = some q → (AW Z 0 0 73 [none, none, none, some (.int q), none, none] [] ([kR 0 v0] : List (List zE)).flatten) → AW Z 0 0 5 [some (.ref 0), some (.int y1), some (.int y2), some (.int x3), some (.int x4), none] [] ([kR 0 v0] : List (List zE)).flatten := by
  intro fuel
  induction fuel with
  | zero =>
    intro v0 y1 y2 x3 x4 q hf hk0
    simp [f_R_poorest_L5] at hf
  | succ fuel ih =>
    intro v0 y1 y2 x3 x4 q hf hk0
    rw [f_R_poorest_L5] at hf
    refine AW.run hZ hRm [8] 400 ?_
    show AW Z 0 0 8 [some (.ref 0), some (.int y1), some (.int y2), some (.int x3), some (.int x4), none] [.ref 0, .int x4] ([kR 0 v0] : List (List zE)).flatten
    obtain ⟨q1, h12, hf⟩ := zbind hf
    refine AW.callVc hZ hR hN (c_R_people N v0 q1 h12) zMX12_people_ok rfl rfl zK_BorrowedLivesModel_291 zV_X12_people rfl [25] [0] [0, 1, 2, 3, 4, 5, 6, 7, 8, 9, 10, 11, 12, 13, 14, 15, 16, 17, 18, 19, 20, 21, 22, 23, 24] rfl rfl rfl (by decide) (by decide) (by omega) (by decide) (Nat.zero_le _) (Nat.zero_le _) rfl rfl rfl rfl rfl ?_
    rintro v cc ⟨rfl, rfl⟩
    refine ⟨_, rfl, rfl, ?_⟩
    show AW Z 0 0 11 [some (.ref 0), some (.int y1), some (.int y2), some (.int x3), some (.int x4), none] [.int q1, .int x4] ([kR 0 v0] : List (List zE)).flatten
    refine AW.run hZ hRm [5, 45, 73] 400 ?_
    show (((q1 ≤ x4) → AW Z 0 0 73 [some (.ref 0), some (.int y1), some (.int y2), some (.int x3), some (.int x4), none] [] ([kR 0 v0] : List (List zE)).flatten) ∧ (¬ (q1 ≤ x4) → (((x4 = y2) → ((((0 : Int32) = 0) → AW Z 0 0 5 [some (.ref 0), some (.int y1), some (.int y2), some (.int x3), some (.int (x4 + 1)), some (.int 0)] [] ([kR 0 v0] : List (List zE)).flatten) ∧ (¬ ((0 : Int32) = 0) → AW Z 0 0 5 [some (.ref 0), some (.int y1), some (.int y2), some (.int x4), some (.int (x4 + 1)), some (.int 0)] [] ([kR 0 v0] : List (List zE)).flatten))) ∧ (¬ (x4 = y2) → (((x3 < 0) → ((((1 : Int32) = 0) → AW Z 0 0 5 [some (.ref 0), some (.int y1), some (.int y2), some (.int x3), some (.int (x4 + 1)), some (.int 1)] [] ([kR 0 v0] : List (List zE)).flatten) ∧ (¬ ((1 : Int32) = 0) → AW Z 0 0 5 [some (.ref 0), some (.int y1), some (.int y2), some (.int x4), some (.int (x4 + 1)), some (.int 1)] [] ([kR 0 v0] : List (List zE)).flatten))) ∧ (¬ (x3 < 0) → (¬ (((y1 + 4) + x4) < 0 ∨ 1656 ≤ Int32.toNatClampNeg ((y1 + 4) + x4)) ∧ (¬ (((y1 + 4) + x3) < 0 ∨ 1656 ≤ Int32.toNatClampNeg ((y1 + 4) + x3)) ∧ AW Z 0 0 45 [some (.ref 0), some (.int y1), some (.int y2), some (.int x3), some (.int x4), none] [.int ((R_state v0) (Int32.toNatClampNeg ((y1 + 4) + x3))), .int ((R_state v0) (Int32.toNatClampNeg ((y1 + 4) + x4)))] ([kR 0 v0] : List (List zE)).flatten))))))))
    refine ⟨fun c2 => ?_, fun c2 => ?_⟩
    · rw [if_pos c2] at hf
      cases hf
      refine AW.forget [false, false, false, true, false, false] ?_
      show AW Z 0 0 73 [none, none, none, some (.int x3), none, none] [] ([kR 0 v0] : List (List zE)).flatten
      exact hk0
    · rw [if_neg c2] at hf
      refine ⟨fun c3 => ?_, fun c3 => ?_⟩
      · rw [if_pos c3] at hf
        refine ⟨fun _ => ?_, fun h => absurd h (by decide)⟩
        refine AW.forget [true, true, true, true, true, false] ?_
        show AW Z 0 0 5 [some (.ref 0), some (.int y1), some (.int y2), some (.int x3), some (.int (x4 + 1)), none] [] ([kR 0 v0] : List (List zE)).flatten
        exact ih v0 y1 y2 x3 (x4 + 1) q hf hk0
      · rw [if_neg c3] at hf
        refine ⟨fun c4 => ?_, fun c4 => ?_⟩
        · rw [if_pos c4] at hf
          refine ⟨fun h => absurd h (by decide), fun _ => ?_⟩
          refine AW.forget [true, true, true, true, true, false] ?_
          show AW Z 0 0 5 [some (.ref 0), some (.int y1), some (.int y2), some (.int x4), some (.int (x4 + 1)), none] [] ([kR 0 v0] : List (List zE)).flatten
          exact ih v0 y1 y2 x4 (x4 + 1) q hf hk0
        · rw [if_neg c4] at hf
          obtain ⟨b11, hf⟩ := zneed hf
          refine ⟨b11, ?_⟩
          obtain ⟨b10, hf⟩ := zneed hf
          refine ⟨b10, ?_⟩
          suffices H5 : AW Z 0 0 53 [some (.ref 0), some (.int y1), some (.int y2), some (.int x3), some (.int x4), none] [.int (if (((R_state v0) (Int32.toNatClampNeg ((y1 + 4) + x3))) ≤ ((R_state v0) (Int32.toNatClampNeg ((y1 + 4) + x4)))) then 0 else 1)] ([kR 0 v0] : List (List zE)).flatten from by
            refine AW.run hZ hRm [53] 400 ?_
            show (((((R_state v0) (Int32.toNatClampNeg ((y1 + 4) + x3))) ≤ ((R_state v0) (Int32.toNatClampNeg ((y1 + 4) + x4)))) → AW Z 0 0 53 [some (.ref 0), some (.int y1), some (.int y2), some (.int x3), some (.int x4), none] [.int 0] ([kR 0 v0] : List (List zE)).flatten) ∧ (¬ (((R_state v0) (Int32.toNatClampNeg ((y1 + 4) + x3))) ≤ ((R_state v0) (Int32.toNatClampNeg ((y1 + 4) + x4)))) → AW Z 0 0 53 [some (.ref 0), some (.int y1), some (.int y2), some (.int x3), some (.int x4), none] [.int 1] ([kR 0 v0] : List (List zE)).flatten))
            refine ⟨fun c6 => ?_, fun c6 => ?_⟩
            · simpa only [if_pos c6] using H5
            · simpa only [if_neg c6] using H5
          replace hf := zlet_gen hf
          generalize ((if (((R_state v0) (Int32.toNatClampNeg ((y1 + 4) + x3))) ≤ ((R_state v0) (Int32.toNatClampNeg ((y1 + 4) + x4)))) then 0 else 1) : Int32) = z7 at hf ⊢
          refine AW.run hZ hRm [57] 400 ?_
          show AW Z 0 0 57 [some (.ref 0), some (.int y1), some (.int y2), some (.int x3), some (.int x4), some (.int z7)] [.int z7] ([kR 0 v0] : List (List zE)).flatten
          suffices H8 : AW Z 0 0 66 [some (.ref 0), some (.int y1), some (.int y2), none, some (.int x4), none] [.int (if (z7 = 0) then x3 else x4)] ([kR 0 v0] : List (List zE)).flatten from by
            refine AW.run hZ hRm [66] 400 ?_
            show (((z7 = 0) → AW Z 0 0 66 [some (.ref 0), some (.int y1), some (.int y2), some (.int x3), some (.int x4), some (.int z7)] [.int x3] ([kR 0 v0] : List (List zE)).flatten) ∧ (¬ (z7 = 0) → AW Z 0 0 66 [some (.ref 0), some (.int y1), some (.int y2), some (.int x3), some (.int x4), some (.int z7)] [.int x4] ([kR 0 v0] : List (List zE)).flatten))
            refine ⟨fun c9 => ?_, fun c9 => ?_⟩
            · refine AW.forget [true, true, true, false, true, false] ?_
              show AW Z 0 0 66 [some (.ref 0), some (.int y1), some (.int y2), none, some (.int x4), none] [.int x3] ([kR 0 v0] : List (List zE)).flatten
              simpa only [if_pos c9] using H8
            · refine AW.forget [true, true, true, false, true, false] ?_
              show AW Z 0 0 66 [some (.ref 0), some (.int y1), some (.int y2), none, some (.int x4), none] [.int x4] ([kR 0 v0] : List (List zE)).flatten
              simpa only [if_neg c9] using H8
          refine AW.run hZ hRm [5] 400 ?_
          show AW Z 0 0 5 [some (.ref 0), some (.int y1), some (.int y2), some (.int (if (z7 = 0) then x3 else x4)), some (.int (x4 + 1)), none] [] ([kR 0 v0] : List (List zE)).flatten
          exact ih v0 y1 y2 (if (z7 = 0) then x3 else x4) (x4 + 1) q hf hk0
set_option maxRecDepth 20000 in
set_option maxHeartbeats 4000000 in
theorem c_R_poorest (N : Nat) (v0 : VR) (a1 : Int32) (a2 : Int32) (R : Int32) (hf : f_R_poorest N v0 a1 a2 = some R) : Ct zMX12_poorest 2 0 0 0 [.ref 0, .int a1, .int a2] ([kR 0 v0] : List (List zE)).flatten (fun v cc => v = some (.int R) ∧ cc = ([kR 0 v0] : List (List zE)).flatten) := by
  refine Ct.of zMX12_poorest_ok (by decide) (Nat.le_of_ble_eq_true rfl) ?_
  intro Z hZ hR hN hE
  have hRm : zRoom Z 0 0 := zRoom0 Z
  unfold f_R_poorest at hf
  show AW Z 0 0 0 [some (.ref 0), some (.int a1), some (.int a2), none, none, none] [] ([kR 0 v0] : List (List zE)).flatten
  refine AW.run hZ hRm [5] 400 ?_
  show AW Z 0 0 5 [some (.ref 0), some (.int a1), some (.int a2), some (.int (-1)), some (.int 0), none] [] ([kR 0 v0] : List (List zE)).flatten
  obtain ⟨q13, h14, hf⟩ := zbind hf
  refine c_R_poorest_L5 hZ hR (by omega) hN hRm N N v0 a1 a2 (-1) 0 q13 h14 ?_
  show AW Z 0 0 73 [none, none, none, some (.int q13), none, none] [] ([kR 0 v0] : List (List zE)).flatten
  refine AW.run hZ hRm [74] 400 ?_
  show AW Z 0 0 74 [none, none, none, some (.int q13), none, none] [.int q13] ([kR 0 v0] : List (List zE)).flatten
  cases hf
  exact AW.iret hZ hE rfl rfl rfl rfl (Nat.le_refl 0) (Nat.le_refl 0) rfl ⟨rfl, rfl⟩
