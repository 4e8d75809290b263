def f_R_count (N : Nat) (v0 : VR) (a1 : Int32) : Option (Int32 × Int32) := (if (a1 = 0) then (if (a1 < 0 ∨ 160 ≤ Int32.toNatClampNeg a1) then none else (some (((R_towns v0) (Int32.toNatClampNeg a1)), 0))) else (if (a1 = 1) then (if (a1 < 0 ∨ 160 ≤ Int32.toNatClampNeg a1) then none else (some (((R_towns v0) (Int32.toNatClampNeg a1)), 0))) else (if (a1 = 2) then (if (a1 < 0 ∨ 160 ≤ Int32.toNatClampNeg a1) then none else (some (((R_towns v0) (Int32.toNatClampNeg a1)), 0))) else (if (a1 = 3) then (some (((R_state v0) (Int32.toNatClampNeg 0)), 0)) else (if (a1 = 4) then (some (((R_state v0) (Int32.toNatClampNeg 1)), 0)) else (if (a1 = 5) then (some (((R_state v0) (Int32.toNatClampNeg 2)), 0)) else (if (a1 = 6) then (some (((R_state v0) (Int32.toNatClampNeg 3)), 0)) else (if (a1 = 7) then ((f_R_pursesOf N (R_thrown_s v0 0) 0).bind (fun q9 => (some (q9, 0)))) else (if (a1 = 8) then ((f_R_debtsOf N (R_thrown_s v0 0)).bind (fun q6 => (some (q6, 0)))) else (if (a1 = 9) then (some (((R_lines v0) (Int32.toNatClampNeg 0)), 0)) else (if (a1 = 10) then (some (((R_state v0) (Int32.toNatClampNeg 46)), 0)) else (if (a1 = 11) then (some ((R_undos v0), 0)) else (if (a1 = 12) then (some ((R_taped v0), 0)) else (some ((-1), 0)))))))))))))))
set_option maxRecDepth 20000 in
set_option maxHeartbeats 4000000 in
theorem c_R_count (N : Nat) (v0 : VR) (a1 : Int32) (R : Int32 × Int32) (hf : f_R_count N v0 a1 = some R) : Ct zMX12_count 3 0 0 0 [.ref 0, .int a1] ([kR 0 v0] : List (List zE)).flatten (fun v cc => v = some (.int R.1) ∧ cc = ([kR 0 (R_thrown_s v0 R.2)] : List (List zE)).flatten) := by
  refine Ct.of zMX12_count_ok (by decide) (Nat.le_of_ble_eq_true rfl) ?_
  intro Z hZ hR hN hE
  have hRm : zRoom Z 0 0 := zRoom0 Z
  unfold f_R_count at hf
  show AW Z 0 0 0 [some (.ref 0), some (.int a1)] [] ([kR 0 v0] : List (List zE)).flatten
  refine AW.run hZ hRm [78, 85, 92, 99, 106, 109, 114, 124, 132, 137, 142, 144] 400 ?_
  show ((a1 = 0 → (¬ (a1 < 0 ∨ 160 ≤ Int32.toNatClampNeg a1) ∧ AW Z 0 0 78 [some (.ref 0), some (.int a1)] [.int ((R_towns v0) (Int32.toNatClampNeg a1))] ([kR 0 (R_thrown_s v0 0)] : List (List zE)).flatten)) ∧ (¬ a1 = 0 → ((a1 = 1 → (¬ (a1 < 0 ∨ 160 ≤ Int32.toNatClampNeg a1) ∧ AW Z 0 0 78 [some (.ref 0), some (.int a1)] [.int ((R_towns v0) (Int32.toNatClampNeg a1))] ([kR 0 (R_thrown_s v0 0)] : List (List zE)).flatten)) ∧ (¬ a1 = 1 → ((a1 = 2 → (¬ (a1 < 0 ∨ 160 ≤ Int32.toNatClampNeg a1) ∧ AW Z 0 0 78 [some (.ref 0), some (.int a1)] [.int ((R_towns v0) (Int32.toNatClampNeg a1))] ([kR 0 (R_thrown_s v0 0)] : List (List zE)).flatten)) ∧ (¬ a1 = 2 → ((a1 = 3 → (¬ ((0 : Int32) < 0 ∨ 1656 ≤ Int32.toNatClampNeg 0) ∧ AW Z 0 0 85 [some (.ref 0), some (.int a1)] [.int ((R_state v0) (Int32.toNatClampNeg 0))] ([kR 0 (R_thrown_s v0 0)] : List (List zE)).flatten)) ∧ (¬ a1 = 3 → ((a1 = 4 → (¬ ((1 : Int32) < 0 ∨ 1656 ≤ Int32.toNatClampNeg 1) ∧ AW Z 0 0 92 [some (.ref 0), some (.int a1)] [.int ((R_state v0) (Int32.toNatClampNeg 1))] ([kR 0 (R_thrown_s v0 0)] : List (List zE)).flatten)) ∧ (¬ a1 = 4 → ((a1 = 5 → (¬ ((2 : Int32) < 0 ∨ 1656 ≤ Int32.toNatClampNeg 2) ∧ AW Z 0 0 99 [some (.ref 0), some (.int a1)] [.int ((R_state v0) (Int32.toNatClampNeg 2))] ([kR 0 (R_thrown_s v0 0)] : List (List zE)).flatten)) ∧ (¬ a1 = 5 → ((a1 = 6 → (¬ ((3 : Int32) < 0 ∨ 1656 ≤ Int32.toNatClampNeg 3) ∧ AW Z 0 0 106 [some (.ref 0), some (.int a1)] [.int ((R_state v0) (Int32.toNatClampNeg 3))] ([kR 0 (R_thrown_s v0 0)] : List (List zE)).flatten)) ∧ (¬ a1 = 6 → ((a1 = 7 → AW Z 0 0 109 [some (.ref 0), some (.int a1)] [.int 0, .ref 0] ([kR 0 (R_thrown_s v0 0)] : List (List zE)).flatten) ∧ (¬ a1 = 7 → ((a1 = 8 → AW Z 0 0 114 [some (.ref 0), some (.int a1)] [.ref 0] ([kR 0 (R_thrown_s v0 0)] : List (List zE)).flatten) ∧ (¬ a1 = 8 → ((a1 = 9 → (¬ ((0 : Int32) < 0 ∨ 250 ≤ Int32.toNatClampNeg 0) ∧ AW Z 0 0 124 [some (.ref 0), some (.int a1)] [.int ((R_lines v0) (Int32.toNatClampNeg 0))] ([kR 0 (R_thrown_s v0 0)] : List (List zE)).flatten)) ∧ (¬ a1 = 9 → ((a1 = 10 → (¬ ((46 : Int32) < 0 ∨ 1656 ≤ Int32.toNatClampNeg 46) ∧ AW Z 0 0 132 [some (.ref 0), some (.int a1)] [.int ((R_state v0) (Int32.toNatClampNeg 46))] ([kR 0 (R_thrown_s v0 0)] : List (List zE)).flatten)) ∧ (¬ a1 = 10 → ((a1 = 11 → AW Z 0 0 137 [some (.ref 0), some (.int a1)] [.int (R_undos v0)] ([kR 0 (R_thrown_s v0 0)] : List (List zE)).flatten) ∧ (¬ a1 = 11 → ((a1 = 12 → AW Z 0 0 142 [some (.ref 0), some (.int a1)] [.int (R_taped v0)] ([kR 0 (R_thrown_s v0 0)] : List (List zE)).flatten) ∧ (¬ a1 = 12 → AW Z 0 0 144 [some (.ref 0), some (.int a1)] [.int (-1)] ([kR 0 (R_thrown_s v0 0)] : List (List zE)).flatten))))))))))))))))))))))))))
  refine ⟨fun c19 => ?_, fun c19 => ?_⟩
  · rw [if_pos c19] at hf
    obtain ⟨b20, hf⟩ := zneed hf
    refine ⟨b20, ?_⟩
    cases hf
    exact AW.iret hZ hE rfl rfl rfl rfl (Nat.le_refl 0) (Nat.le_refl 0) rfl ⟨rfl, rfl⟩
  · rw [if_neg c19] at hf
    refine ⟨fun c17 => ?_, fun c17 => ?_⟩
    · rw [if_pos c17] at hf
      obtain ⟨b18, hf⟩ := zneed hf
      refine ⟨b18, ?_⟩
      cases hf
      exact AW.iret hZ hE rfl rfl rfl rfl (Nat.le_refl 0) (Nat.le_refl 0) rfl ⟨rfl, rfl⟩
    · rw [if_neg c17] at hf
      refine ⟨fun c15 => ?_, fun c15 => ?_⟩
      · rw [if_pos c15] at hf
        obtain ⟨b16, hf⟩ := zneed hf
        refine ⟨b16, ?_⟩
        cases hf
        exact AW.iret hZ hE rfl rfl rfl rfl (Nat.le_refl 0) (Nat.le_refl 0) rfl ⟨rfl, rfl⟩
      · rw [if_neg c15] at hf
        refine ⟨fun c14 => ?_, fun c14 => ?_⟩
        · rw [if_pos c14] at hf
          refine ⟨(by decide), ?_⟩
          cases hf
          exact AW.iret hZ hE rfl rfl rfl rfl (Nat.le_refl 0) (Nat.le_refl 0) rfl ⟨rfl, rfl⟩
        · rw [if_neg c14] at hf
          refine ⟨fun c13 => ?_, fun c13 => ?_⟩
          · rw [if_pos c13] at hf
            refine ⟨(by decide), ?_⟩
            cases hf
            exact AW.iret hZ hE rfl rfl rfl rfl (Nat.le_refl 0) (Nat.le_refl 0) rfl ⟨rfl, rfl⟩
          · rw [if_neg c13] at hf
            refine ⟨fun c12 => ?_, fun c12 => ?_⟩
            · rw [if_pos c12] at hf
              refine ⟨(by decide), ?_⟩
              cases hf
              exact AW.iret hZ hE rfl rfl rfl rfl (Nat.le_refl 0) (Nat.le_refl 0) rfl ⟨rfl, rfl⟩
            · rw [if_neg c12] at hf
              refine ⟨fun c11 => ?_, fun c11 => ?_⟩
              · rw [if_pos c11] at hf
                refine ⟨(by decide), ?_⟩
                cases hf
                exact AW.iret hZ hE rfl rfl rfl rfl (Nat.le_refl 0) (Nat.le_refl 0) rfl ⟨rfl, rfl⟩
              · rw [if_neg c11] at hf
                refine ⟨fun c8 => ?_, fun c8 => ?_⟩
                · rw [if_pos c8] at hf
                  obtain ⟨q9, h10, hf⟩ := zbind hf
                  refine AW.callVc hZ hR hN (c_R_pursesOf N (R_thrown_s v0 0) 0 q9 h10) zMX12_pursesOf_ok rfl rfl zK_BorrowedLivesModel_469 zV_X12_pursesOf rfl [25] [0] [0, 1, 2, 3, 4, 5, 6, 7, 8, 9, 10, 11, 12, 13, 14, 15, 16, 17, 18, 19, 20, 21, 22, 23, 24] rfl rfl rfl (by decide) (by decide) (by omega) (by decide) (Nat.zero_le _) (Nat.zero_le _) rfl rfl rfl rfl rfl ?_
                  rintro v cc ⟨rfl, rfl⟩
                  refine ⟨_, rfl, rfl, ?_⟩
                  show AW Z 0 0 112 [some (.ref 0), some (.int a1)] [.int q9] ([kR 0 (R_thrown_s v0 0)] : List (List zE)).flatten
                  cases hf
                  exact AW.iret hZ hE rfl rfl rfl rfl (Nat.le_refl 0) (Nat.le_refl 0) rfl ⟨rfl, rfl⟩
                · rw [if_neg c8] at hf
                  refine ⟨fun c5 => ?_, fun c5 => ?_⟩
                  · rw [if_pos c5] at hf
                    obtain ⟨q6, h7, hf⟩ := zbind hf
                    refine AW.callVc hZ hR hN (c_R_debtsOf N (R_thrown_s v0 0) q6 h7) zMX12_debtsOf_ok rfl rfl zK_BorrowedLivesModel_472 zV_X12_debtsOf rfl [25] [0] [0, 1, 2, 3, 4, 5, 6, 7, 8, 9, 10, 11, 12, 13, 14, 15, 16, 17, 18, 19, 20, 21, 22, 23, 24] rfl rfl rfl (by decide) (by decide) (by omega) (by decide) (Nat.zero_le _) (Nat.zero_le _) rfl rfl rfl rfl rfl ?_
                    rintro v cc ⟨rfl, rfl⟩
                    refine ⟨_, rfl, rfl, ?_⟩
                    show AW Z 0 0 117 [some (.ref 0), some (.int a1)] [.int q6] ([kR 0 (R_thrown_s v0 0)] : List (List zE)).flatten
                    cases hf
                    exact AW.iret hZ hE rfl rfl rfl rfl (Nat.le_refl 0) (Nat.le_refl 0) rfl ⟨rfl, rfl⟩
                  · rw [if_neg c5] at hf
                    refine ⟨fun c4 => ?_, fun c4 => ?_⟩
                    · rw [if_pos c4] at hf
                      refine ⟨(by decide), ?_⟩
                      cases hf
                      exact AW.iret hZ hE rfl rfl rfl rfl (Nat.le_refl 0) (Nat.le_refl 0) rfl ⟨rfl, rfl⟩
                    · rw [if_neg c4] at hf
                      refine ⟨fun c3 => ?_, fun c3 => ?_⟩
                      · rw [if_pos c3] at hf
                        refine ⟨(by decide), ?_⟩
                        cases hf
                        exact AW.iret hZ hE rfl rfl rfl rfl (Nat.le_refl 0) (Nat.le_refl 0) rfl ⟨rfl, rfl⟩
                      · rw [if_neg c3] at hf
                        refine ⟨fun c2 => ?_, fun c2 => ?_⟩
                        · rw [if_pos c2] at hf
                          cases hf
                          exact AW.iret hZ hE rfl rfl rfl rfl (Nat.le_refl 0) (Nat.le_refl 0) rfl ⟨rfl, rfl⟩
                        · rw [if_neg c2] at hf
                          refine ⟨fun c1 => ?_, fun c1 => ?_⟩
                          · rw [if_pos c1] at hf
                            cases hf
                            exact AW.iret hZ hE rfl rfl rfl rfl (Nat.le_refl 0) (Nat.le_refl 0) rfl ⟨rfl, rfl⟩
                          · rw [if_neg c1] at hf
                            cases hf
                            exact AW.iret hZ hE rfl rfl rfl rfl (Nat.le_refl 0) (Nat.le_refl 0) rfl ⟨rfl, rfl⟩
