def f_R_thrown (N : Nat) (v0 : VR) : Option (Int32) := (some (R_thrown v0))
set_option maxRecDepth 20000 in
set_option maxHeartbeats 4000000 in
theorem c_R_thrown (N : Nat) (v0 : VR) (R : Int32) (hf : f_R_thrown N v0 = some R) : Ct zMX12_thrown 1 0 0 0 [.ref 0] ([kR 0 v0] : List (List zE)).flatten (fun v cc => v = some (.int R) ∧ cc = ([kR 0 v0] : List (List zE)).flatten) := by
  refine Ct.of zMX12_thrown_ok (by decide) (Nat.le_of_ble_eq_true rfl) ?_
  intro Z hZ hR hN hE
  have hRm : zRoom Z 0 0 := zRoom0 Z
  unfold f_R_thrown at hf
  show AW Z 0 0 0 [some (.ref 0)] [] ([kR 0 v0] : List (List zE)).flatten
  refine AW.run hZ hRm [4] 400 ?_
  show AW Z 0 0 4 [some (.ref 0)] [.int (R_thrown v0)] ([kR 0 v0] : List (List zE)).flatten
  cases hf
  exact AW.iret hZ hE rfl rfl rfl rfl (Nat.le_refl 0) (Nat.le_refl 0) rfl ⟨rfl, rfl⟩
def f_R_lay_L3 (N : Nat) : Nat → VR → Int64 → Int32 → (Nat → Int32) → Int32 → Option ((Nat → Int32) × Int32)
  | 0, _, _, _, _, _ => none
  | fuel + 1, v0, y1, x3, m_tape0, m_taped1 => (if (x3 < 0) then (some (m_tape0, m_taped1)) else (if (((Int64.toInt32 (y1 >>> (Int32.toInt64 x3 &&& 63))) &&& 255) = 10) then (if (1000 ≤ m_taped1) then (f_R_lay_L3 N fuel v0 y1 (x3 + (-8)) m_tape0 m_taped1) else (if (m_taped1 < 0 ∨ 1000 ≤ Int32.toNatClampNeg m_taped1) then none else (zlet ((upd m_tape0 (Int32.toNatClampNeg m_taped1) ((Int64.toInt32 (y1 >>> (Int32.toInt64 x3 &&& 63))) &&& 255)) : (Nat → Int32)) (fun z4 => (zlet (((Int64.toInt32 (y1 >>> (Int32.toInt64 x3 &&& 63))) &&& 255) : Int32) (fun z5 => (f_R_lay_L3 N fuel v0 y1 (x3 + (-8)) z4 (m_taped1 + 1)))))))) else (if (((Int64.toInt32 (y1 >>> (Int32.toInt64 x3 &&& 63))) &&& 255) < 32) then (f_R_lay_L3 N fuel v0 y1 (x3 + (-8)) m_tape0 m_taped1) else (if (126 < ((Int64.toInt32 (y1 >>> (Int32.toInt64 x3 &&& 63))) &&& 255)) then (f_R_lay_L3 N fuel v0 y1 (x3 + (-8)) m_tape0 m_taped1) else (if (1000 ≤ m_taped1) then (f_R_lay_L3 N fuel v0 y1 (x3 + (-8)) m_tape0 m_taped1) else (if (m_taped1 < 0 ∨ 1000 ≤ Int32.toNatClampNeg m_taped1) then none else (zlet ((upd m_tape0 (Int32.toNatClampNeg m_taped1) ((Int64.toInt32 (y1 >>> (Int32.toInt64 x3 &&& 63))) &&& 255)) : (Nat → Int32)) (fun z10 => (zlet (((Int64.toInt32 (y1 >>> (Int32.toInt64 x3 &&& 63))) &&& 255) : Int32) (fun z11 => (f_R_lay_L3 N fuel v0 y1 (x3 + (-8)) z10 (m_taped1 + 1))))))))))))
def f_R_lay (N : Nat) (v0 : VR) (a1 : Int64) : Option ((Nat → Int32) × Int32) := ((f_R_lay_L3 N N v0 a1 56 (R_tape v0) (R_taped v0)).bind (fun q13 => (some (q13.1, q13.2))))
set_option maxRecDepth 20000 in
set_option maxHeartbeats 4000000 in
theorem c_R_lay_L3 {Z : zCtx} {D n0w nf mcw msw : Nat} (hZ : zOk Z zMX12_lay) (hR : zCan Z D mcw msw) (hDd : 1 ≤ D) (hN : zNew Z n0w nf) (hRm : zRoom Z 0 0) (N : Nat) : ∀ (fuel : Nat) (v0 : VR) (y1 : Int64) (x3 : Int32) (m_tape0 : (Nat → Int32)) (m_taped1 : Int32) (q : ((Nat → Int32) × Int32)), f_R_lay_L3 N fuel v0 y1 x3 m_tape0 m_taped1 = some q → (AW Z 0 0 75 [none, none, none, none, none] [] ([kR 0 (R_s_tape_taped v0 q.1 q.2)] : List (List zE)).flatten) → AW Z 0 0 3 [some (.ref 0), some (.long y1), none, some (.int x3), none] [] ([kR 0 (R_s_tape_taped v0 m_tape0 m_taped1)] : List (List zE)).flatten := by
  intro fuel
  induction fuel with
  | zero =>
    intro v0 y1 x3 m_tape0 m_taped1 q hf hk0
    simp [f_R_lay_L3] at hf
  | succ fuel ih =>
    intro v0 y1 x3 m_tape0 m_taped1 q hf hk0
    rw [f_R_lay_L3] at hf
    refine AW.run hZ hRm [3, 59, 75] 400 ?_
    show (((x3 < 0) → AW Z 0 0 75 [some (.ref 0), some (.long y1), none, some (.int x3), none] [] ([kR 0 (R_s_tape_taped v0 m_tape0 m_taped1)] : List (List zE)).flatten) ∧ (¬ (x3 < 0) → (((((Int64.toInt32 (y1 >>> (Int32.toInt64 x3 &&& 63))) &&& 255) = 10) → (((1000 ≤ m_taped1) → AW Z 0 0 3 [some (.ref 0), some (.long y1), none, some (.int (x3 + (-8))), some (.int ((Int64.toInt32 (y1 >>> (Int32.toInt64 x3 &&& 63))) &&& 255))] [] ([kR 0 (R_s_tape_taped v0 m_tape0 m_taped1)] : List (List zE)).flatten) ∧ (¬ (1000 ≤ m_taped1) → (¬ (m_taped1 < 0 ∨ 1000 ≤ Int32.toNatClampNeg m_taped1) ∧ AW Z 0 0 59 [some (.ref 0), some (.long y1), none, some (.int x3), some (.int ((Int64.toInt32 (y1 >>> (Int32.toInt64 x3 &&& 63))) &&& 255))] [] ([kR 0 (R_s_tape_taped v0 (upd m_tape0 (Int32.toNatClampNeg m_taped1) ((Int64.toInt32 (y1 >>> (Int32.toInt64 x3 &&& 63))) &&& 255)) m_taped1)] : List (List zE)).flatten)))) ∧ (¬ (((Int64.toInt32 (y1 >>> (Int32.toInt64 x3 &&& 63))) &&& 255) = 10) → (((((Int64.toInt32 (y1 >>> (Int32.toInt64 x3 &&& 63))) &&& 255) < 32) → AW Z 0 0 3 [some (.ref 0), some (.long y1), none, some (.int (x3 + (-8))), some (.int ((Int64.toInt32 (y1 >>> (Int32.toInt64 x3 &&& 63))) &&& 255))] [] ([kR 0 (R_s_tape_taped v0 m_tape0 m_taped1)] : List (List zE)).flatten) ∧ (¬ (((Int64.toInt32 (y1 >>> (Int32.toInt64 x3 &&& 63))) &&& 255) < 32) → (((126 < ((Int64.toInt32 (y1 >>> (Int32.toInt64 x3 &&& 63))) &&& 255)) → AW Z 0 0 3 [some (.ref 0), some (.long y1), none, some (.int (x3 + (-8))), some (.int ((Int64.toInt32 (y1 >>> (Int32.toInt64 x3 &&& 63))) &&& 255))] [] ([kR 0 (R_s_tape_taped v0 m_tape0 m_taped1)] : List (List zE)).flatten) ∧ (¬ (126 < ((Int64.toInt32 (y1 >>> (Int32.toInt64 x3 &&& 63))) &&& 255)) → (((1000 ≤ m_taped1) → AW Z 0 0 3 [some (.ref 0), some (.long y1), none, some (.int (x3 + (-8))), some (.int ((Int64.toInt32 (y1 >>> (Int32.toInt64 x3 &&& 63))) &&& 255))] [] ([kR 0 (R_s_tape_taped v0 m_tape0 m_taped1)] : List (List zE)).flatten) ∧ (¬ (1000 ≤ m_taped1) → (¬ (m_taped1 < 0 ∨ 1000 ≤ Int32.toNatClampNeg m_taped1) ∧ AW Z 0 0 59 [some (.ref 0), some (.long y1), none, some (.int x3), some (.int ((Int64.toInt32 (y1 >>> (Int32.toInt64 x3 &&& 63))) &&& 255))] [] ([kR 0 (R_s_tape_taped v0 (upd m_tape0 (Int32.toNatClampNeg m_taped1) ((Int64.toInt32 (y1 >>> (Int32.toInt64 x3 &&& 63))) &&& 255)) m_taped1)] : List (List zE)).flatten)))))))))))
    refine ⟨fun c1 => ?_, fun c1 => ?_⟩
    · rw [if_pos c1] at hf
      cases hf
      refine AW.forget [false, false, false, false, false] ?_
      show AW Z 0 0 75 [none, none, none, none, none] [] ([kR 0 (R_s_tape_taped v0 m_tape0 m_taped1)] : List (List zE)).flatten
      exact hk0
    · rw [if_neg c1] at hf
      refine ⟨fun c2 => ?_, fun c2 => ?_⟩
      · rw [if_pos c2] at hf
        refine ⟨fun c3 => ?_, fun c3 => ?_⟩
        · rw [if_pos c3] at hf
          refine AW.forget [true, true, false, true, false] ?_
          show AW Z 0 0 3 [some (.ref 0), some (.long y1), none, some (.int (x3 + (-8))), none] [] ([kR 0 (R_s_tape_taped v0 m_tape0 m_taped1)] : List (List zE)).flatten
          exact ih v0 y1 (x3 + (-8)) m_tape0 m_taped1 q hf hk0
        · rw [if_neg c3] at hf
          obtain ⟨b6, hf⟩ := zneed hf
          refine ⟨b6, ?_⟩
          replace hf := zlet_gen hf
          generalize ((upd m_tape0 (Int32.toNatClampNeg m_taped1) ((Int64.toInt32 (y1 >>> (Int32.toInt64 x3 &&& 63))) &&& 255)) : (Nat → Int32)) = z4 at hf ⊢
          replace hf := zlet_gen hf
          generalize (((Int64.toInt32 (y1 >>> (Int32.toInt64 x3 &&& 63))) &&& 255) : Int32) = z5 at hf ⊢
          as_aux_lemma =>
            refine AW.run hZ hRm [3] 400 ?_
            show AW Z 0 0 3 [some (.ref 0), some (.long y1), none, some (.int (x3 + (-8))), some (.int z5)] [] ([kR 0 (R_s_tape_taped v0 z4 (m_taped1 + 1))] : List (List zE)).flatten
            refine AW.forget [true, true, false, true, false] ?_
            show AW Z 0 0 3 [some (.ref 0), some (.long y1), none, some (.int (x3 + (-8))), none] [] ([kR 0 (R_s_tape_taped v0 z4 (m_taped1 + 1))] : List (List zE)).flatten
            exact ih v0 y1 (x3 + (-8)) z4 (m_taped1 + 1) q hf hk0
      · rw [if_neg c2] at hf
        refine ⟨fun c7 => ?_, fun c7 => ?_⟩
        · rw [if_pos c7] at hf
          refine AW.forget [true, true, false, true, false] ?_
          show AW Z 0 0 3 [some (.ref 0), some (.long y1), none, some (.int (x3 + (-8))), none] [] ([kR 0 (R_s_tape_taped v0 m_tape0 m_taped1)] : List (List zE)).flatten
          exact ih v0 y1 (x3 + (-8)) m_tape0 m_taped1 q hf hk0
        · rw [if_neg c7] at hf
          refine ⟨fun c8 => ?_, fun c8 => ?_⟩
          · rw [if_pos c8] at hf
            refine AW.forget [true, true, false, true, false] ?_
            show AW Z 0 0 3 [some (.ref 0), some (.long y1), none, some (.int (x3 + (-8))), none] [] ([kR 0 (R_s_tape_taped v0 m_tape0 m_taped1)] : List (List zE)).flatten
            exact ih v0 y1 (x3 + (-8)) m_tape0 m_taped1 q hf hk0
          · rw [if_neg c8] at hf
            refine ⟨fun c9 => ?_, fun c9 => ?_⟩
            · rw [if_pos c9] at hf
              refine AW.forget [true, true, false, true, false] ?_
              show AW Z 0 0 3 [some (.ref 0), some (.long y1), none, some (.int (x3 + (-8))), none] [] ([kR 0 (R_s_tape_taped v0 m_tape0 m_taped1)] : List (List zE)).flatten
              exact ih v0 y1 (x3 + (-8)) m_tape0 m_taped1 q hf hk0
            · rw [if_neg c9] at hf
              obtain ⟨b12, hf⟩ := zneed hf
              refine ⟨b12, ?_⟩
              replace hf := zlet_gen hf
              generalize ((upd m_tape0 (Int32.toNatClampNeg m_taped1) ((Int64.toInt32 (y1 >>> (Int32.toInt64 x3 &&& 63))) &&& 255)) : (Nat → Int32)) = z10 at hf ⊢
              replace hf := zlet_gen hf
              generalize (((Int64.toInt32 (y1 >>> (Int32.toInt64 x3 &&& 63))) &&& 255) : Int32) = z11 at hf ⊢
              as_aux_lemma =>
                refine AW.run hZ hRm [3] 400 ?_
                show AW Z 0 0 3 [some (.ref 0), some (.long y1), none, some (.int (x3 + (-8))), some (.int z11)] [] ([kR 0 (R_s_tape_taped v0 z10 (m_taped1 + 1))] : List (List zE)).flatten
                refine AW.forget [true, true, false, true, false] ?_
                show AW Z 0 0 3 [some (.ref 0), some (.long y1), none, some (.int (x3 + (-8))), none] [] ([kR 0 (R_s_tape_taped v0 z10 (m_taped1 + 1))] : List (List zE)).flatten
                exact ih v0 y1 (x3 + (-8)) z10 (m_taped1 + 1) q hf hk0
set_option maxRecDepth 20000 in
set_option maxHeartbeats 4000000 in
theorem c_R_lay (N : Nat) (v0 : VR) (a1 : Int64) (R : (Nat → Int32) × Int32) (hf : f_R_lay N v0 a1 = some R) : Ct zMX12_lay 1 0 0 0 [.ref 0, .long a1] ([kR 0 v0] : List (List zE)).flatten (fun v cc => v = none ∧ cc = ([kR 0 (R_s_tape_taped v0 R.1 R.2)] : List (List zE)).flatten) := by
  refine Ct.of zMX12_lay_ok (by decide) (Nat.le_of_ble_eq_true rfl) ?_
  intro Z hZ hR hN hE
  have hRm : zRoom Z 0 0 := zRoom0 Z
  unfold f_R_lay at hf
  show AW Z 0 0 0 [some (.ref 0), some (.long a1), none, none, none] [] ([kR 0 v0] : List (List zE)).flatten
  refine AW.run hZ hRm [3] 400 ?_
  show AW Z 0 0 3 [some (.ref 0), some (.long a1), none, some (.int 56), none] [] ([kR 0 v0] : List (List zE)).flatten
  obtain ⟨q13, h14, hf⟩ := zbind hf
  refine c_R_lay_L3 hZ hR (by omega) hN hRm N N v0 a1 56 (R_tape v0) (R_taped v0) q13 h14 ?_
  show AW Z 0 0 75 [none, none, none, none, none] [] ([kR 0 (R_s_tape_taped v0 q13.1 q13.2)] : List (List zE)).flatten
  cases hf
  exact AW.vret hZ hE rfl rfl rfl (Nat.le_refl 0) (Nat.le_refl 0) rfl ⟨rfl, rfl⟩
def f_R_feed (N : Nat) (v0 : VR) (a1 : Int64) (a3 : Int64) (a5 : Int64) : Option (Int32 × Int32 × (Nat → Int32) × Int32) := ((f_R_lay N (R_thrown_s v0 0) a1).bind (fun q1 => ((f_R_lay N (R_s_thrown_tape_taped v0 0 q1.1 q1.2) a3).bind (fun q2 => ((f_R_lay N (R_s_thrown_tape_taped v0 0 q2.1 q2.2) a5).bind (fun q3 => (some (q3.2, 0, q3.1, q3.2))))))))
set_option maxRecDepth 20000 in
set_option maxHeartbeats 4000000 in
theorem c_R_feed (N : Nat) (v0 : VR) (a1 : Int64) (a3 : Int64) (a5 : Int64) (R : Int32 × Int32 × (Nat → Int32) × Int32) (hf : f_R_feed N v0 a1 a3 a5 = some R) : Ct zMX12_feed 2 0 0 0 [.ref 0, .long a1, .long a3, .long a5] ([kR 0 v0] : List (List zE)).flatten (fun v cc => v = some (.int R.1) ∧ cc = ([kR 0 (R_s_thrown_tape_taped v0 R.2.1 R.2.2.1 R.2.2.2)] : List (List zE)).flatten) := by
  refine Ct.of zMX12_feed_ok (by decide) (Nat.le_of_ble_eq_true rfl) ?_
  intro Z hZ hR hN hE
  have hRm : zRoom Z 0 0 := zRoom0 Z
  unfold f_R_feed at hf
  show AW Z 0 0 0 [some (.ref 0), some (.long a1), none, some (.long a3), none, some (.long a5), none] [] ([kR 0 v0] : List (List zE)).flatten
  refine AW.run hZ hRm [7] 400 ?_
  show AW Z 0 0 7 [some (.ref 0), some (.long a1), none, some (.long a3), none, some (.long a5), none] [.long a1, .ref 0] ([kR 0 (R_thrown_s v0 0)] : List (List zE)).flatten
  obtain ⟨q1, h6, hf⟩ := zbind hf
  refine AW.callVc hZ hR hN (c_R_lay N (R_thrown_s v0 0) a1 q1 h6) zMX12_lay_ok rfl rfl zK_BorrowedLivesModel_7 zV_X12_lay rfl [25] [0] [0, 1, 2, 3, 4, 5, 6, 7, 8, 9, 10, 11, 12, 13, 14, 15, 16, 17, 18, 19, 20, 21, 22, 23, 24] rfl rfl rfl (by decide) (by decide) (by omega) (by decide) (Nat.zero_le _) (Nat.zero_le _) rfl rfl rfl rfl rfl ?_
  rintro v cc ⟨rfl, rfl⟩
  refine ⟨_, rfl, rfl, ?_⟩
  show AW Z 0 0 10 [some (.ref 0), some (.long a1), none, some (.long a3), none, some (.long a5), none] [] ([kR 0 (R_s_thrown_tape_taped v0 0 q1.1 q1.2)] : List (List zE)).flatten
  refine AW.run hZ hRm [12] 400 ?_
  show AW Z 0 0 12 [some (.ref 0), some (.long a1), none, some (.long a3), none, some (.long a5), none] [.long a3, .ref 0] ([kR 0 (R_s_thrown_tape_taped v0 0 q1.1 q1.2)] : List (List zE)).flatten
  obtain ⟨q2, h5, hf⟩ := zbind hf
  refine AW.callVc hZ hR hN (c_R_lay N (R_s_thrown_tape_taped v0 0 q1.1 q1.2) a3 q2 h5) zMX12_lay_ok rfl rfl zK_BorrowedLivesModel_7 zV_X12_lay rfl [25] [0] [0, 1, 2, 3, 4, 5, 6, 7, 8, 9, 10, 11, 12, 13, 14, 15, 16, 17, 18, 19, 20, 21, 22, 23, 24] rfl rfl rfl (by decide) (by decide) (by omega) (by decide) (Nat.zero_le _) (Nat.zero_le _) rfl rfl rfl rfl rfl ?_
  rintro v cc ⟨rfl, rfl⟩
  refine ⟨_, rfl, rfl, ?_⟩
  show AW Z 0 0 15 [some (.ref 0), some (.long a1), none, some (.long a3), none, some (.long a5), none] [] ([kR 0 (R_s_thrown_tape_taped v0 0 q2.1 q2.2)] : List (List zE)).flatten
  refine AW.run hZ hRm [18] 400 ?_
  show AW Z 0 0 18 [some (.ref 0), some (.long a1), none, some (.long a3), none, some (.long a5), none] [.long a5, .ref 0] ([kR 0 (R_s_thrown_tape_taped v0 0 q2.1 q2.2)] : List (List zE)).flatten
  obtain ⟨q3, h4, hf⟩ := zbind hf
  refine AW.callVc hZ hR hN (c_R_lay N (R_s_thrown_tape_taped v0 0 q2.1 q2.2) a5 q3 h4) zMX12_lay_ok rfl rfl zK_BorrowedLivesModel_7 zV_X12_lay rfl [25] [0] [0, 1, 2, 3, 4, 5, 6, 7, 8, 9, 10, 11, 12, 13, 14, 15, 16, 17, 18, 19, 20, 21, 22, 23, 24] rfl rfl rfl (by decide) (by decide) (by omega) (by decide) (Nat.zero_le _) (Nat.zero_le _) rfl rfl rfl rfl rfl ?_
  rintro v cc ⟨rfl, rfl⟩
  refine ⟨_, rfl, rfl, ?_⟩
  show AW Z 0 0 21 [some (.ref 0), some (.long a1), none, some (.long a3), none, some (.long a5), none] [] ([kR 0 (R_s_thrown_tape_taped v0 0 q3.1 q3.2)] : List (List zE)).flatten
  refine AW.run hZ hRm [25] 400 ?_
  show AW Z 0 0 25 [some (.ref 0), some (.long a1), none, some (.long a3), none, some (.long a5), none] [.int q3.2] ([kR 0 (R_s_thrown_tape_taped v0 0 q3.1 q3.2)] : List (List zE)).flatten
  cases hf
  exact AW.iret hZ hE rfl rfl rfl rfl (Nat.le_refl 0) (Nat.le_refl 0) rfl ⟨rfl, rfl⟩
def f_R_standsAsAlways_L2 (N : Nat) : Nat → VR → Int32 → Int32 → (Nat → Int32) → Option ((Nat → Int32))
  | 0, _, _, _, _ => none
  | fuel + 1, v0, y1, x2, m_towns0 => (if (80 ≤ x2) then (some m_towns0) else (if ((y1 + x2) < 0 ∨ 160 ≤ Int32.toNatClampNeg (y1 + x2)) then none else (zlet ((upd m_towns0 (Int32.toNatClampNeg (y1 + x2)) 0) : (Nat → Int32)) (fun z2 => (f_R_standsAsAlways_L2 N fuel v0 y1 (x2 + 1) z2)))))
def f_R_standsAsAlways_L35 (N : Nat) : Nat → VR → Int32 → Int32 → (Nat → Int32) → Option ((Nat → Int32))
  | 0, _, _, _, _ => none
  | fuel + 1, v0, y1, x2, m_towns0 => (if (4 ≤ x2) then (some m_towns0) else (if (((y1 + 3) + x2) < 0 ∨ 160 ≤ Int32.toNatClampNeg ((y1 + 3) + x2)) then none else (zlet ((upd m_towns0 (Int32.toNatClampNeg ((y1 + 3) + x2)) (-1)) : (Nat → Int32)) (fun z8 => (f_R_standsAsAlways_L35 N fuel v0 y1 (x2 + 1) z8)))))
def f_R_standsAsAlways (N : Nat) (v0 : VR) (a1 : Int32) : Option ((Nat → Int32)) := ((f_R_standsAsAlways_L2 N N v0 a1 0 (R_towns v0)).bind (fun q4 => (if ((a1 + 2) < 0 ∨ 160 ≤ Int32.toNatClampNeg (a1 + 2)) then none else (zlet ((upd q4 (Int32.toNatClampNeg (a1 + 2)) 50) : (Nat → Int32)) (fun z6 => ((f_R_standsAsAlways_L35 N N (R_towns_s v0 z6) a1 0 z6).bind (fun q10 => (some q10))))))))
set_option maxRecDepth 20000 in
set_option maxHeartbeats 4000000 in
theorem c_R_standsAsAlways_L2 {Z : zCtx} {D n0w nf mcw msw : Nat} (hZ : zOk Z zMX12_standsAsAlways) (hR : zCan Z D mcw msw) (hDd : 1 ≤ D) (hN : zNew Z n0w nf) (hRm : zRoom Z 0 0) (N : Nat) : ∀ (fuel : Nat) (v0 : VR) (y1 : Int32) (x2 : Int32) (m_towns0 : (Nat → Int32)) (q : ((Nat → Int32))), f_R_standsAsAlways_L2 N fuel v0 y1 x2 m_towns0 = some q → (AW Z 0 0 23 [some (.ref 0), some (.int y1), none] [] ([kR 0 (R_towns_s v0 q)] : List (List zE)).flatten) → AW Z 0 0 2 [some (.ref 0), some (.int y1), some (.int x2)] [] ([kR 0 (R_towns_s v0 m_towns0)] : List (List zE)).flatten := by
  intro fuel
  induction fuel with
  | zero =>
    intro v0 y1 x2 m_towns0 q hf hk0
    simp [f_R_standsAsAlways_L2] at hf
  | succ fuel ih =>
    intro v0 y1 x2 m_towns0 q hf hk0
    rw [f_R_standsAsAlways_L2] at hf
    refine AW.run hZ hRm [17, 23] 400 ?_
    show (((80 ≤ x2) → AW Z 0 0 23 [some (.ref 0), some (.int y1), some (.int x2)] [] ([kR 0 (R_towns_s v0 m_towns0)] : List (List zE)).flatten) ∧ (¬ (80 ≤ x2) → (¬ ((y1 + x2) < 0 ∨ 160 ≤ Int32.toNatClampNeg (y1 + x2)) ∧ AW Z 0 0 17 [some (.ref 0), some (.int y1), some (.int x2)] [] ([kR 0 (R_towns_s v0 (upd m_towns0 (Int32.toNatClampNeg (y1 + x2)) 0))] : List (List zE)).flatten)))
    refine ⟨fun c1 => ?_, fun c1 => ?_⟩
    · rw [if_pos c1] at hf
      cases hf
      refine AW.forget [true, true, false] ?_
      show AW Z 0 0 23 [some (.ref 0), some (.int y1), none] [] ([kR 0 (R_towns_s v0 m_towns0)] : List (List zE)).flatten
      exact hk0
    · rw [if_neg c1] at hf
      obtain ⟨b3, hf⟩ := zneed hf
      refine ⟨b3, ?_⟩
      replace hf := zlet_gen hf
      generalize ((upd m_towns0 (Int32.toNatClampNeg (y1 + x2)) 0) : (Nat → Int32)) = z2 at hf ⊢
      as_aux_lemma =>
        refine AW.run hZ hRm [2] 400 ?_
        show AW Z 0 0 2 [some (.ref 0), some (.int y1), some (.int (x2 + 1))] [] ([kR 0 (R_towns_s v0 z2)] : List (List zE)).flatten
        exact ih v0 y1 (x2 + 1) z2 q hf hk0
set_option maxRecDepth 20000 in
set_option maxHeartbeats 4000000 in
theorem c_R_standsAsAlways_L35 {Z : zCtx} {D n0w nf mcw msw : Nat} (hZ : zOk Z zMX12_standsAsAlways) (hR : zCan Z D mcw msw) (hDd : 1 ≤ D) (hN : zNew Z n0w nf) (hRm : zRoom Z 0 0) (N : Nat) : ∀ (fuel : Nat) (v0 : VR) (y1 : Int32) (x2 : Int32) (m_towns0 : (Nat → Int32)) (q : ((Nat → Int32))), f_R_standsAsAlways_L35 N fuel v0 y1 x2 m_towns0 = some q → (AW Z 0 0 57 [none, none, none] [] ([kR 0 (R_towns_s v0 q)] : List (List zE)).flatten) → AW Z 0 0 35 [some (.ref 0), some (.int y1), some (.int x2)] [] ([kR 0 (R_towns_s v0 m_towns0)] : List (List zE)).flatten := by
  intro fuel
  induction fuel with
  | zero =>
    intro v0 y1 x2 m_towns0 q hf hk0
    simp [f_R_standsAsAlways_L35] at hf
  | succ fuel ih =>
    intro v0 y1 x2 m_towns0 q hf hk0
    rw [f_R_standsAsAlways_L35] at hf
    refine AW.run hZ hRm [51, 57] 400 ?_
    show (((4 ≤ x2) → AW Z 0 0 57 [some (.ref 0), some (.int y1), some (.int x2)] [] ([kR 0 (R_towns_s v0 m_towns0)] : List (List zE)).flatten) ∧ (¬ (4 ≤ x2) → (¬ (((y1 + 3) + x2) < 0 ∨ 160 ≤ Int32.toNatClampNeg ((y1 + 3) + x2)) ∧ AW Z 0 0 51 [some (.ref 0), some (.int y1), some (.int x2)] [] ([kR 0 (R_towns_s v0 (upd m_towns0 (Int32.toNatClampNeg ((y1 + 3) + x2)) (-1)))] : List (List zE)).flatten)))
    refine ⟨fun c7 => ?_, fun c7 => ?_⟩
    · rw [if_pos c7] at hf
      cases hf
      refine AW.forget [false, false, false] ?_
      show AW Z 0 0 57 [none, none, none] [] ([kR 0 (R_towns_s v0 m_towns0)] : List (List zE)).flatten
      exact hk0
    · rw [if_neg c7] at hf
      obtain ⟨b9, hf⟩ := zneed hf
      refine ⟨b9, ?_⟩
      replace hf := zlet_gen hf
      generalize ((upd m_towns0 (Int32.toNatClampNeg ((y1 + 3) + x2)) (-1)) : (Nat → Int32)) = z8 at hf ⊢
      as_aux_lemma =>
        refine AW.run hZ hRm [35] 400 ?_
        show AW Z 0 0 35 [some (.ref 0), some (.int y1), some (.int (x2 + 1))] [] ([kR 0 (R_towns_s v0 z8)] : List (List zE)).flatten
        exact ih v0 y1 (x2 + 1) z8 q hf hk0
set_option maxRecDepth 20000 in
set_option maxHeartbeats 4000000 in
theorem c_R_standsAsAlways (N : Nat) (v0 : VR) (a1 : Int32) (R : (Nat → Int32)) (hf : f_R_standsAsAlways N v0 a1 = some R) : Ct zMX12_standsAsAlways 1 0 0 0 [.ref 0, .int a1] ([kR 0 v0] : List (List zE)).flatten (fun v cc => v = none ∧ cc = ([kR 0 (R_towns_s v0 R)] : List (List zE)).flatten) := by
  refine Ct.of zMX12_standsAsAlways_ok (by decide) (Nat.le_of_ble_eq_true rfl) ?_
  intro Z hZ hR hN hE
  have hRm : zRoom Z 0 0 := zRoom0 Z
  unfold f_R_standsAsAlways at hf
  show AW Z 0 0 0 [some (.ref 0), some (.int a1), none] [] ([kR 0 v0] : List (List zE)).flatten
  refine AW.run hZ hRm [2] 400 ?_
  show AW Z 0 0 2 [some (.ref 0), some (.int a1), some (.int 0)] [] ([kR 0 v0] : List (List zE)).flatten
  obtain ⟨q4, h5, hf⟩ := zbind hf
  refine c_R_standsAsAlways_L2 hZ hR (by omega) hN hRm N N v0 a1 0 (R_towns v0) q4 h5 ?_
  show AW Z 0 0 23 [some (.ref 0), some (.int a1), none] [] ([kR 0 (R_towns_s v0 q4)] : List (List zE)).flatten
  refine AW.run hZ hRm [33] 400 ?_
  show (¬ ((a1 + 2) < 0 ∨ 160 ≤ Int32.toNatClampNeg (a1 + 2)) ∧ AW Z 0 0 33 [some (.ref 0), some (.int a1), none] [] ([kR 0 (R_towns_s v0 (upd q4 (Int32.toNatClampNeg (a1 + 2)) 50))] : List (List zE)).flatten)
  obtain ⟨b12, hf⟩ := zneed hf
  refine ⟨b12, ?_⟩
  replace hf := zlet_gen hf
  generalize ((upd q4 (Int32.toNatClampNeg (a1 + 2)) 50) : (Nat → Int32)) = z6 at hf ⊢
  as_aux_lemma =>
    refine AW.run hZ hRm [35] 400 ?_
    show AW Z 0 0 35 [some (.ref 0), some (.int a1), some (.int 0)] [] ([kR 0 (R_towns_s v0 z6)] : List (List zE)).flatten
    obtain ⟨q10, h11, hf⟩ := zbind hf
    refine c_R_standsAsAlways_L35 hZ hR (by omega) hN hRm N N (R_towns_s v0 z6) a1 0 z6 q10 h11 ?_
    show AW Z 0 0 57 [none, none, none] [] ([kR 0 (R_towns_s v0 q10)] : List (List zE)).flatten
    cases hf
    exact AW.vret hZ hE rfl rfl rfl (Nat.le_refl 0) (Nat.le_refl 0) rfl ⟨rfl, rfl⟩
def f_R_people (N : Nat) (v0 : VR) : Option (Int32) := (some ((R_towns v0) (Int32.toNatClampNeg 0)))
set_option maxRecDepth 20000 in
set_option maxHeartbeats 4000000 in
theorem c_R_people (N : Nat) (v0 : VR) (R : Int32) (hf : f_R_people N v0 = some R) : Ct zMX12_people 1 0 0 0 [.ref 0] ([kR 0 v0] : List (List zE)).flatten (fun v cc => v = some (.int R) ∧ cc = ([kR 0 v0] : List (List zE)).flatten) := by
  refine Ct.of zMX12_people_ok (by decide) (Nat.le_of_ble_eq_true rfl) ?_
  intro Z hZ hR hN hE
  have hRm : zRoom Z 0 0 := zRoom0 Z
  unfold f_R_people at hf
  show AW Z 0 0 0 [some (.ref 0)] [] ([kR 0 v0] : List (List zE)).flatten
  refine AW.run hZ hRm [6] 400 ?_
  show (¬ ((0 : Int32) < 0 ∨ 160 ≤ Int32.toNatClampNeg 0) ∧ AW Z 0 0 6 [some (.ref 0)] [.int ((R_towns v0) (Int32.toNatClampNeg 0))] ([kR 0 v0] : List (List zE)).flatten)
  refine ⟨(by decide), ?_⟩
  cases hf
  exact AW.iret hZ hE rfl rfl rfl rfl (Nat.le_refl 0) (Nat.le_refl 0) rfl ⟨rfl, rfl⟩
def f_R_personOf (N : Nat) (v0 : VR) (a1 : Int32) (a2 : Int32) : Option (Int32) := (if (((8 + (5 * a1)) + a2) < 0 ∨ 160 ≤ Int32.toNatClampNeg ((8 + (5 * a1)) + a2)) then none else (some ((R_towns v0) (Int32.toNatClampNeg ((8 + (5 * a1)) + a2)))))
set_option maxRecDepth 20000 in
set_option maxHeartbeats 4000000 in
theorem c_R_personOf (N : Nat) (v0 : VR) (a1 : Int32) (a2 : Int32) (R : Int32) (hf : f_R_personOf N v0 a1 a2 = some R) : Ct zMX12_personOf 1 0 0 0 [.ref 0, .int a1, .int a2] ([kR 0 v0] : List (List zE)).flatten (fun v cc => v = some (.int R) ∧ cc = ([kR 0 v0] : List (List zE)).flatten) := by
  refine Ct.of zMX12_personOf_ok (by decide) (Nat.le_of_ble_eq_true rfl) ?_
  intro Z hZ hR hN hE
  have hRm : zRoom Z 0 0 := zRoom0 Z
  unfold f_R_personOf at hf
  show AW Z 0 0 0 [some (.ref 0), some (.int a1), some (.int a2)] [] ([kR 0 v0] : List (List zE)).flatten
  refine AW.run hZ hRm [13] 400 ?_
  show (¬ (((8 + (5 * a1)) + a2) < 0 ∨ 160 ≤ Int32.toNatClampNeg ((8 + (5 * a1)) + a2)) ∧ AW Z 0 0 13 [some (.ref 0), some (.int a1), some (.int a2)] [.int ((R_towns v0) (Int32.toNatClampNeg ((8 + (5 * a1)) + a2)))] ([kR 0 v0] : List (List zE)).flatten)
  obtain ⟨b1, hf⟩ := zneed hf
  refine ⟨b1, ?_⟩
  cases hf
  exact AW.iret hZ hE rfl rfl rfl rfl (Nat.le_refl 0) (Nat.le_refl 0) rfl ⟨rfl, rfl⟩
def f_R_starts_L2 (N : Nat) : Nat → VR → Int32 → Int32 → (Nat → Int32) → Option ((Nat → Int32))
  | 0, _, _, _, _ => none
  | fuel + 1, v0, y1, x2, m_state0 => (if (46 ≤ x2) then (some m_state0) else (if ((y1 + x2) < 0 ∨ 1656 ≤ Int32.toNatClampNeg (y1 + x2)) then none else (zlet ((upd m_state0 (Int32.toNatClampNeg (y1 + x2)) 0) : (Nat → Int32)) (fun z2 => (f_R_starts_L2 N fuel v0 y1 (x2 + 1) z2)))))
def f_R_starts_L25 (N : Nat) : Nat → VR → Int32 → Int32 → (Nat → Int32) → Option ((Nat → Int32))
  | 0, _, _, _, _ => none
  | fuel + 1, v0, y1, x2, m_state0 => ((f_R_people N (R_state_s v0 m_state0)).bind (fun q6 => (if (q6 ≤ x2) then (some m_state0) else ((f_R_personOf N (R_state_s v0 m_state0) x2 2).bind (fun q8 => (if (((y1 + 4) + x2) < 0 ∨ 1656 ≤ Int32.toNatClampNeg ((y1 + 4) + x2)) then none else (zlet ((upd m_state0 (Int32.toNatClampNeg ((y1 + 4) + x2)) q8) : (Nat → Int32)) (fun z9 => ((f_R_personOf N (R_state_s v0 z9) x2 3).bind (fun q10 => (if (((y1 + 10) + x2) < 0 ∨ 1656 ≤ Int32.toNatClampNeg ((y1 + 10) + x2)) then none else (zlet ((upd z9 (Int32.toNatClampNeg ((y1 + 10) + x2)) q10) : (Nat → Int32)) (fun z11 => ((f_R_personOf N (R_state_s v0 z11) x2 4).bind (fun q12 => (if (((y1 + 16) + x2) < 0 ∨ 1656 ≤ Int32.toNatClampNeg ((y1 + 16) + x2)) then none else (zlet ((upd z11 (Int32.toNatClampNeg ((y1 + 16) + x2)) q12) : (Nat → Int32)) (fun z13 => (if (((y1 + 28) + x2) < 0 ∨ 1656 ≤ Int32.toNatClampNeg ((y1 + 28) + x2)) then none else (zlet ((upd z13 (Int32.toNatClampNeg ((y1 + 28) + x2)) x2) : (Nat → Int32)) (fun z14 => (f_R_starts_L25 N fuel v0 y1 (x2 + 1) z14))))))))))))))))))))))
def f_R_starts (N : Nat) (v0 : VR) (a1 : Int32) : Option ((Nat → Int32)) := ((f_R_starts_L2 N N v0 a1 0 (R_state v0)).bind (fun q4 => ((f_R_starts_L25 N N (R_state_s v0 q4) a1 0 q4).bind (fun q23 => (some q23)))))
set_option maxRecDepth 20000 in
set_option maxHeartbeats 4000000 in
theorem c_R_starts_L2 {Z : zCtx} {D n0w nf mcw msw : Nat} (hZ : zOk Z zMX12_starts) (hR : zCan Z D mcw msw) (hDd : 2 ≤ D) (hN : zNew Z n0w nf) (hRm : zRoom Z 0 0) (N : Nat) : ∀ (fuel : Nat) (v0 : VR) (y1 : Int32) (x2 : Int32) (m_state0 : (Nat → Int32)) (q : ((Nat → Int32))), f_R_starts_L2 N fuel v0 y1 x2 m_state0 = some q → (AW Z 0 0 23 [some (.ref 0), some (.int y1), none] [] ([kR 0 (R_state_s v0 q)] : List (List zE)).flatten) → AW Z 0 0 2 [some (.ref 0), some (.int y1), some (.int x2)] [] ([kR 0 (R_state_s v0 m_state0)] : List (List zE)).flatten := by
  intro fuel
  induction fuel with
  | zero =>
    intro v0 y1 x2 m_state0 q hf hk0
    simp [f_R_starts_L2] at hf
  | succ fuel ih =>
    intro v0 y1 x2 m_state0 q hf hk0
    rw [f_R_starts_L2] at hf
    refine AW.run hZ hRm [17, 23] 400 ?_
    show (((46 ≤ x2) → AW Z 0 0 23 [some (.ref 0), some (.int y1), some (.int x2)] [] ([kR 0 (R_state_s v0 m_state0)] : List (List zE)).flatten) ∧ (¬ (46 ≤ x2) → (¬ ((y1 + x2) < 0 ∨ 1656 ≤ Int32.toNatClampNeg (y1 + x2)) ∧ AW Z 0 0 17 [some (.ref 0), some (.int y1), some (.int x2)] [] ([kR 0 (R_state_s v0 (upd m_state0 (Int32.toNatClampNeg (y1 + x2)) 0))] : List (List zE)).flatten)))
    refine ⟨fun c1 => ?_, fun c1 => ?_⟩
    · rw [if_pos c1] at hf
      cases hf
      refine AW.forget [true, true, false] ?_
      show AW Z 0 0 23 [some (.ref 0), some (.int y1), none] [] ([kR 0 (R_state_s v0 m_state0)] : List (List zE)).flatten
      exact hk0
    · rw [if_neg c1] at hf
      obtain ⟨b3, hf⟩ := zneed hf
      refine ⟨b3, ?_⟩
      replace hf := zlet_gen hf
      generalize ((upd m_state0 (Int32.toNatClampNeg (y1 + x2)) 0) : (Nat → Int32)) = z2 at hf ⊢
      as_aux_lemma =>
        refine AW.run hZ hRm [2] 400 ?_
        show AW Z 0 0 2 [some (.ref 0), some (.int y1), some (.int (x2 + 1))] [] ([kR 0 (R_state_s v0 z2)] : List (List zE)).flatten
        exact ih v0 y1 (x2 + 1) z2 q hf hk0
set_option maxRecDepth 20000 in
set_option maxHeartbeats 4000000 in
theorem c_R_starts_L25 {Z : zCtx} {D n0w nf mcw msw : Nat} (hZ : zOk Z zMX12_starts) (hR : zCan Z D mcw msw) (hDd : 2 ≤ D) (hN : zNew Z n0w nf) (hRm : zRoom Z 0 0) (N : Nat) : ∀ (fuel : Nat) (v0 : VR) (y1 : Int32) (x2 : Int32) (m_state0 : (Nat → Int32)) (q : ((Nat → Int32))), f_R_starts_L25 N fuel v0 y1 x2 m_state0 = some q → (AW Z 0 0 101 [none, none, none] [] ([kR 0 (R_state_s v0 q)] : List (List zE)).flatten) → AW Z 0 0 25 [some (.ref 0), some (.int y1), some (.int x2)] [] ([kR 0 (R_state_s v0 m_state0)] : List (List zE)).flatten := by
  intro fuel
  induction fuel with
  | zero =>
    intro v0 y1 x2 m_state0 q hf hk0
    simp [f_R_starts_L25] at hf
  | succ fuel ih =>
    intro v0 y1 x2 m_state0 q hf hk0
    rw [f_R_starts_L25] at hf
    refine AW.run hZ hRm [27] 400 ?_
    show AW Z 0 0 27 [some (.ref 0), some (.int y1), some (.int x2)] [.ref 0, .int x2] ([kR 0 (R_state_s v0 m_state0)] : List (List zE)).flatten
    obtain ⟨q6, h22, hf⟩ := zbind hf
    refine AW.callVc hZ hR hN (c_R_people N (R_state_s v0 m_state0) q6 h22) zMX12_people_ok rfl rfl zK_BorrowedLivesModel_291 zV_X12_people rfl [25] [0] [0, 1, 2, 3, 4, 5, 6, 7, 8, 9, 10, 11, 12, 13, 14, 15, 16, 17, 18, 19, 20, 21, 22, 23, 24] rfl rfl rfl (by decide) (by decide) (by omega) (by decide) (Nat.zero_le _) (Nat.zero_le _) rfl rfl rfl rfl rfl ?_
    rintro v cc ⟨rfl, rfl⟩
    refine ⟨_, rfl, rfl, ?_⟩
    show AW Z 0 0 30 [some (.ref 0), some (.int y1), some (.int x2)] [.int q6, .int x2] ([kR 0 (R_state_s v0 m_state0)] : List (List zE)).flatten
    refine AW.run hZ hRm [45, 101] 400 ?_
    show (((q6 ≤ x2) → AW Z 0 0 101 [some (.ref 0), some (.int y1), some (.int x2)] [] ([kR 0 (R_state_s v0 m_state0)] : List (List zE)).flatten) ∧ (¬ (q6 ≤ x2) → AW Z 0 0 45 [some (.ref 0), some (.int y1), some (.int x2)] [.int 2, .int x2, .ref 0, .int ((y1 + 4) + x2), .ref 14] ([kR 0 (R_state_s v0 m_state0)] : List (List zE)).flatten))
    refine ⟨fun c7 => ?_, fun c7 => ?_⟩
    · rw [if_pos c7] at hf
      cases hf
      refine AW.forget [false, false, false] ?_
      show AW Z 0 0 101 [none, none, none] [] ([kR 0 (R_state_s v0 m_state0)] : List (List zE)).flatten
      exact hk0
    · rw [if_neg c7] at hf
      obtain ⟨q8, h21, hf⟩ := zbind hf
      refine AW.callVc hZ hR hN (c_R_personOf N (R_state_s v0 m_state0) x2 2 q8 h21) zMX12_personOf_ok rfl rfl zK_BorrowedLivesModel_294 zV_X12_personOf rfl [25] [0] [0, 1, 2, 3, 4, 5, 6, 7, 8, 9, 10, 11, 12, 13, 14, 15, 16, 17, 18, 19, 20, 21, 22, 23, 24] rfl rfl rfl (by decide) (by decide) (by omega) (by decide) (Nat.zero_le _) (Nat.zero_le _) rfl rfl rfl rfl rfl ?_
      rintro v cc ⟨rfl, rfl⟩
      refine ⟨_, rfl, rfl, ?_⟩
      show AW Z 0 0 48 [some (.ref 0), some (.int y1), some (.int x2)] [.int q8, .int ((y1 + 4) + x2), .ref 14] ([kR 0 (R_state_s v0 m_state0)] : List (List zE)).flatten
      refine AW.run hZ hRm [49] 400 ?_
      show (¬ (((y1 + 4) + x2) < 0 ∨ 1656 ≤ Int32.toNatClampNeg ((y1 + 4) + x2)) ∧ AW Z 0 0 49 [some (.ref 0), some (.int y1), some (.int x2)] [] ([kR 0 (R_state_s v0 (upd m_state0 (Int32.toNatClampNeg ((y1 + 4) + x2)) q8))] : List (List zE)).flatten)
      obtain ⟨b20, hf⟩ := zneed hf
      refine ⟨b20, ?_⟩
      replace hf := zlet_gen hf
      generalize ((upd m_state0 (Int32.toNatClampNeg ((y1 + 4) + x2)) q8) : (Nat → Int32)) = z9 at hf ⊢
      as_aux_lemma =>
        refine AW.run hZ hRm [62] 400 ?_
        show AW Z 0 0 62 [some (.ref 0), some (.int y1), some (.int x2)] [.int 3, .int x2, .ref 0, .int ((y1 + 10) + x2), .ref 14] ([kR 0 (R_state_s v0 z9)] : List (List zE)).flatten
        obtain ⟨q10, h19, hf⟩ := zbind hf
        refine AW.callVc hZ hR hN (c_R_personOf N (R_state_s v0 z9) x2 3 q10 h19) zMX12_personOf_ok rfl rfl zK_BorrowedLivesModel_294 zV_X12_personOf rfl [25] [0] [0, 1, 2, 3, 4, 5, 6, 7, 8, 9, 10, 11, 12, 13, 14, 15, 16, 17, 18, 19, 20, 21, 22, 23, 24] rfl rfl rfl (by decide) (by decide) (by omega) (by decide) (Nat.zero_le _) (Nat.zero_le _) rfl rfl rfl rfl rfl ?_
        rintro v cc ⟨rfl, rfl⟩
        refine ⟨_, rfl, rfl, ?_⟩
        show AW Z 0 0 65 [some (.ref 0), some (.int y1), some (.int x2)] [.int q10, .int ((y1 + 10) + x2), .ref 14] ([kR 0 (R_state_s v0 z9)] : List (List zE)).flatten
        refine AW.run hZ hRm [66] 400 ?_
        show (¬ (((y1 + 10) + x2) < 0 ∨ 1656 ≤ Int32.toNatClampNeg ((y1 + 10) + x2)) ∧ AW Z 0 0 66 [some (.ref 0), some (.int y1), some (.int x2)] [] ([kR 0 (R_state_s v0 (upd z9 (Int32.toNatClampNeg ((y1 + 10) + x2)) q10))] : List (List zE)).flatten)
        obtain ⟨b18, hf⟩ := zneed hf
        refine ⟨b18, ?_⟩
        replace hf := zlet_gen hf
        generalize ((upd z9 (Int32.toNatClampNeg ((y1 + 10) + x2)) q10) : (Nat → Int32)) = z11 at hf ⊢
        as_aux_lemma =>
          refine AW.run hZ hRm [79] 400 ?_
          show AW Z 0 0 79 [some (.ref 0), some (.int y1), some (.int x2)] [.int 4, .int x2, .ref 0, .int ((y1 + 16) + x2), .ref 14] ([kR 0 (R_state_s v0 z11)] : List (List zE)).flatten
          obtain ⟨q12, h17, hf⟩ := zbind hf
          refine AW.callVc hZ hR hN (c_R_personOf N (R_state_s v0 z11) x2 4 q12 h17) zMX12_personOf_ok rfl rfl zK_BorrowedLivesModel_294 zV_X12_personOf rfl [25] [0] [0, 1, 2, 3, 4, 5, 6, 7, 8, 9, 10, 11, 12, 13, 14, 15, 16, 17, 18, 19, 20, 21, 22, 23, 24] rfl rfl rfl (by decide) (by decide) (by omega) (by decide) (Nat.zero_le _) (Nat.zero_le _) rfl rfl rfl rfl rfl ?_
          rintro v cc ⟨rfl, rfl⟩
          refine ⟨_, rfl, rfl, ?_⟩
          show AW Z 0 0 82 [some (.ref 0), some (.int y1), some (.int x2)] [.int q12, .int ((y1 + 16) + x2), .ref 14] ([kR 0 (R_state_s v0 z11)] : List (List zE)).flatten
          refine AW.run hZ hRm [83] 400 ?_
          show (¬ (((y1 + 16) + x2) < 0 ∨ 1656 ≤ Int32.toNatClampNeg ((y1 + 16) + x2)) ∧ AW Z 0 0 83 [some (.ref 0), some (.int y1), some (.int x2)] [] ([kR 0 (R_state_s v0 (upd z11 (Int32.toNatClampNeg ((y1 + 16) + x2)) q12))] : List (List zE)).flatten)
          obtain ⟨b16, hf⟩ := zneed hf
          refine ⟨b16, ?_⟩
          replace hf := zlet_gen hf
          generalize ((upd z11 (Int32.toNatClampNeg ((y1 + 16) + x2)) q12) : (Nat → Int32)) = z13 at hf ⊢
          as_aux_lemma =>
            refine AW.run hZ hRm [95] 400 ?_
            show (¬ (((y1 + 28) + x2) < 0 ∨ 1656 ≤ Int32.toNatClampNeg ((y1 + 28) + x2)) ∧ AW Z 0 0 95 [some (.ref 0), some (.int y1), some (.int x2)] [] ([kR 0 (R_state_s v0 (upd z13 (Int32.toNatClampNeg ((y1 + 28) + x2)) x2))] : List (List zE)).flatten)
            obtain ⟨b15, hf⟩ := zneed hf
            refine ⟨b15, ?_⟩
            replace hf := zlet_gen hf
            generalize ((upd z13 (Int32.toNatClampNeg ((y1 + 28) + x2)) x2) : (Nat → Int32)) = z14 at hf ⊢
            as_aux_lemma =>
              refine AW.run hZ hRm [25] 400 ?_
              show AW Z 0 0 25 [some (.ref 0), some (.int y1), some (.int (x2 + 1))] [] ([kR 0 (R_state_s v0 z14)] : List (List zE)).flatten
              exact ih v0 y1 (x2 + 1) z14 q hf hk0
set_option maxRecDepth 20000 in
set_option maxHeartbeats 4000000 in
theorem c_R_starts (N : Nat) (v0 : VR) (a1 : Int32) (R : (Nat → Int32)) (hf : f_R_starts N v0 a1 = some R) : Ct zMX12_starts 2 0 0 0 [.ref 0, .int a1] ([kR 0 v0] : List (List zE)).flatten (fun v cc => v = none ∧ cc = ([kR 0 (R_state_s v0 R)] : List (List zE)).flatten) := by
  refine Ct.of zMX12_starts_ok (by decide) (Nat.le_of_ble_eq_true rfl) ?_
  intro Z hZ hR hN hE
  have hRm : zRoom Z 0 0 := zRoom0 Z
  unfold f_R_starts at hf
  show AW Z 0 0 0 [some (.ref 0), some (.int a1), none] [] ([kR 0 v0] : List (List zE)).flatten
  refine AW.run hZ hRm [2] 400 ?_
  show AW Z 0 0 2 [some (.ref 0), some (.int a1), some (.int 0)] [] ([kR 0 v0] : List (List zE)).flatten
  obtain ⟨q4, h5, hf⟩ := zbind hf
  refine c_R_starts_L2 hZ hR (by omega) hN hRm N N v0 a1 0 (R_state v0) q4 h5 ?_
  show AW Z 0 0 23 [some (.ref 0), some (.int a1), none] [] ([kR 0 (R_state_s v0 q4)] : List (List zE)).flatten
  refine AW.run hZ hRm [25] 400 ?_
  show AW Z 0 0 25 [some (.ref 0), some (.int a1), some (.int 0)] [] ([kR 0 (R_state_s v0 q4)] : List (List zE)).flatten
  obtain ⟨q23, h24, hf⟩ := zbind hf
  refine c_R_starts_L25 hZ hR (by omega) hN hRm N N (R_state_s v0 q4) a1 0 q4 q23 h24 ?_
  show AW Z 0 0 101 [none, none, none] [] ([kR 0 (R_state_s v0 q23)] : List (List zE)).flatten
  cases hf
  exact AW.vret hZ hE rfl rfl rfl (Nat.le_refl 0) (Nat.le_refl 0) rfl ⟨rfl, rfl⟩
def f_R_mayBe (N : Nat) (v0 : VR) (a1 : Int32) (a2 : Int32) : Option (Int32) := (if (a1 = a2) then (some 0) else (if (((38 + (6 * a1)) + a2) < 0 ∨ 160 ≤ Int32.toNatClampNeg ((38 + (6 * a1)) + a2)) then none else (if (((R_towns v0) (Int32.toNatClampNeg ((38 + (6 * a1)) + a2))) = 0) then (some 1) else (some 0))))
set_option maxRecDepth 20000 in
set_option maxHeartbeats 4000000 in
theorem c_R_mayBe (N : Nat) (v0 : VR) (a1 : Int32) (a2 : Int32) (R : Int32) (hf : f_R_mayBe N v0 a1 a2 = some R) : Ct zMX12_mayBe 1 0 0 0 [.ref 0, .int a1, .int a2] ([kR 0 v0] : List (List zE)).flatten (fun v cc => v = some (.int R) ∧ cc = ([kR 0 v0] : List (List zE)).flatten) := by
  refine Ct.of zMX12_mayBe_ok (by decide) (Nat.le_of_ble_eq_true rfl) ?_
  intro Z hZ hR hN hE
  have hRm : zRoom Z 0 0 := zRoom0 Z
  unfold f_R_mayBe at hf
  show AW Z 0 0 0 [some (.ref 0), some (.int a1), some (.int a2)] [] ([kR 0 v0] : List (List zE)).flatten
  refine AW.run hZ hRm [27] 400 ?_
  show (((a1 = a2) → AW Z 0 0 27 [some (.ref 0), some (.int a1), some (.int a2)] [.int 0] ([kR 0 v0] : List (List zE)).flatten) ∧ (¬ (a1 = a2) → (¬ (((38 + (6 * a1)) + a2) < 0 ∨ 160 ≤ Int32.toNatClampNeg ((38 + (6 * a1)) + a2)) ∧ ((¬ (((R_towns v0) (Int32.toNatClampNeg ((38 + (6 * a1)) + a2))) = 0) → AW Z 0 0 27 [some (.ref 0), some (.int a1), some (.int a2)] [.int 0] ([kR 0 v0] : List (List zE)).flatten) ∧ ((((R_towns v0) (Int32.toNatClampNeg ((38 + (6 * a1)) + a2))) = 0) → AW Z 0 0 27 [some (.ref 0), some (.int a1), some (.int a2)] [.int 1] ([kR 0 v0] : List (List zE)).flatten)))))
  refine ⟨fun c1 => ?_, fun c1 => ?_⟩
  · rw [if_pos c1] at hf
    cases hf
    exact AW.iret hZ hE rfl rfl rfl rfl (Nat.le_refl 0) (Nat.le_refl 0) rfl ⟨rfl, rfl⟩
  · rw [if_neg c1] at hf
    obtain ⟨b3, hf⟩ := zneed hf
    refine ⟨b3, ?_⟩
    refine ⟨fun c2 => ?_, fun c2 => ?_⟩
    · rw [if_neg c2] at hf
      cases hf
      exact AW.iret hZ hE rfl rfl rfl rfl (Nat.le_refl 0) (Nat.le_refl 0) rfl ⟨rfl, rfl⟩
    · rw [if_pos c2] at hf
      cases hf
      exact AW.iret hZ hE rfl rfl rfl rfl (Nat.le_refl 0) (Nat.le_refl 0) rfl ⟨rfl, rfl⟩
def f_R_lotsFrom_L66 (r_f_R_lotsFrom : (VR → Int32 → Int32 → Option ((Nat → Int32) × (Nat → Int32) × Int32))) (N : Nat) : Nat → VR → Int32 → Int32 → Int32 → (Nat → Int32) → (Nat → Int32) → Int32 → Option ((Nat → Int32) × (Nat → Int32) × Int32)
  | 0, _, _, _, _, _, _, _ => none
  | fuel + 1, v0, y1, y2, x3, m_lotRows0, m_lotRow1, m_lotsMany2 => ((f_R_people N (R_s_lotRows_lotRow_lotsMany v0 m_lotRows0 m_lotRow1 m_lotsMany2)).bind (fun q3 => (if (q3 ≤ x3) then (some (m_lotRows0, m_lotRow1, m_lotsMany2)) else (if (((y2 >>> (x3 &&& 31)) &&& 1) = 0) then ((f_R_mayBe N (R_s_lotRows_lotRow_lotsMany v0 m_lotRows0 m_lotRow1 m_lotsMany2) x3 y1).bind (fun q6 => (if (q6 = 0) then (f_R_lotsFrom_L66 r_f_R_lotsFrom N fuel v0 y1 y2 (x3 + 1) m_lotRows0 m_lotRow1 m_lotsMany2) else (if (y1 < 0 ∨ 6 ≤ Int32.toNatClampNeg y1) then none else (zlet ((upd m_lotRow1 (Int32.toNatClampNeg y1) x3) : (Nat → Int32)) (fun z8 => ((r_f_R_lotsFrom (R_s_lotRows_lotRow_lotsMany v0 m_lotRows0 z8 m_lotsMany2) (y1 + 1) (y2 ||| (1 <<< (x3 &&& 31)))).bind (fun q9 => (f_R_lotsFrom_L66 r_f_R_lotsFrom N fuel v0 y1 y2 (x3 + 1) q9.1 q9.2.1 q9.2.2))))))))) else (f_R_lotsFrom_L66 r_f_R_lotsFrom N fuel v0 y1 y2 (x3 + 1) m_lotRows0 m_lotRow1 m_lotsMany2)))))
def f_R_lotsFrom_L20 (r_f_R_lotsFrom : (VR → Int32 → Int32 → Option ((Nat → Int32) × (Nat → Int32) × Int32))) (N : Nat) : Nat → VR → Int32 → Int32 → (Nat → Int32) → Option ((Nat → Int32))
  | 0, _, _, _, _ => none
  | fuel + 1, v0, y1, x3, m_lotRows0 => (if (y1 ≤ x3) then (some m_lotRows0) else (if ((R_lotsMany v0) < 0 ∨ 265 ≤ Int32.toNatClampNeg (R_lotsMany v0)) then none else (if (x3 < 0 ∨ 6 ≤ Int32.toNatClampNeg x3) then none else (if ((R_lotsMany v0) < 0 ∨ 265 ≤ Int32.toNatClampNeg (R_lotsMany v0)) then none else (zlet ((upd m_lotRows0 (Int32.toNatClampNeg (R_lotsMany v0)) ((m_lotRows0 (Int32.toNatClampNeg (R_lotsMany v0))) ||| (((R_lotRow v0) (Int32.toNatClampNeg x3)) <<< ((3 * x3) &&& 31)))) : (Nat → Int32)) (fun z18 => (f_R_lotsFrom_L20 r_f_R_lotsFrom N fuel v0 y1 (x3 + 1) z18)))))))
def f_R_lotsFrom_b (r_f_R_lotsFrom : (VR → Int32 → Int32 → Option ((Nat → Int32) × (Nat → Int32) × Int32))) (N : Nat) (v0 : VR) (a1 : Int32) (a2 : Int32) : Option ((Nat → Int32) × (Nat → Int32) × Int32) := ((f_R_people N v0).bind (fun q1 => (if (a1 = q1) then (if ((R_lotsMany v0) < 0 ∨ 265 ≤ Int32.toNatClampNeg (R_lotsMany v0)) then none else (zlet ((upd (R_lotRows v0) (Int32.toNatClampNeg (R_lotsMany v0)) 0) : (Nat → Int32)) (fun z16 => ((f_R_lotsFrom_L20 r_f_R_lotsFrom N N (R_lotRows_s v0 z16) a1 0 z16).bind (fun q22 => (some (q22, (R_lotRow v0), ((R_lotsMany v0) + 1)))))))) else ((f_R_lotsFrom_L66 r_f_R_lotsFrom N N v0 a1 a2 0 (R_lotRows v0) (R_lotRow v0) (R_lotsMany v0)).bind (fun q14 => (some (q14.1, q14.2.1, q14.2.2)))))))
def g_R_lotsFrom (N : Nat) : Nat → (VR → Int32 → Int32 → Option ((Nat → Int32) × (Nat → Int32) × Int32))
  | 0 => (fun _ _ _ => none)
  | n + 1 => f_R_lotsFrom_b (g_R_lotsFrom N n) N
def f_R_lotsFrom (e N : Nat) (v0 : VR) (a1 : Int32) (a2 : Int32) : Option ((Nat → Int32) × (Nat → Int32) × Int32) := (g_R_lotsFrom N e) v0 a1 a2
set_option maxRecDepth 20000 in
set_option maxHeartbeats 4000000 in
theorem c_R_lotsFrom_L66 {r_f_R_lotsFrom : (VR → Int32 → Int32 → Option ((Nat → Int32) × (Nat → Int32) × Int32))} {e : Nat} {Z : zCtx} {D n0w nf mcw msw : Nat} (hZ : zOk Z zMX12_lotsFrom) (hR : zCan Z D mcw msw) (hDd : e + 2 ≤ D) (hN : zNew Z n0w nf) (hRm : zRoom Z 0 0) (hr_f_R_lotsFrom : ∀ (v0 : VR) (a1 : Int32) (a2 : Int32) (R : (Nat → Int32) × (Nat → Int32) × Int32), r_f_R_lotsFrom v0 a1 a2 = some R → Ct zMX12_lotsFrom (e + 1) 0 0 0 [.ref 0, .int a1, .int a2] ([kR 0 v0] : List (List zE)).flatten (fun v cc => v = none ∧ cc = ([kR 0 (R_s_lotRows_lotRow_lotsMany v0 R.1 R.2.1 R.2.2)] : List (List zE)).flatten)) (N : Nat) : ∀ (fuel : Nat) (v0 : VR) (y1 : Int32) (y2 : Int32) (x3 : Int32) (m_lotRows0 : (Nat → Int32)) (m_lotRow1 : (Nat → Int32)) (m_lotsMany2 : Int32) (q : ((Nat → Int32) × (Nat → Int32) × Int32)), f_R_lotsFrom_L66 r_f_R_lotsFrom N fuel v0 y1 y2 x3 m_lotRows0 m_lotRow1 m_lotsMany2 = some q → (AW Z 0 0 116 [none, none, none, none] [] ([kR 0 (R_s_lotRows_lotRow_lotsMany v0 q.1 q.2.1 q.2.2)] : List (List zE)).flatten) → AW Z 0 0 66 [some (.ref 0), some (.int y1), some (.int y2), some (.int x3)] [] ([kR 0 (R_s_lotRows_lotRow_lotsMany v0 m_lotRows0 m_lotRow1 m_lotsMany2)] : List (List zE)).flatten := by
  intro fuel
  induction fuel with
  | zero =>
    intro v0 y1 y2 x3 m_lotRows0 m_lotRow1 m_lotsMany2 q hf hk0
    simp [f_R_lotsFrom_L66] at hf
  | succ fuel ih =>
    intro v0 y1 y2 x3 m_lotRows0 m_lotRow1 m_lotsMany2 q hf hk0
    rw [f_R_lotsFrom_L66] at hf
    refine AW.run hZ hRm [68] 400 ?_
    show AW Z 0 0 68 [some (.ref 0), some (.int y1), some (.int y2), some (.int x3)] [.ref 0, .int x3] ([kR 0 (R_s_lotRows_lotRow_lotsMany v0 m_lotRows0 m_lotRow1 m_lotsMany2)] : List (List zE)).flatten
    obtain ⟨q3, h13, hf⟩ := zbind hf
    refine AW.callVc hZ hR hN (c_R_people N (R_s_lotRows_lotRow_lotsMany v0 m_lotRows0 m_lotRow1 m_lotsMany2) q3 h13) zMX12_people_ok rfl rfl zK_BorrowedLivesModel_291 zV_X12_people rfl [25] [0] [0, 1, 2, 3, 4, 5, 6, 7, 8, 9, 10, 11, 12, 13, 14, 15, 16, 17, 18, 19, 20, 21, 22, 23, 24] rfl rfl rfl (by decide) (by decide) (by omega) (by decide) (Nat.zero_le _) (Nat.zero_le _) rfl rfl rfl rfl rfl ?_
    rintro v cc ⟨rfl, rfl⟩
    refine ⟨_, rfl, rfl, ?_⟩
    show AW Z 0 0 71 [some (.ref 0), some (.int y1), some (.int y2), some (.int x3)] [.int q3, .int x3] ([kR 0 (R_s_lotRows_lotRow_lotsMany v0 m_lotRows0 m_lotRow1 m_lotsMany2)] : List (List zE)).flatten
    refine AW.run hZ hRm [66, 85, 116] 400 ?_
    show (((q3 ≤ x3) → AW Z 0 0 116 [some (.ref 0), some (.int y1), some (.int y2), some (.int x3)] [] ([kR 0 (R_s_lotRows_lotRow_lotsMany v0 m_lotRows0 m_lotRow1 m_lotsMany2)] : List (List zE)).flatten) ∧ (¬ (q3 ≤ x3) → ((¬ (((y2 >>> (x3 &&& 31)) &&& 1) = 0) → AW Z 0 0 66 [some (.ref 0), some (.int y1), some (.int y2), some (.int (x3 + 1))] [] ([kR 0 (R_s_lotRows_lotRow_lotsMany v0 m_lotRows0 m_lotRow1 m_lotsMany2)] : List (List zE)).flatten) ∧ ((((y2 >>> (x3 &&& 31)) &&& 1) = 0) → AW Z 0 0 85 [some (.ref 0), some (.int y1), some (.int y2), some (.int x3)] [.int y1, .int x3, .ref 0] ([kR 0 (R_s_lotRows_lotRow_lotsMany v0 m_lotRows0 m_lotRow1 m_lotsMany2)] : List (List zE)).flatten))))
    refine ⟨fun c4 => ?_, fun c4 => ?_⟩
    · rw [if_pos c4] at hf
      cases hf
      refine AW.forget [false, false, false, false] ?_
      show AW Z 0 0 116 [none, none, none, none] [] ([kR 0 (R_s_lotRows_lotRow_lotsMany v0 m_lotRows0 m_lotRow1 m_lotsMany2)] : List (List zE)).flatten
      exact hk0
    · rw [if_neg c4] at hf
      refine ⟨fun c5 => ?_, fun c5 => ?_⟩
      · rw [if_neg c5] at hf
        exact ih v0 y1 y2 (x3 + 1) m_lotRows0 m_lotRow1 m_lotsMany2 q hf hk0
      · rw [if_pos c5] at hf
        obtain ⟨q6, h12, hf⟩ := zbind hf
        refine AW.callVc hZ hR hN (c_R_mayBe N (R_s_lotRows_lotRow_lotsMany v0 m_lotRows0 m_lotRow1 m_lotsMany2) x3 y1 q6 h12) zMX12_mayBe_ok rfl rfl zK_BorrowedLivesModel_319 zV_X12_mayBe rfl [25] [0] [0, 1, 2, 3, 4, 5, 6, 7, 8, 9, 10, 11, 12, 13, 14, 15, 16, 17, 18, 19, 20, 21, 22, 23, 24] rfl rfl rfl (by decide) (by decide) (by omega) (by decide) (Nat.zero_le _) (Nat.zero_le _) rfl rfl rfl rfl rfl ?_
        rintro v cc ⟨rfl, rfl⟩
        refine ⟨_, rfl, rfl, ?_⟩
        show AW Z 0 0 88 [some (.ref 0), some (.int y1), some (.int y2), some (.int x3)] [.int q6] ([kR 0 (R_s_lotRows_lotRow_lotsMany v0 m_lotRows0 m_lotRow1 m_lotsMany2)] : List (List zE)).flatten
        refine AW.run hZ hRm [66, 98] 400 ?_
        show (((q6 = 0) → AW Z 0 0 66 [some (.ref 0), some (.int y1), some (.int y2), some (.int (x3 + 1))] [] ([kR 0 (R_s_lotRows_lotRow_lotsMany v0 m_lotRows0 m_lotRow1 m_lotsMany2)] : List (List zE)).flatten) ∧ (¬ (q6 = 0) → (¬ (y1 < 0 ∨ 6 ≤ Int32.toNatClampNeg y1) ∧ AW Z 0 0 98 [some (.ref 0), some (.int y1), some (.int y2), some (.int x3)] [] ([kR 0 (R_s_lotRows_lotRow_lotsMany v0 m_lotRows0 (upd m_lotRow1 (Int32.toNatClampNeg y1) x3) m_lotsMany2)] : List (List zE)).flatten)))
        refine ⟨fun c7 => ?_, fun c7 => ?_⟩
        · rw [if_pos c7] at hf
          exact ih v0 y1 y2 (x3 + 1) m_lotRows0 m_lotRow1 m_lotsMany2 q hf hk0
        · rw [if_neg c7] at hf
          obtain ⟨b11, hf⟩ := zneed hf
          refine ⟨b11, ?_⟩
          replace hf := zlet_gen hf
          generalize ((upd m_lotRow1 (Int32.toNatClampNeg y1) x3) : (Nat → Int32)) = z8 at hf ⊢
          as_aux_lemma =>
            refine AW.run hZ hRm [107] 400 ?_
            show AW Z 0 0 107 [some (.ref 0), some (.int y1), some (.int y2), some (.int x3)] [.int (y2 ||| (1 <<< (x3 &&& 31))), .int (y1 + 1), .ref 0] ([kR 0 (R_s_lotRows_lotRow_lotsMany v0 m_lotRows0 z8 m_lotsMany2)] : List (List zE)).flatten
            obtain ⟨q9, h10, hf⟩ := zbind hf
            refine AW.callVc hZ hR hN (hr_f_R_lotsFrom (R_s_lotRows_lotRow_lotsMany v0 m_lotRows0 z8 m_lotsMany2) (y1 + 1) (y2 ||| (1 <<< (x3 &&& 31))) q9 h10) zMX12_lotsFrom_ok rfl rfl zK_BorrowedLivesModel_316 zV_X12_lotsFrom rfl [25] [0] [0, 1, 2, 3, 4, 5, 6, 7, 8, 9, 10, 11, 12, 13, 14, 15, 16, 17, 18, 19, 20, 21, 22, 23, 24] rfl rfl rfl (by decide) (by decide) (by omega) (by decide) (Nat.zero_le _) (Nat.zero_le _) rfl rfl rfl rfl rfl ?_
            rintro v cc ⟨rfl, rfl⟩
            refine ⟨_, rfl, rfl, ?_⟩
            show AW Z 0 0 110 [some (.ref 0), some (.int y1), some (.int y2), some (.int x3)] [] ([kR 0 (R_s_lotRows_lotRow_lotsMany v0 q9.1 q9.2.1 q9.2.2)] : List (List zE)).flatten
            refine AW.run hZ hRm [66] 400 ?_
            show AW Z 0 0 66 [some (.ref 0), some (.int y1), some (.int y2), some (.int (x3 + 1))] [] ([kR 0 (R_s_lotRows_lotRow_lotsMany v0 q9.1 q9.2.1 q9.2.2)] : List (List zE)).flatten
            exact ih v0 y1 y2 (x3 + 1) q9.1 q9.2.1 q9.2.2 q hf hk0
set_option maxRecDepth 20000 in
set_option maxHeartbeats 4000000 in
theorem c_R_lotsFrom_L20 {r_f_R_lotsFrom : (VR → Int32 → Int32 → Option ((Nat → Int32) × (Nat → Int32) × Int32))} {e : Nat} {Z : zCtx} {D n0w nf mcw msw : Nat} (hZ : zOk Z zMX12_lotsFrom) (hR : zCan Z D mcw msw) (hDd : e + 2 ≤ D) (hN : zNew Z n0w nf) (hRm : zRoom Z 0 0) (hr_f_R_lotsFrom : ∀ (v0 : VR) (a1 : Int32) (a2 : Int32) (R : (Nat → Int32) × (Nat → Int32) × Int32), r_f_R_lotsFrom v0 a1 a2 = some R → Ct zMX12_lotsFrom (e + 1) 0 0 0 [.ref 0, .int a1, .int a2] ([kR 0 v0] : List (List zE)).flatten (fun v cc => v = none ∧ cc = ([kR 0 (R_s_lotRows_lotRow_lotsMany v0 R.1 R.2.1 R.2.2)] : List (List zE)).flatten)) (N : Nat) : ∀ (fuel : Nat) (v0 : VR) (y1 : Int32) (x3 : Int32) (m_lotRows0 : (Nat → Int32)) (q : ((Nat → Int32))), f_R_lotsFrom_L20 r_f_R_lotsFrom N fuel v0 y1 x3 m_lotRows0 = some q → (AW Z 0 0 53 [some (.ref 0), none, none, none] [] ([kR 0 (R_lotRows_s v0 q)] : List (List zE)).flatten) → AW Z 0 0 20 [some (.ref 0), some (.int y1), none, some (.int x3)] [] ([kR 0 (R_lotRows_s v0 m_lotRows0)] : List (List zE)).flatten := by
  intro fuel
  induction fuel with
  | zero =>
    intro v0 y1 x3 m_lotRows0 q hf hk0
    simp [f_R_lotsFrom_L20] at hf
  | succ fuel ih =>
    intro v0 y1 x3 m_lotRows0 q hf hk0
    rw [f_R_lotsFrom_L20] at hf
    refine AW.run hZ hRm [47, 53] 400 ?_
    show (((y1 ≤ x3) → AW Z 0 0 53 [some (.ref 0), some (.int y1), none, some (.int x3)] [] ([kR 0 (R_lotRows_s v0 m_lotRows0)] : List (List zE)).flatten) ∧ (¬ (y1 ≤ x3) → (¬ ((R_lotsMany v0) < 0 ∨ 265 ≤ Int32.toNatClampNeg (R_lotsMany v0)) ∧ (¬ (x3 < 0 ∨ 6 ≤ Int32.toNatClampNeg x3) ∧ (¬ ((R_lotsMany v0) < 0 ∨ 265 ≤ Int32.toNatClampNeg (R_lotsMany v0)) ∧ AW Z 0 0 47 [some (.ref 0), some (.int y1), none, some (.int x3)] [] ([kR 0 (R_lotRows_s v0 (upd m_lotRows0 (Int32.toNatClampNeg (R_lotsMany v0)) ((m_lotRows0 (Int32.toNatClampNeg (R_lotsMany v0))) ||| (((R_lotRow v0) (Int32.toNatClampNeg x3)) <<< ((3 * x3) &&& 31)))))] : List (List zE)).flatten)))))
    refine ⟨fun c17 => ?_, fun c17 => ?_⟩
    · rw [if_pos c17] at hf
      cases hf
      refine AW.forget [true, false, false, false] ?_
      show AW Z 0 0 53 [some (.ref 0), none, none, none] [] ([kR 0 (R_lotRows_s v0 m_lotRows0)] : List (List zE)).flatten
      exact hk0
    · rw [if_neg c17] at hf
      obtain ⟨b21, hf⟩ := zneed hf
      refine ⟨b21, ?_⟩
      obtain ⟨b20, hf⟩ := zneed hf
      refine ⟨b20, ?_⟩
      obtain ⟨b19, hf⟩ := zneed hf
      refine ⟨b19, ?_⟩
      replace hf := zlet_gen hf
      generalize ((upd m_lotRows0 (Int32.toNatClampNeg (R_lotsMany v0)) ((m_lotRows0 (Int32.toNatClampNeg (R_lotsMany v0))) ||| (((R_lotRow v0) (Int32.toNatClampNeg x3)) <<< ((3 * x3) &&& 31)))) : (Nat → Int32)) = z18 at hf ⊢
      as_aux_lemma =>
        refine AW.run hZ hRm [20] 400 ?_
        show AW Z 0 0 20 [some (.ref 0), some (.int y1), none, some (.int (x3 + 1))] [] ([kR 0 (R_lotRows_s v0 z18)] : List (List zE)).flatten
        exact ih v0 y1 (x3 + 1) z18 q hf hk0
set_option maxRecDepth 20000 in
set_option maxHeartbeats 4000000 in
theorem c_R_lotsFrom_b {r_f_R_lotsFrom : (VR → Int32 → Int32 → Option ((Nat → Int32) × (Nat → Int32) × Int32))} {e : Nat} (hr_f_R_lotsFrom : ∀ (v0 : VR) (a1 : Int32) (a2 : Int32) (R : (Nat → Int32) × (Nat → Int32) × Int32), r_f_R_lotsFrom v0 a1 a2 = some R → Ct zMX12_lotsFrom (e + 1) 0 0 0 [.ref 0, .int a1, .int a2] ([kR 0 v0] : List (List zE)).flatten (fun v cc => v = none ∧ cc = ([kR 0 (R_s_lotRows_lotRow_lotsMany v0 R.1 R.2.1 R.2.2)] : List (List zE)).flatten)) (N : Nat) (v0 : VR) (a1 : Int32) (a2 : Int32) (R : (Nat → Int32) × (Nat → Int32) × Int32) (hf : f_R_lotsFrom_b r_f_R_lotsFrom N v0 a1 a2 = some R) : Ct zMX12_lotsFrom (e + 2) 0 0 0 [.ref 0, .int a1, .int a2] ([kR 0 v0] : List (List zE)).flatten (fun v cc => v = none ∧ cc = ([kR 0 (R_s_lotRows_lotRow_lotsMany v0 R.1 R.2.1 R.2.2)] : List (List zE)).flatten) := by
  refine Ct.of zMX12_lotsFrom_ok (by omega) (Nat.le_of_ble_eq_true rfl) ?_
  intro Z hZ hR hN hE
  have hRm : zRoom Z 0 0 := zRoom0 Z
  unfold f_R_lotsFrom_b at hf
  show AW Z 0 0 0 [some (.ref 0), some (.int a1), some (.int a2), none] [] ([kR 0 v0] : List (List zE)).flatten
  refine AW.run hZ hRm [2] 400 ?_
  show AW Z 0 0 2 [some (.ref 0), some (.int a1), some (.int a2), none] [.ref 0, .int a1] ([kR 0 v0] : List (List zE)).flatten
  obtain ⟨q1, h25, hf⟩ := zbind hf
  refine AW.callVc hZ hR hN (c_R_people N v0 q1 h25) zMX12_people_ok rfl rfl zK_BorrowedLivesModel_291 zV_X12_people rfl [25] [0] [0, 1, 2, 3, 4, 5, 6, 7, 8, 9, 10, 11, 12, 13, 14, 15, 16, 17, 18, 19, 20, 21, 22, 23, 24] rfl rfl rfl (by decide) (by decide) (by omega) (by decide) (Nat.zero_le _) (Nat.zero_le _) rfl rfl rfl rfl rfl ?_
  rintro v cc ⟨rfl, rfl⟩
  refine ⟨_, rfl, rfl, ?_⟩
  show AW Z 0 0 5 [some (.ref 0), some (.int a1), some (.int a2), none] [.int q1, .int a1] ([kR 0 v0] : List (List zE)).flatten
  refine AW.run hZ hRm [18, 66] 400 ?_
  show ((¬ (a1 = q1) → AW Z 0 0 66 [some (.ref 0), some (.int a1), some (.int a2), some (.int 0)] [] ([kR 0 v0] : List (List zE)).flatten) ∧ ((a1 = q1) → (¬ ((R_lotsMany v0) < 0 ∨ 265 ≤ Int32.toNatClampNeg (R_lotsMany v0)) ∧ AW Z 0 0 18 [some (.ref 0), some (.int a1), some (.int a2), none] [] ([kR 0 (R_lotRows_s v0 (upd (R_lotRows v0) (Int32.toNatClampNeg (R_lotsMany v0)) 0))] : List (List zE)).flatten)))
  refine ⟨fun c2 => ?_, fun c2 => ?_⟩
  · rw [if_neg c2] at hf
    obtain ⟨q14, h15, hf⟩ := zbind hf
    refine c_R_lotsFrom_L66 hZ hR (by omega) hN hRm hr_f_R_lotsFrom N N v0 a1 a2 0 (R_lotRows v0) (R_lotRow v0) (R_lotsMany v0) q14 h15 ?_
    show AW Z 0 0 116 [none, none, none, none] [] ([kR 0 (R_s_lotRows_lotRow_lotsMany v0 q14.1 q14.2.1 q14.2.2)] : List (List zE)).flatten
    cases hf
    exact AW.vret hZ hE rfl rfl rfl (Nat.le_refl 0) (Nat.le_refl 0) rfl ⟨rfl, rfl⟩
  · rw [if_pos c2] at hf
    obtain ⟨b24, hf⟩ := zneed hf
    refine ⟨b24, ?_⟩
    replace hf := zlet_gen hf
    generalize ((upd (R_lotRows v0) (Int32.toNatClampNeg (R_lotsMany v0)) 0) : (Nat → Int32)) = z16 at hf ⊢
    as_aux_lemma =>
      refine AW.run hZ hRm [20] 400 ?_
      show AW Z 0 0 20 [some (.ref 0), some (.int a1), some (.int a2), some (.int 0)] [] ([kR 0 (R_lotRows_s v0 z16)] : List (List zE)).flatten
      obtain ⟨q22, h23, hf⟩ := zbind hf
      refine AW.forget [true, true, false, true] ?_
      show AW Z 0 0 20 [some (.ref 0), some (.int a1), none, some (.int 0)] [] ([kR 0 (R_lotRows_s v0 z16)] : List (List zE)).flatten
      refine c_R_lotsFrom_L20 hZ hR (by omega) hN hRm hr_f_R_lotsFrom N N (R_lotRows_s v0 z16) a1 0 z16 q22 h23 ?_
      show AW Z 0 0 53 [some (.ref 0), none, none, none] [] ([kR 0 (R_lotRows_s v0 q22)] : List (List zE)).flatten
      refine AW.run hZ hRm [63] 400 ?_
      show AW Z 0 0 63 [some (.ref 0), none, none, none] [] ([kR 0 (R_s_lotRows_lotsMany v0 q22 ((R_lotsMany v0) + 1))] : List (List zE)).flatten
      cases hf
      exact AW.vret hZ hE rfl rfl rfl (Nat.le_refl 0) (Nat.le_refl 0) rfl ⟨rfl, rfl⟩
set_option maxRecDepth 20000 in
set_option maxHeartbeats 4000000 in
theorem c_g_R_lotsFrom (N : Nat) : ∀ e : Nat, (∀ (v0 : VR) (a1 : Int32) (a2 : Int32) (R : (Nat → Int32) × (Nat → Int32) × Int32), (g_R_lotsFrom N e) v0 a1 a2 = some R → Ct zMX12_lotsFrom (e + 1) 0 0 0 [.ref 0, .int a1, .int a2] ([kR 0 v0] : List (List zE)).flatten (fun v cc => v = none ∧ cc = ([kR 0 (R_s_lotRows_lotRow_lotsMany v0 R.1 R.2.1 R.2.2)] : List (List zE)).flatten)) := by
  intro e
  induction e with
  | zero => exact (fun _ _ _ R h => by cases h)
  | succ e ih =>
    exact (fun v0 a1 a2 R h => by
      have h9 := c_R_lotsFrom_b ih N v0 a1 a2 R h
      rw [show e + 1 + 1 = e + 2 by omega]
      exact h9)
set_option maxRecDepth 20000 in
set_option maxHeartbeats 4000000 in
theorem c_R_lotsFrom (e N : Nat) (v0 : VR) (a1 : Int32) (a2 : Int32) (R : (Nat → Int32) × (Nat → Int32) × Int32) (hf : f_R_lotsFrom e N v0 a1 a2 = some R) : Ct zMX12_lotsFrom (e + 1) 0 0 0 [.ref 0, .int a1, .int a2] ([kR 0 v0] : List (List zE)).flatten (fun v cc => v = none ∧ cc = ([kR 0 (R_s_lotRows_lotRow_lotsMany v0 R.1 R.2.1 R.2.2)] : List (List zE)).flatten) := by
  exact (c_g_R_lotsFrom N e) v0 a1 a2 R hf
def f_R_findLots (N : Nat) (v0 : VR) : Option ((Nat → Int32) × (Nat → Int32) × Int32) := ((f_R_people N (R_lotsMany_s v0 0)).bind (fun q1 => (if (q1 ≤ 0) then (some ((R_lotRows v0), (R_lotRow v0), 0)) else ((f_R_lotsFrom 64 N (R_lotsMany_s v0 0) 0 0).bind (fun q3 => (some (q3.1, q3.2.1, q3.2.2)))))))
set_option maxRecDepth 20000 in
set_option maxHeartbeats 4000000 in
theorem c_R_findLots (N : Nat) (v0 : VR) (R : (Nat → Int32) × (Nat → Int32) × Int32) (hf : f_R_findLots N v0 = some R) : Ct zMX12_findLots 66 0 0 0 [.ref 0] ([kR 0 v0] : List (List zE)).flatten (fun v cc => v = none ∧ cc = ([kR 0 (R_s_lotRows_lotRow_lotsMany v0 R.1 R.2.1 R.2.2)] : List (List zE)).flatten) := by
  refine Ct.of zMX12_findLots_ok (by decide) (Nat.le_of_ble_eq_true rfl) ?_
  intro Z hZ hR hN hE
  have hRm : zRoom Z 0 0 := zRoom0 Z
  unfold f_R_findLots at hf
  show AW Z 0 0 0 [some (.ref 0)] [] ([kR 0 v0] : List (List zE)).flatten
  refine AW.run hZ hRm [6] 400 ?_
  show AW Z 0 0 6 [some (.ref 0)] [.ref 0] ([kR 0 (R_lotsMany_s v0 0)] : List (List zE)).flatten
  obtain ⟨q1, h5, hf⟩ := zbind hf
  refine AW.callVc hZ hR hN (c_R_people N (R_lotsMany_s v0 0) q1 h5) zMX12_people_ok rfl rfl zK_BorrowedLivesModel_291 zV_X12_people rfl [25] [0] [0, 1, 2, 3, 4, 5, 6, 7, 8, 9, 10, 11, 12, 13, 14, 15, 16, 17, 18, 19, 20, 21, 22, 23, 24] rfl rfl rfl (by decide) (by decide) (by omega) (by decide) (Nat.zero_le _) (Nat.zero_le _) rfl rfl rfl rfl rfl ?_
  rintro v cc ⟨rfl, rfl⟩
  refine ⟨_, rfl, rfl, ?_⟩
  show AW Z 0 0 9 [some (.ref 0)] [.int q1] ([kR 0 (R_lotsMany_s v0 0)] : List (List zE)).flatten
  refine AW.run hZ hRm [15, 18] 400 ?_
  show (((q1 ≤ 0) → AW Z 0 0 18 [some (.ref 0)] [] ([kR 0 (R_lotsMany_s v0 0)] : List (List zE)).flatten) ∧ (¬ (q1 ≤ 0) → AW Z 0 0 15 [some (.ref 0)] [.int 0, .int 0, .ref 0] ([kR 0 (R_lotsMany_s v0 0)] : List (List zE)).flatten))
  refine ⟨fun c2 => ?_, fun c2 => ?_⟩
  · rw [if_pos c2] at hf
    cases hf
    exact AW.vret hZ hE rfl rfl rfl (Nat.le_refl 0) (Nat.le_refl 0) rfl ⟨rfl, rfl⟩
  · rw [if_neg c2] at hf
    obtain ⟨q3, h4, hf⟩ := zbind hf
    refine AW.callVc hZ hR hN (c_R_lotsFrom 64 N (R_lotsMany_s v0 0) 0 0 q3 h4) zMX12_lotsFrom_ok rfl rfl zK_BorrowedLivesModel_316 zV_X12_lotsFrom rfl [25] [0] [0, 1, 2, 3, 4, 5, 6, 7, 8, 9, 10, 11, 12, 13, 14, 15, 16, 17, 18, 19, 20, 21, 22, 23, 24] rfl rfl rfl (by decide) (by decide) (by omega) (by decide) (Nat.zero_le _) (Nat.zero_le _) rfl rfl rfl rfl rfl ?_
    rintro v cc ⟨rfl, rfl⟩
    refine ⟨_, rfl, rfl, ?_⟩
    show AW Z 0 0 18 [some (.ref 0)] [] ([kR 0 (R_s_lotRows_lotRow_lotsMany v0 q3.1 q3.2.1 q3.2.2)] : List (List zE)).flatten
    cases hf
    exact AW.vret hZ hE rfl rfl rfl (Nat.le_refl 0) (Nat.le_refl 0) rfl ⟨rfl, rfl⟩
