def f_Lives_goodOfAll_L4 (N : Nat) : Nat → VLives → VTown → VLaws → Int32 → Int32 → Option (Int32)
  | 0, _, _, _, _, _ => none
  | fuel + 1, v0, v1, v2, x1, x2 => (if ((Town_people v1) ≤ x2) then (some x1) else ((f_Lives_goodOf N v0 v1 v2 x2).bind (fun q2 => (f_Lives_goodOfAll_L4 N fuel v0 v1 v2 (x1 + q2) (x2 + 1)))))
def f_Lives_goodOfAll (N : Nat) (v0 : VLives) (v1 : VTown) (v2 : VLaws) : Option (Int32) := ((f_Lives_goodOfAll_L4 N N v0 v1 v2 0 0).bind (fun q4 => (some q4)))
set_option maxRecDepth 20000 in
set_option maxHeartbeats 4000000 in
theorem c_Lives_goodOfAll_L4 {Z : zCtx} {D n0w nf mcw msw : Nat} (hZ : zOk Z zMX3_goodOfAll) (hR : zCan Z D mcw msw) (hDd : 3 ≤ D) (hN : zNew Z n0w nf) (hRm : zRoom Z 0 0) (N : Nat) : ∀ (fuel : Nat) (v0 : VLives) (v1 : VTown) (v2 : VLaws) (x1 : Int32) (x2 : Int32) (q : (Int32)), f_Lives_goodOfAll_L4 N fuel v0 v1 v2 x1 x2 = some q → (AW Z 0 0 29 [none, some (.int q), none] [] ([kLives 0 8 v0, kTown 8 16 v1, kLaws 16 v2] : List (List zE)).flatten) → AW Z 0 0 4 [some (.ref 0), some (.int x1), some (.int x2)] [] ([kLives 0 8 v0, kTown 8 16 v1, kLaws 16 v2] : List (List zE)).flatten := by
  intro fuel
  induction fuel with
  | zero =>
    intro v0 v1 v2 x1 x2 q hf hk0
    simp [f_Lives_goodOfAll_L4] at hf
  | succ fuel ih =>
    intro v0 v1 v2 x1 x2 q hf hk0
    rw [f_Lives_goodOfAll_L4] at hf
    refine AW.run hZ hRm [18, 29] 400 ?_
    show ((((Town_people v1) ≤ x2) → AW Z 0 0 29 [some (.ref 0), some (.int x1), some (.int x2)] [] ([kLives 0 8 v0, kTown 8 16 v1, kLaws 16 v2] : List (List zE)).flatten) ∧ (¬ ((Town_people v1) ≤ x2) → AW Z 0 0 18 [some (.ref 0), some (.int x1), some (.int x2)] [.int x2, .ref 0, .int x1] ([kLives 0 8 v0, kTown 8 16 v1, kLaws 16 v2] : List (List zE)).flatten))
    refine ⟨fun c1 => ?_, fun c1 => ?_⟩
    · rw [if_pos c1] at hf
      cases hf
      refine AW.forget [false, true, false] ?_
      show AW Z 0 0 29 [none, some (.int x1), none] [] ([kLives 0 8 v0, kTown 8 16 v1, kLaws 16 v2] : List (List zE)).flatten
      exact hk0
    · rw [if_neg c1] at hf
      obtain ⟨q2, h3, hf⟩ := zbind hf
      refine AW.callVc hZ hR hN (c_Lives_goodOf N v0 v1 v2 x2 q2 h3) zMX3_goodOf_ok rfl rfl zK_BorrowedLives_Lives_163 zV_X3_goodOf rfl [8, 8, 6] [0, 1, 2] [0, 1, 2, 3, 4, 5, 6, 7, 8, 9, 10, 11, 12, 13, 14, 15, 16, 17, 18, 19, 20, 21] rfl rfl rfl (by decide) (by decide) (by omega) (by decide) (Nat.zero_le _) (Nat.zero_le _) rfl rfl rfl rfl rfl ?_
      rintro v cc ⟨rfl, rfl⟩
      refine ⟨_, rfl, rfl, ?_⟩
      show AW Z 0 0 21 [some (.ref 0), some (.int x1), some (.int x2)] [.int q2, .int x1] ([kLives 0 8 v0, kTown 8 16 v1, kLaws 16 v2] : List (List zE)).flatten
      refine AW.run hZ hRm [4] 400 ?_
      show AW Z 0 0 4 [some (.ref 0), some (.int (x1 + q2)), some (.int (x2 + 1))] [] ([kLives 0 8 v0, kTown 8 16 v1, kLaws 16 v2] : List (List zE)).flatten
      exact ih v0 v1 v2 (x1 + q2) (x2 + 1) q hf hk0
set_option maxRecDepth 20000 in
set_option maxHeartbeats 4000000 in
theorem c_Lives_goodOfAll (N : Nat) (v0 : VLives) (v1 : VTown) (v2 : VLaws) (R : Int32) (hf : f_Lives_goodOfAll N v0 v1 v2 = some R) : Ct zMX3_goodOfAll 3 0 0 0 [.ref 0] ([kLives 0 8 v0, kTown 8 16 v1, kLaws 16 v2] : List (List zE)).flatten (fun v cc => v = some (.int R) ∧ cc = ([kLives 0 8 v0, kTown 8 16 v1, kLaws 16 v2] : List (List zE)).flatten) := by
  refine Ct.of zMX3_goodOfAll_ok (by decide) (Nat.le_of_ble_eq_true rfl) ?_
  intro Z hZ hR hN hE
  have hRm : zRoom Z 0 0 := zRoom0 Z
  unfold f_Lives_goodOfAll at hf
  show AW Z 0 0 0 [some (.ref 0), none, none] [] ([kLives 0 8 v0, kTown 8 16 v1, kLaws 16 v2] : List (List zE)).flatten
  refine AW.run hZ hRm [4] 400 ?_
  show AW Z 0 0 4 [some (.ref 0), some (.int 0), some (.int 0)] [] ([kLives 0 8 v0, kTown 8 16 v1, kLaws 16 v2] : List (List zE)).flatten
  obtain ⟨q4, h5, hf⟩ := zbind hf
  refine c_Lives_goodOfAll_L4 hZ hR (by omega) hN hRm N N v0 v1 v2 0 0 q4 h5 ?_
  show AW Z 0 0 29 [none, some (.int q4), none] [] ([kLives 0 8 v0, kTown 8 16 v1, kLaws 16 v2] : List (List zE)).flatten
  refine AW.run hZ hRm [30] 400 ?_
  show AW Z 0 0 30 [none, some (.int q4), none] [.int q4] ([kLives 0 8 v0, kTown 8 16 v1, kLaws 16 v2] : List (List zE)).flatten
  cases hf
  exact AW.iret hZ hE rfl rfl rfl rfl (Nat.le_refl 0) (Nat.le_refl 0) rfl ⟨rfl, rfl⟩
def f_Arr_fill_L5 (N : Nat) : Nat → Nat → (Nat → Int32) → Int32 → Int32 → Int32 → (Nat → Int32) → Option ((Nat → Int32))
  | 0, _, _, _, _, _, _ => none
  | fuel + 1, n0, v0, y1, y3, x2, m_arr0 => (if (y3 ≤ x2) then (some m_arr0) else (if (x2 < 0 ∨ n0 ≤ Int32.toNatClampNeg x2) then none else (f_Arr_fill_L5 N fuel n0 v0 y1 y3 (x2 + 1) (upd m_arr0 (Int32.toNatClampNeg x2) y1))))
def f_Arr_fill (N : Nat) (n0 : Nat) (v0 : (Nat → Int32)) (a1 : Int32) : Option ((Nat → Int32)) := ((f_Arr_fill_L5 N N n0 v0 a1 (Int32.ofNat n0) 0 v0).bind (fun q3 => (some q3)))
set_option maxRecDepth 20000 in
set_option maxHeartbeats 4000000 in
theorem c_Arr_fill_L5 {Z : zCtx} {D n0w nf mcw msw : Nat} (hZ : zOk Z zMJ7_fill_53178) (hR : zCan Z D mcw msw) (hDd : 1 ≤ D) (hN : zNew Z n0w nf) (hRm : zRoom Z 0 0) (N : Nat) (n0 : Nat) : ∀ (fuel : Nat) (v0 : (Nat → Int32)) (y1 : Int32) (y3 : Int32) (x2 : Int32) (m_arr0 : (Nat → Int32)) (q : ((Nat → Int32))), f_Arr_fill_L5 N fuel n0 v0 y1 y3 x2 m_arr0 = some q → (AW Z 0 0 20 [none, none, none, none] [] [.inl (0, n0, .inl q)]) → AW Z 0 0 5 [some (.ref 0), some (.int y1), some (.int x2), some (.int y3)] [] [.inl (0, n0, .inl m_arr0)] := by
  intro fuel
  induction fuel with
  | zero =>
    intro v0 y1 y3 x2 m_arr0 q hf hk0
    simp [f_Arr_fill_L5] at hf
  | succ fuel ih =>
    intro v0 y1 y3 x2 m_arr0 q hf hk0
    rw [f_Arr_fill_L5] at hf
    refine AW.run hZ hRm [5, 20] 400 ?_
    show (((y3 ≤ x2) → AW Z 0 0 20 [some (.ref 0), some (.int y1), some (.int x2), some (.int y3)] [] [.inl (0, n0, .inl m_arr0)]) ∧ (¬ (y3 ≤ x2) → (¬ (x2 < 0 ∨ n0 ≤ Int32.toNatClampNeg x2) ∧ AW Z 0 0 5 [some (.ref 0), some (.int y1), some (.int (x2 + 1)), some (.int y3)] [] [.inl (0, n0, .inl (upd m_arr0 (Int32.toNatClampNeg x2) y1))])))
    refine ⟨fun c1 => ?_, fun c1 => ?_⟩
    · rw [if_pos c1] at hf
      cases hf
      refine AW.forget [false, false, false, false] ?_
      show AW Z 0 0 20 [none, none, none, none] [] [.inl (0, n0, .inl m_arr0)]
      exact hk0
    · rw [if_neg c1] at hf
      obtain ⟨b2, hf⟩ := zneed hf
      refine ⟨b2, ?_⟩
      exact ih v0 y1 y3 (x2 + 1) (upd m_arr0 (Int32.toNatClampNeg x2) y1) q hf hk0
set_option maxRecDepth 20000 in
set_option maxHeartbeats 4000000 in
theorem c_Arr_fill (N : Nat) (n0 : Nat) (v0 : (Nat → Int32)) (a1 : Int32) (R : (Nat → Int32)) (hf : f_Arr_fill N n0 v0 a1 = some R) : Ct zMJ7_fill_53178 1 0 0 0 [.ref 0, .int a1] [.inl (0, n0, .inl v0)] (fun v cc => v = none ∧ cc = [.inl (0, n0, .inl R)]) := by
  refine Ct.of zMJ7_fill_53178_ok (by decide) (Nat.le_of_ble_eq_true rfl) ?_
  intro Z hZ hR hN hE
  have hRm : zRoom Z 0 0 := zRoom0 Z
  unfold f_Arr_fill at hf
  show AW Z 0 0 0 [some (.ref 0), some (.int a1), none, none] [] [.inl (0, n0, .inl v0)]
  refine AW.run hZ hRm [5] 400 ?_
  show AW Z 0 0 5 [some (.ref 0), some (.int a1), some (.int 0), some (.int (Int32.ofNat n0))] [] [.inl (0, n0, .inl v0)]
  obtain ⟨q3, h4, hf⟩ := zbind hf
  refine c_Arr_fill_L5 hZ hR (by omega) hN hRm N n0 N v0 a1 (Int32.ofNat n0) 0 v0 q3 h4 ?_
  show AW Z 0 0 20 [none, none, none, none] [] [.inl (0, n0, .inl q3)]
  cases hf
  exact AW.vret hZ hE rfl rfl rfl (Nat.le_refl 0) (Nat.le_refl 0) rfl ⟨rfl, rfl⟩
def f_Lives_sumOf_purse_L4 (N : Nat) : Nat → VLives → VTown → VLaws → Int32 → Int32 → Option (Int32)
  | 0, _, _, _, _, _ => none
  | fuel + 1, v0, v1, v2, x2, x3 => (if ((Town_people v1) ≤ x3) then (some x2) else (if (6 ≤ x3) then (some x2) else (if (x3 < 0 ∨ 6 ≤ Int32.toNatClampNeg x3) then none else (f_Lives_sumOf_purse_L4 N fuel v0 v1 v2 (x2 + ((Lives_purse v0) (Int32.toNatClampNeg x3))) (x3 + 1)))))
def f_Lives_sumOf_purse (N : Nat) (v0 : VLives) (v1 : VTown) (v2 : VLaws) : Option (Int32) := ((f_Lives_sumOf_purse_L4 N N v0 v1 v2 0 0).bind (fun q4 => (some q4)))
set_option maxRecDepth 20000 in
set_option maxHeartbeats 4000000 in
theorem c_Lives_sumOf_purse_L4 {Z : zCtx} {D n0w nf mcw msw : Nat} (hZ : zOk Z zMX3_sumOf) (hR : zCan Z D mcw msw) (hDd : 1 ≤ D) (hN : zNew Z n0w nf) (hRm : zRoom Z 0 0) (N : Nat) : ∀ (fuel : Nat) (v0 : VLives) (v1 : VTown) (v2 : VLaws) (x2 : Int32) (x3 : Int32) (q : (Int32)), f_Lives_sumOf_purse_L4 N fuel v0 v1 v2 x2 x3 = some q → (AW Z 0 0 33 [none, none, some (.int q), none] [] ([kLives 0 8 v0, kTown 8 16 v1, kLaws 16 v2] : List (List zE)).flatten) → AW Z 0 0 4 [some (.ref 0), some (.ref 1), some (.int x2), some (.int x3)] [] ([kLives 0 8 v0, kTown 8 16 v1, kLaws 16 v2] : List (List zE)).flatten := by
  intro fuel
  induction fuel with
  | zero =>
    intro v0 v1 v2 x2 x3 q hf hk0
    simp [f_Lives_sumOf_purse_L4] at hf
  | succ fuel ih =>
    intro v0 v1 v2 x2 x3 q hf hk0
    rw [f_Lives_sumOf_purse_L4] at hf
    refine AW.run hZ hRm [4, 33] 400 ?_
    show ((((Town_people v1) ≤ x3) → AW Z 0 0 33 [some (.ref 0), some (.ref 1), some (.int x2), some (.int x3)] [] ([kLives 0 8 v0, kTown 8 16 v1, kLaws 16 v2] : List (List zE)).flatten) ∧ (¬ ((Town_people v1) ≤ x3) → (((6 ≤ x3) → AW Z 0 0 33 [some (.ref 0), some (.ref 1), some (.int x2), some (.int x3)] [] ([kLives 0 8 v0, kTown 8 16 v1, kLaws 16 v2] : List (List zE)).flatten) ∧ (¬ (6 ≤ x3) → (¬ (x3 < 0 ∨ 6 ≤ Int32.toNatClampNeg x3) ∧ AW Z 0 0 4 [some (.ref 0), some (.ref 1), some (.int (x2 + ((Lives_purse v0) (Int32.toNatClampNeg x3)))), some (.int (x3 + 1))] [] ([kLives 0 8 v0, kTown 8 16 v1, kLaws 16 v2] : List (List zE)).flatten)))))
    refine ⟨fun c1 => ?_, fun c1 => ?_⟩
    · rw [if_pos c1] at hf
      cases hf
      refine AW.forget [false, false, true, false] ?_
      show AW Z 0 0 33 [none, none, some (.int x2), none] [] ([kLives 0 8 v0, kTown 8 16 v1, kLaws 16 v2] : List (List zE)).flatten
      exact hk0
    · rw [if_neg c1] at hf
      refine ⟨fun c2 => ?_, fun c2 => ?_⟩
      · rw [if_pos c2] at hf
        cases hf
        refine AW.forget [false, false, true, false] ?_
        show AW Z 0 0 33 [none, none, some (.int x2), none] [] ([kLives 0 8 v0, kTown 8 16 v1, kLaws 16 v2] : List (List zE)).flatten
        exact hk0
      · rw [if_neg c2] at hf
        obtain ⟨b3, hf⟩ := zneed hf
        refine ⟨b3, ?_⟩
        exact ih v0 v1 v2 (x2 + ((Lives_purse v0) (Int32.toNatClampNeg x3))) (x3 + 1) q hf hk0
set_option maxRecDepth 20000 in
set_option maxHeartbeats 4000000 in
theorem c_Lives_sumOf_purse (N : Nat) (v0 : VLives) (v1 : VTown) (v2 : VLaws) (R : Int32) (hf : f_Lives_sumOf_purse N v0 v1 v2 = some R) : Ct zMX3_sumOf 1 0 0 0 [.ref 0, .ref 1] ([kLives 0 8 v0, kTown 8 16 v1, kLaws 16 v2] : List (List zE)).flatten (fun v cc => v = some (.int R) ∧ cc = ([kLives 0 8 v0, kTown 8 16 v1, kLaws 16 v2] : List (List zE)).flatten) := by
  refine Ct.of zMX3_sumOf_ok (by decide) (Nat.le_of_ble_eq_true rfl) ?_
  intro Z hZ hR hN hE
  have hRm : zRoom Z 0 0 := zRoom0 Z
  unfold f_Lives_sumOf_purse at hf
  show AW Z 0 0 0 [some (.ref 0), some (.ref 1), none, none] [] ([kLives 0 8 v0, kTown 8 16 v1, kLaws 16 v2] : List (List zE)).flatten
  refine AW.run hZ hRm [4] 400 ?_
  show AW Z 0 0 4 [some (.ref 0), some (.ref 1), some (.int 0), some (.int 0)] [] ([kLives 0 8 v0, kTown 8 16 v1, kLaws 16 v2] : List (List zE)).flatten
  obtain ⟨q4, h5, hf⟩ := zbind hf
  refine c_Lives_sumOf_purse_L4 hZ hR (by omega) hN hRm N N v0 v1 v2 0 0 q4 h5 ?_
  show AW Z 0 0 33 [none, none, some (.int q4), none] [] ([kLives 0 8 v0, kTown 8 16 v1, kLaws 16 v2] : List (List zE)).flatten
  refine AW.run hZ hRm [34] 400 ?_
  show AW Z 0 0 34 [none, none, some (.int q4), none] [.int q4] ([kLives 0 8 v0, kTown 8 16 v1, kLaws 16 v2] : List (List zE)).flatten
  cases hf
  exact AW.iret hZ hE rfl rfl rfl rfl (Nat.le_refl 0) (Nat.le_refl 0) rfl ⟨rfl, rfl⟩
def f_Lives_sumOf_debt_L4 (N : Nat) : Nat → VLives → VTown → VLaws → Int32 → Int32 → Option (Int32)
  | 0, _, _, _, _, _ => none
  | fuel + 1, v0, v1, v2, x2, x3 => (if ((Town_people v1) ≤ x3) then (some x2) else (if (6 ≤ x3) then (some x2) else (if (x3 < 0 ∨ 6 ≤ Int32.toNatClampNeg x3) then none else (f_Lives_sumOf_debt_L4 N fuel v0 v1 v2 (x2 + ((Lives_debt v0) (Int32.toNatClampNeg x3))) (x3 + 1)))))
def f_Lives_sumOf_debt (N : Nat) (v0 : VLives) (v1 : VTown) (v2 : VLaws) : Option (Int32) := ((f_Lives_sumOf_debt_L4 N N v0 v1 v2 0 0).bind (fun q4 => (some q4)))
set_option maxRecDepth 20000 in
set_option maxHeartbeats 4000000 in
theorem c_Lives_sumOf_debt_L4 {Z : zCtx} {D n0w nf mcw msw : Nat} (hZ : zOk Z zMX3_sumOf) (hR : zCan Z D mcw msw) (hDd : 1 ≤ D) (hN : zNew Z n0w nf) (hRm : zRoom Z 0 0) (N : Nat) : ∀ (fuel : Nat) (v0 : VLives) (v1 : VTown) (v2 : VLaws) (x2 : Int32) (x3 : Int32) (q : (Int32)), f_Lives_sumOf_debt_L4 N fuel v0 v1 v2 x2 x3 = some q → (AW Z 0 0 33 [none, none, some (.int q), none] [] ([kLives 0 8 v0, kTown 8 16 v1, kLaws 16 v2] : List (List zE)).flatten) → AW Z 0 0 4 [some (.ref 0), some (.ref 2), some (.int x2), some (.int x3)] [] ([kLives 0 8 v0, kTown 8 16 v1, kLaws 16 v2] : List (List zE)).flatten := by
  intro fuel
  induction fuel with
  | zero =>
    intro v0 v1 v2 x2 x3 q hf hk0
    simp [f_Lives_sumOf_debt_L4] at hf
  | succ fuel ih =>
    intro v0 v1 v2 x2 x3 q hf hk0
    rw [f_Lives_sumOf_debt_L4] at hf
    refine AW.run hZ hRm [4, 33] 400 ?_
    show ((((Town_people v1) ≤ x3) → AW Z 0 0 33 [some (.ref 0), some (.ref 2), some (.int x2), some (.int x3)] [] ([kLives 0 8 v0, kTown 8 16 v1, kLaws 16 v2] : List (List zE)).flatten) ∧ (¬ ((Town_people v1) ≤ x3) → (((6 ≤ x3) → AW Z 0 0 33 [some (.ref 0), some (.ref 2), some (.int x2), some (.int x3)] [] ([kLives 0 8 v0, kTown 8 16 v1, kLaws 16 v2] : List (List zE)).flatten) ∧ (¬ (6 ≤ x3) → (¬ (x3 < 0 ∨ 6 ≤ Int32.toNatClampNeg x3) ∧ AW Z 0 0 4 [some (.ref 0), some (.ref 2), some (.int (x2 + ((Lives_debt v0) (Int32.toNatClampNeg x3)))), some (.int (x3 + 1))] [] ([kLives 0 8 v0, kTown 8 16 v1, kLaws 16 v2] : List (List zE)).flatten)))))
    refine ⟨fun c1 => ?_, fun c1 => ?_⟩
    · rw [if_pos c1] at hf
      cases hf
      refine AW.forget [false, false, true, false] ?_
      show AW Z 0 0 33 [none, none, some (.int x2), none] [] ([kLives 0 8 v0, kTown 8 16 v1, kLaws 16 v2] : List (List zE)).flatten
      exact hk0
    · rw [if_neg c1] at hf
      refine ⟨fun c2 => ?_, fun c2 => ?_⟩
      · rw [if_pos c2] at hf
        cases hf
        refine AW.forget [false, false, true, false] ?_
        show AW Z 0 0 33 [none, none, some (.int x2), none] [] ([kLives 0 8 v0, kTown 8 16 v1, kLaws 16 v2] : List (List zE)).flatten
        exact hk0
      · rw [if_neg c2] at hf
        obtain ⟨b3, hf⟩ := zneed hf
        refine ⟨b3, ?_⟩
        exact ih v0 v1 v2 (x2 + ((Lives_debt v0) (Int32.toNatClampNeg x3))) (x3 + 1) q hf hk0
set_option maxRecDepth 20000 in
set_option maxHeartbeats 4000000 in
theorem c_Lives_sumOf_debt (N : Nat) (v0 : VLives) (v1 : VTown) (v2 : VLaws) (R : Int32) (hf : f_Lives_sumOf_debt N v0 v1 v2 = some R) : Ct zMX3_sumOf 1 0 0 0 [.ref 0, .ref 2] ([kLives 0 8 v0, kTown 8 16 v1, kLaws 16 v2] : List (List zE)).flatten (fun v cc => v = some (.int R) ∧ cc = ([kLives 0 8 v0, kTown 8 16 v1, kLaws 16 v2] : List (List zE)).flatten) := by
  refine Ct.of zMX3_sumOf_ok (by decide) (Nat.le_of_ble_eq_true rfl) ?_
  intro Z hZ hR hN hE
  have hRm : zRoom Z 0 0 := zRoom0 Z
  unfold f_Lives_sumOf_debt at hf
  show AW Z 0 0 0 [some (.ref 0), some (.ref 2), none, none] [] ([kLives 0 8 v0, kTown 8 16 v1, kLaws 16 v2] : List (List zE)).flatten
  refine AW.run hZ hRm [4] 400 ?_
  show AW Z 0 0 4 [some (.ref 0), some (.ref 2), some (.int 0), some (.int 0)] [] ([kLives 0 8 v0, kTown 8 16 v1, kLaws 16 v2] : List (List zE)).flatten
  obtain ⟨q4, h5, hf⟩ := zbind hf
  refine c_Lives_sumOf_debt_L4 hZ hR (by omega) hN hRm N N v0 v1 v2 0 0 q4 h5 ?_
  show AW Z 0 0 33 [none, none, some (.int q4), none] [] ([kLives 0 8 v0, kTown 8 16 v1, kLaws 16 v2] : List (List zE)).flatten
  refine AW.run hZ hRm [34] 400 ?_
  show AW Z 0 0 34 [none, none, some (.int q4), none] [.int q4] ([kLives 0 8 v0, kTown 8 16 v1, kLaws 16 v2] : List (List zE)).flatten
  cases hf
  exact AW.iret hZ hE rfl rfl rfl rfl (Nat.le_refl 0) (Nat.le_refl 0) rfl ⟨rfl, rfl⟩
def f_Forecast_passYears_L35 (N : Nat) : Nat → VForecast → VTown → VLaws → VLots → VLives → VLives → Int32 → Int64 → Int32 → Int32 → Int32 → (Nat → Int32) → (Nat → Int32) → (Nat → Int32) → (Nat → Int32) → (Nat → Int32) → (Nat → Int32) → (Nat → Int32) → (Nat → Int32) → (Nat → Int32) → Int32 → Int32 → Int32 → Int32 → Option (Int32 × Int32 × (Nat → Int32) × (Nat → Int32) × (Nat → Int32) × (Nat → Int32) × (Nat → Int32) × (Nat → Int32) × (Nat → Int32) × (Nat → Int32) × (Nat → Int32) × Int32 × Int32 × Int32 × Int32)
  | 0, _, _, _, _, _, _, _, _, _, _, _, _, _, _, _, _, _, _, _, _, _, _, _, _ => none
  | fuel + 1, v0, v1, v2, v3, v4, v5, y2, x3, x5, m_yearsHarm0, m_yearsGood1, m_facts2, m_stack3, m_purse4, m_debt5, m_home6, m_hidden7, m_self8, m_worthThen9, m_homeThen10, m_away11, m_days12, m_homes13, m_harm14 => (if (y2 ≤ x5) then (some (m_yearsHarm0, m_yearsGood1, m_facts2, m_stack3, m_purse4, m_debt5, m_home6, m_hidden7, m_self8, m_worthThen9, m_homeThen10, m_away11, m_days12, m_homes13, m_harm14)) else ((f_Forecast_hideByDraws N (Forecast_s_yearsHarm_yearsGood v0 m_yearsHarm0 m_yearsGood1) v1 (Laws_s_facts_stack v2 m_facts2 m_stack3) v3 v4 (Lives_s_purse_debt_home_hidden_self_worthThen_homeThen_away_days_homes_harm v5 m_purse4 m_debt5 m_home6 m_hidden7 m_self8 m_worthThen9 m_homeThen10 m_away11 m_days12 m_homes13 m_harm14) x3).bind (fun q4 => (if ((Lots_count v3) ≤ 0) then ((f_Arr_fill N 6 q4.2 0).bind (fun q6 => (f_Forecast_passYears_L35 N fuel v0 v1 v2 v3 v4 v5 y2 q4.1 (x5 + 1) m_yearsHarm0 m_yearsGood1 m_facts2 m_stack3 m_purse4 m_debt5 m_home6 q6 m_self8 m_worthThen9 m_homeThen10 m_away11 m_days12 m_homes13 m_harm14))) else ((f_Lots_nextDraw N q4.1).bind (fun q8 => ((f_Lots_drawBelow N q8 (Lots_count v3)).bind (fun q9 => ((f_Lives_goAway N (Lives_s_purse_debt_home_hidden_self_worthThen_homeThen_away_days_homes_harm v5 m_purse4 m_debt5 m_home6 q4.2 m_self8 m_worthThen9 m_homeThen10 m_away11 m_days12 m_homes13 m_harm14) v1 (Laws_s_facts_stack v2 m_facts2 m_stack3) v3 q9).bind (fun q10 => ((f_Lives_passDays N (Lives_s_purse_debt_home_hidden_self_worthThen_homeThen_away_days_homes_harm v5 m_purse4 m_debt5 m_home6 q4.2 q10.1 q10.2.1 q10.2.2.1 q10.2.2.2.1 q10.2.2.2.2 m_homes13 m_harm14) v1 (Laws_s_facts_stack v2 m_facts2 m_stack3) 7 (Town_sign v1)).bind (fun q11 => ((f_Lives_goodOfAll N (Lives_s_purse_debt_home_hidden_self_worthThen_homeThen_away_days_homes_harm v5 q11.1 q11.2.1 q11.2.2.1 q4.2 q10.1 q10.2.1 q10.2.2.1 q10.2.2.2.1 q11.2.2.2.1 m_homes13 m_harm14) v1 (Laws_s_facts_stack v2 q11.2.2.2.2.1 q11.2.2.2.2.2)).bind (fun q12 => ((f_Lives_goHome N (Lives_s_purse_debt_home_hidden_self_worthThen_homeThen_away_days_homes_harm v5 q11.1 q11.2.1 q11.2.2.1 q4.2 q10.1 q10.2.1 q10.2.2.1 q10.2.2.2.1 q11.2.2.2.1 m_homes13 m_harm14) v1 (Laws_s_facts_stack v2 q11.2.2.2.2.1 q11.2.2.2.2.2)).bind (fun q13 => ((f_Arr_fill N 6 q13.2.1 0).bind (fun q14 => (f_Forecast_passYears_L35 N fuel v0 v1 v2 v3 v4 v5 y2 q8 (x5 + 1) (m_yearsHarm0 + q13.1) (m_yearsGood1 + q12) q11.2.2.2.2.1 q11.2.2.2.2.2 q11.1 q11.2.1 q11.2.2.1 q14 q13.2.2.1 q10.2.1 q10.2.2.1 q13.2.2.2.1 q13.2.2.2.2.1 q13.2.2.2.2.2.1 q13.2.2.2.2.2.2)))))))))))))))))))
def f_Forecast_passYears (N : Nat) (v0 : VForecast) (v1 : VTown) (v2 : VLaws) (v3 : VLots) (v4 : VLives) (v5 : VLives) (a1 : Int32) (a2 : Int32) : Option (Int32 × Int32 × Int32 × (Nat → Int32) × (Nat → Int32) × (Nat → Int32) × (Nat → Int32) × (Nat → Int32) × (Nat → Int32) × (Nat → Int32) × (Nat → Int32) × (Nat → Int32) × Int32 × Int32 × Int32 × Int32) := ((f_Lives_copyFrom N v5 v1 v2 v4).bind (fun q1 => ((f_Lives_goHome N (Lives_s_purse_debt_home_hidden_self_worthThen_homeThen_away_days_homes_harm v5 q1.1 q1.2.1 q1.2.2.1 q1.2.2.2.1 q1.2.2.2.2.1 q1.2.2.2.2.2.1 q1.2.2.2.2.2.2.1 q1.2.2.2.2.2.2.2.1 q1.2.2.2.2.2.2.2.2.1 q1.2.2.2.2.2.2.2.2.2.1 q1.2.2.2.2.2.2.2.2.2.2) v1 v2).bind (fun q2 => ((f_Forecast_passYears_L35 N N (Forecast_s_yearsHarm_yearsGood v0 0 0) v1 v2 v3 v4 (Lives_s_purse_debt_home_hidden_self_worthThen_homeThen_away_days_homes_harm v5 q1.1 q1.2.1 q1.2.2.1 q2.2.1 q2.2.2.1 q1.2.2.2.2.2.1 q1.2.2.2.2.2.2.1 q2.2.2.2.1 q2.2.2.2.2.1 q2.2.2.2.2.2.1 q2.2.2.2.2.2.2) a2 (Int32.toInt64 a1) 0 0 0 (Laws_facts v2) (Laws_stack v2) q1.1 q1.2.1 q1.2.2.1 q2.2.1 q2.2.2.1 q1.2.2.2.2.2.1 q1.2.2.2.2.2.2.1 q2.2.2.2.1 q2.2.2.2.2.1 q2.2.2.2.2.2.1 q2.2.2.2.2.2.2).bind (fun q23 => ((f_Lives_sumOf_purse N (Lives_s_purse_debt_home_hidden_self_worthThen_homeThen_away_days_homes_harm v5 q23.2.2.2.2.1 q23.2.2.2.2.2.1 q23.2.2.2.2.2.2.1 q23.2.2.2.2.2.2.2.1 q23.2.2.2.2.2.2.2.2.1 q23.2.2.2.2.2.2.2.2.2.1 q23.2.2.2.2.2.2.2.2.2.2.1 q23.2.2.2.2.2.2.2.2.2.2.2.1 q23.2.2.2.2.2.2.2.2.2.2.2.2.1 q23.2.2.2.2.2.2.2.2.2.2.2.2.2.1 q23.2.2.2.2.2.2.2.2.2.2.2.2.2.2) v1 (Laws_s_facts_stack v2 q23.2.2.1 q23.2.2.2.1)).bind (fun q25 => (some (q23.1, q23.2.1, q25, q23.2.2.1, q23.2.2.2.1, q23.2.2.2.2.1, q23.2.2.2.2.2.1, q23.2.2.2.2.2.2.1, q23.2.2.2.2.2.2.2.1, q23.2.2.2.2.2.2.2.2.1, q23.2.2.2.2.2.2.2.2.2.1, q23.2.2.2.2.2.2.2.2.2.2.1, q23.2.2.2.2.2.2.2.2.2.2.2.1, q23.2.2.2.2.2.2.2.2.2.2.2.2.1, q23.2.2.2.2.2.2.2.2.2.2.2.2.2.1, q23.2.2.2.2.2.2.2.2.2.2.2.2.2.2))))))))))
set_option maxRecDepth 20000 in
set_option maxHeartbeats 4000000 in
theorem c_Forecast_passYears_L35 {Z : zCtx} {D n0w nf mcw msw : Nat} (hZ : zOk Z zMX1_passYears) (hR : zCan Z D mcw msw) (hDd : 10 ≤ D) (hN : zNew Z n0w nf) (hRm : zRoom Z 0 0) (N : Nat) : ∀ (fuel : Nat) (v0 : VForecast) (v1 : VTown) (v2 : VLaws) (v3 : VLots) (v4 : VLives) (v5 : VLives) (y2 : Int32) (x3 : Int64) (x5 : Int32) (m_yearsHarm0 : Int32) (m_yearsGood1 : Int32) (m_facts2 : (Nat → Int32)) (m_stack3 : (Nat → Int32)) (m_purse4 : (Nat → Int32)) (m_debt5 : (Nat → Int32)) (m_home6 : (Nat → Int32)) (m_hidden7 : (Nat → Int32)) (m_self8 : (Nat → Int32)) (m_worthThen9 : (Nat → Int32)) (m_homeThen10 : (Nat → Int32)) (m_away11 : Int32) (m_days12 : Int32) (m_homes13 : Int32) (m_harm14 : Int32) (q : (Int32 × Int32 × (Nat → Int32) × (Nat → Int32) × (Nat → Int32) × (Nat → Int32) × (Nat → Int32) × (Nat → Int32) × (Nat → Int32) × (Nat → Int32) × (Nat → Int32) × Int32 × Int32 × Int32 × Int32)), f_Forecast_passYears_L35 N fuel v0 v1 v2 v3 v4 v5 y2 x3 x5 m_yearsHarm0 m_yearsGood1 m_facts2 m_stack3 m_purse4 m_debt5 m_home6 m_hidden7 m_self8 m_worthThen9 m_homeThen10 m_away11 m_days12 m_homes13 m_harm14 = some q → (AW Z 0 0 149 [some (.ref 0), none, none, none, none, none] [] ([kForecast 0 5 19 22 30 (Forecast_s_yearsHarm_yearsGood v0 q.1 q.2.1), kTown 5 13 v1, kLaws 13 (Laws_s_facts_stack v2 q.2.2.1 q.2.2.2.1), kLots 19 v3, kLives 22 5 v4, kLives 30 5 (Lives_s_purse_debt_home_hidden_self_worthThen_homeThen_away_days_homes_harm v5 q.2.2.2.2.1 q.2.2.2.2.2.1 q.2.2.2.2.2.2.1 q.2.2.2.2.2.2.2.1 q.2.2.2.2.2.2.2.2.1 q.2.2.2.2.2.2.2.2.2.1 q.2.2.2.2.2.2.2.2.2.2.1 q.2.2.2.2.2.2.2.2.2.2.2.1 q.2.2.2.2.2.2.2.2.2.2.2.2.1 q.2.2.2.2.2.2.2.2.2.2.2.2.2.1 q.2.2.2.2.2.2.2.2.2.2.2.2.2.2)] : List (List zE)).flatten) → AW Z 0 0 35 [some (.ref 0), none, some (.int y2), some (.long x3), none, some (.int x5)] [] ([kForecast 0 5 19 22 30 (Forecast_s_yearsHarm_yearsGood v0 m_yearsHarm0 m_yearsGood1), kTown 5 13 v1, kLaws 13 (Laws_s_facts_stack v2 m_facts2 m_stack3), kLots 19 v3, kLives 22 5 v4, kLives 30 5 (Lives_s_purse_debt_home_hidden_self_worthThen_homeThen_away_days_homes_harm v5 m_purse4 m_debt5 m_home6 m_hidden7 m_self8 m_worthThen9 m_homeThen10 m_away11 m_days12 m_homes13 m_harm14)] : List (List zE)).flatten := by
  intro fuel
  induction fuel with
  | zero =>
    intro v0 v1 v2 v3 v4 v5 y2 x3 x5 m_yearsHarm0 m_yearsGood1 m_facts2 m_stack3 m_purse4 m_debt5 m_home6 m_hidden7 m_self8 m_worthThen9 m_homeThen10 m_away11 m_days12 m_homes13 m_harm14 q hf hk0
    simp [f_Forecast_passYears_L35] at hf
  | succ fuel ih =>
    intro v0 v1 v2 v3 v4 v5 y2 x3 x5 m_yearsHarm0 m_yearsGood1 m_facts2 m_stack3 m_purse4 m_debt5 m_home6 m_hidden7 m_self8 m_worthThen9 m_homeThen10 m_away11 m_days12 m_homes13 m_harm14 q hf hk0
    rw [f_Forecast_passYears_L35] at hf
    refine AW.run hZ hRm [43, 149] 400 ?_
    show (((y2 ≤ x5) → AW Z 0 0 149 [some (.ref 0), none, some (.int y2), some (.long x3), none, some (.int x5)] [] ([kForecast 0 5 19 22 30 (Forecast_s_yearsHarm_yearsGood v0 m_yearsHarm0 m_yearsGood1), kTown 5 13 v1, kLaws 13 (Laws_s_facts_stack v2 m_facts2 m_stack3), kLots 19 v3, kLives 22 5 v4, kLives 30 5 (Lives_s_purse_debt_home_hidden_self_worthThen_homeThen_away_days_homes_harm v5 m_purse4 m_debt5 m_home6 m_hidden7 m_self8 m_worthThen9 m_homeThen10 m_away11 m_days12 m_homes13 m_harm14)] : List (List zE)).flatten) ∧ (¬ (y2 ≤ x5) → AW Z 0 0 43 [some (.ref 0), none, some (.int y2), some (.long x3), none, some (.int x5)] [.long x3, .ref 0] ([kForecast 0 5 19 22 30 (Forecast_s_yearsHarm_yearsGood v0 m_yearsHarm0 m_yearsGood1), kTown 5 13 v1, kLaws 13 (Laws_s_facts_stack v2 m_facts2 m_stack3), kLots 19 v3, kLives 22 5 v4, kLives 30 5 (Lives_s_purse_debt_home_hidden_self_worthThen_homeThen_away_days_homes_harm v5 m_purse4 m_debt5 m_home6 m_hidden7 m_self8 m_worthThen9 m_homeThen10 m_away11 m_days12 m_homes13 m_harm14)] : List (List zE)).flatten))
    refine ⟨fun c3 => ?_, fun c3 => ?_⟩
    · rw [if_pos c3] at hf
      cases hf
      refine AW.forget [true, false, false, false, false, false] ?_
      show AW Z 0 0 149 [some (.ref 0), none, none, none, none, none] [] ([kForecast 0 5 19 22 30 (Forecast_s_yearsHarm_yearsGood v0 m_yearsHarm0 m_yearsGood1), kTown 5 13 v1, kLaws 13 (Laws_s_facts_stack v2 m_facts2 m_stack3), kLots 19 v3, kLives 22 5 v4, kLives 30 5 (Lives_s_purse_debt_home_hidden_self_worthThen_homeThen_away_days_homes_harm v5 m_purse4 m_debt5 m_home6 m_hidden7 m_self8 m_worthThen9 m_homeThen10 m_away11 m_days12 m_homes13 m_harm14)] : List (List zE)).flatten
      exact hk0
    · rw [if_neg c3] at hf
      obtain ⟨q4, h22, hf⟩ := zbind hf
      refine AW.callVc hZ hR hN (c_Forecast_hideByDraws N (Forecast_s_yearsHarm_yearsGood v0 m_yearsHarm0 m_yearsGood1) v1 (Laws_s_facts_stack v2 m_facts2 m_stack3) v3 v4 (Lives_s_purse_debt_home_hidden_self_worthThen_homeThen_away_days_homes_harm v5 m_purse4 m_debt5 m_home6 m_hidden7 m_self8 m_worthThen9 m_homeThen10 m_away11 m_days12 m_homes13 m_harm14) x3 q4 h22) zMX1_hideByDraws_ok rfl rfl zK_BorrowedLives_Forecast_165 zV_X1_hideByDraws rfl [5, 8, 6, 3, 8, 8] [0, 1, 2, 3, 4, 5] [0, 1, 2, 3, 4, 5, 6, 7, 8, 9, 10, 11, 12, 13, 14, 15, 16, 17, 18, 19, 20, 21, 22, 23, 24, 25, 26, 27, 28, 29, 30, 31, 32, 33, 34, 35, 36, 37] rfl rfl rfl (by decide) (by decide) (by omega) (by decide) (Nat.zero_le _) (Nat.zero_le _) rfl rfl rfl rfl rfl ?_
      rintro v cc ⟨rfl, rfl⟩
      refine ⟨_, rfl, rfl, ?_⟩
      show AW Z 0 0 46 [some (.ref 0), none, some (.int y2), some (.long x3), none, some (.int x5)] [.long q4.1] ([kForecast 0 5 19 22 30 (Forecast_s_yearsHarm_yearsGood v0 m_yearsHarm0 m_yearsGood1), kTown 5 13 v1, kLaws 13 (Laws_s_facts_stack v2 m_facts2 m_stack3), kLots 19 v3, kLives 22 5 v4, kLives 30 5 (Lives_s_purse_debt_home_hidden_self_worthThen_homeThen_away_days_homes_harm v5 m_purse4 m_debt5 m_home6 q4.2 m_self8 m_worthThen9 m_homeThen10 m_away11 m_days12 m_homes13 m_harm14)] : List (List zE)).flatten
      refine AW.run hZ hRm [58, 140] 400 ?_
      show ((((Lots_count v3) ≤ 0) → AW Z 0 0 140 [some (.ref 0), none, some (.int y2), some (.long q4.1), none, some (.int x5)] [.int 0, .ref 34] ([kForecast 0 5 19 22 30 (Forecast_s_yearsHarm_yearsGood v0 m_yearsHarm0 m_yearsGood1), kTown 5 13 v1, kLaws 13 (Laws_s_facts_stack v2 m_facts2 m_stack3), kLots 19 v3, kLives 22 5 v4, kLives 30 5 (Lives_s_purse_debt_home_hidden_self_worthThen_homeThen_away_days_homes_harm v5 m_purse4 m_debt5 m_home6 q4.2 m_self8 m_worthThen9 m_homeThen10 m_away11 m_days12 m_homes13 m_harm14)] : List (List zE)).flatten) ∧ (¬ ((Lots_count v3) ≤ 0) → AW Z 0 0 58 [some (.ref 0), none, some (.int y2), some (.long q4.1), none, some (.int x5)] [.long q4.1] ([kForecast 0 5 19 22 30 (Forecast_s_yearsHarm_yearsGood v0 m_yearsHarm0 m_yearsGood1), kTown 5 13 v1, kLaws 13 (Laws_s_facts_stack v2 m_facts2 m_stack3), kLots 19 v3, kLives 22 5 v4, kLives 30 5 (Lives_s_purse_debt_home_hidden_self_worthThen_homeThen_away_days_homes_harm v5 m_purse4 m_debt5 m_home6 q4.2 m_self8 m_worthThen9 m_homeThen10 m_away11 m_days12 m_homes13 m_harm14)] : List (List zE)).flatten))
      refine ⟨fun c5 => ?_, fun c5 => ?_⟩
      · rw [if_pos c5] at hf
        obtain ⟨q6, h7, hf⟩ := zbind hf
        refine AW.callS hZ hR hN (c_Arr_fill N 6 q4.2 0 q6 h7) zMJ7_fill_53178_ok rfl rfl zK_BorrowedLives_Forecast_179 zV_J7_fill_53178 rfl [34] rfl (by decide) (Or.inl rfl) (by decide) (by omega) (by decide) (Nat.zero_le _) (Nat.zero_le _) rfl rfl ?_
        rintro v cc ⟨rfl, rfl⟩ -
        show AW Z 0 0 143 [some (.ref 0), none, some (.int y2), some (.long q4.1), none, some (.int x5)] [] ([kForecast 0 5 19 22 30 (Forecast_s_yearsHarm_yearsGood v0 m_yearsHarm0 m_yearsGood1), kTown 5 13 v1, kLaws 13 (Laws_s_facts_stack v2 m_facts2 m_stack3), kLots 19 v3, kLives 22 5 v4, kLives 30 5 (Lives_s_purse_debt_home_hidden_self_worthThen_homeThen_away_days_homes_harm v5 m_purse4 m_debt5 m_home6 q6 m_self8 m_worthThen9 m_homeThen10 m_away11 m_days12 m_homes13 m_harm14)] : List (List zE)).flatten
        refine AW.run hZ hRm [35] 400 ?_
        show AW Z 0 0 35 [some (.ref 0), none, some (.int y2), some (.long q4.1), none, some (.int (x5 + 1))] [] ([kForecast 0 5 19 22 30 (Forecast_s_yearsHarm_yearsGood v0 m_yearsHarm0 m_yearsGood1), kTown 5 13 v1, kLaws 13 (Laws_s_facts_stack v2 m_facts2 m_stack3), kLots 19 v3, kLives 22 5 v4, kLives 30 5 (Lives_s_purse_debt_home_hidden_self_worthThen_homeThen_away_days_homes_harm v5 m_purse4 m_debt5 m_home6 q6 m_self8 m_worthThen9 m_homeThen10 m_away11 m_days12 m_homes13 m_harm14)] : List (List zE)).flatten
        exact ih v0 v1 v2 v3 v4 v5 y2 q4.1 (x5 + 1) m_yearsHarm0 m_yearsGood1 m_facts2 m_stack3 m_purse4 m_debt5 m_home6 q6 m_self8 m_worthThen9 m_homeThen10 m_away11 m_days12 m_homes13 m_harm14 q hf hk0
      · rw [if_neg c5] at hf
        obtain ⟨q8, h21, hf⟩ := zbind hf
        refine AW.callSc hZ hR hN (c_Lots_nextDraw N q4.1 q8 h21) zMX4_nextDraw_ok rfl rfl zK_BorrowedLives_Forecast_169 zV_X4_nextDraw rfl [5, 8, 6, 3, 8, 8] [] [] rfl rfl rfl (by decide) (by decide) (by omega) (by decide) (Nat.zero_le _) (Nat.zero_le _) rfl rfl ?_
        rintro v cc ⟨rfl, rfl⟩
        refine ⟨_, rfl, rfl, ?_⟩
        show AW Z 0 0 61 [some (.ref 0), none, some (.int y2), some (.long q4.1), none, some (.int x5)] [.long q8] ([kForecast 0 5 19 22 30 (Forecast_s_yearsHarm_yearsGood v0 m_yearsHarm0 m_yearsGood1), kTown 5 13 v1, kLaws 13 (Laws_s_facts_stack v2 m_facts2 m_stack3), kLots 19 v3, kLives 22 5 v4, kLives 30 5 (Lives_s_purse_debt_home_hidden_self_worthThen_homeThen_away_days_homes_harm v5 m_purse4 m_debt5 m_home6 q4.2 m_self8 m_worthThen9 m_homeThen10 m_away11 m_days12 m_homes13 m_harm14)] : List (List zE)).flatten
        refine AW.run hZ hRm [78] 400 ?_
        show AW Z 0 0 78 [some (.ref 0), none, some (.int y2), some (.long q8), none, some (.int x5)] [.int (Lots_count v3), .long q8, .ref 19, .ref 30] ([kForecast 0 5 19 22 30 (Forecast_s_yearsHarm_yearsGood v0 m_yearsHarm0 m_yearsGood1), kTown 5 13 v1, kLaws 13 (Laws_s_facts_stack v2 m_facts2 m_stack3), kLots 19 v3, kLives 22 5 v4, kLives 30 5 (Lives_s_purse_debt_home_hidden_self_worthThen_homeThen_away_days_homes_harm v5 m_purse4 m_debt5 m_home6 q4.2 m_self8 m_worthThen9 m_homeThen10 m_away11 m_days12 m_homes13 m_harm14)] : List (List zE)).flatten
        obtain ⟨q9, h20, hf⟩ := zbind hf
        refine AW.callSc hZ hR hN (c_Lots_drawBelow N q8 (Lots_count v3) q9 h20) zMX4_drawBelow_ok rfl rfl zK_BorrowedLives_Forecast_172 zV_X4_drawBelow rfl [5, 8, 6, 3, 8, 8] [] [] rfl rfl rfl (by decide) (by decide) (by omega) (by decide) (Nat.zero_le _) (Nat.zero_le _) rfl rfl ?_
        rintro v cc ⟨rfl, rfl⟩
        refine ⟨_, rfl, rfl, ?_⟩
        show AW Z 0 0 81 [some (.ref 0), none, some (.int y2), some (.long q8), none, some (.int x5)] [.int q9, .ref 19, .ref 30] ([kForecast 0 5 19 22 30 (Forecast_s_yearsHarm_yearsGood v0 m_yearsHarm0 m_yearsGood1), kTown 5 13 v1, kLaws 13 (Laws_s_facts_stack v2 m_facts2 m_stack3), kLots 19 v3, kLives 22 5 v4, kLives 30 5 (Lives_s_purse_debt_home_hidden_self_worthThen_homeThen_away_days_homes_harm v5 m_purse4 m_debt5 m_home6 q4.2 m_self8 m_worthThen9 m_homeThen10 m_away11 m_days12 m_homes13 m_harm14)] : List (List zE)).flatten
        obtain ⟨q10, h19, hf⟩ := zbind hf
        refine AW.callVc hZ hR hN (c_Lives_goAway N (Lives_s_purse_debt_home_hidden_self_worthThen_homeThen_away_days_homes_harm v5 m_purse4 m_debt5 m_home6 q4.2 m_self8 m_worthThen9 m_homeThen10 m_away11 m_days12 m_homes13 m_harm14) v1 (Laws_s_facts_stack v2 m_facts2 m_stack3) v3 q9 q10 h19) zMX3_goAway_ok rfl rfl zK_BorrowedLives_Forecast_78 zV_X3_goAway rfl [5, 8, 6, 3, 8, 8] [5, 1, 2, 3] [30, 31, 32, 33, 34, 35, 36, 37, 5, 6, 7, 8, 9, 10, 11, 12, 13, 14, 15, 16, 17, 18, 19, 20, 21] rfl rfl rfl (by decide) (by decide) (by omega) (by decide) (Nat.zero_le _) (Nat.zero_le _) rfl rfl rfl rfl rfl ?_
        rintro v cc ⟨rfl, rfl⟩
        refine ⟨_, rfl, rfl, ?_⟩
        show AW Z 0 0 84 [some (.ref 0), none, some (.int y2), some (.long q8), none, some (.int x5)] [] ([kForecast 0 5 19 22 30 (Forecast_s_yearsHarm_yearsGood v0 m_yearsHarm0 m_yearsGood1), kTown 5 13 v1, kLaws 13 (Laws_s_facts_stack v2 m_facts2 m_stack3), kLots 19 v3, kLives 22 5 v4, kLives 30 5 (Lives_s_purse_debt_home_hidden_self_worthThen_homeThen_away_days_homes_harm v5 m_purse4 m_debt5 m_home6 q4.2 q10.1 q10.2.1 q10.2.2.1 q10.2.2.2.1 q10.2.2.2.2 m_homes13 m_harm14)] : List (List zE)).flatten
        refine AW.run hZ hRm [97] 400 ?_
        show AW Z 0 0 97 [some (.ref 0), none, some (.int y2), some (.long q8), none, some (.int x5)] [.int (Town_sign v1), .int 7, .ref 30] ([kForecast 0 5 19 22 30 (Forecast_s_yearsHarm_yearsGood v0 m_yearsHarm0 m_yearsGood1), kTown 5 13 v1, kLaws 13 (Laws_s_facts_stack v2 m_facts2 m_stack3), kLots 19 v3, kLives 22 5 v4, kLives 30 5 (Lives_s_purse_debt_home_hidden_self_worthThen_homeThen_away_days_homes_harm v5 m_purse4 m_debt5 m_home6 q4.2 q10.1 q10.2.1 q10.2.2.1 q10.2.2.2.1 q10.2.2.2.2 m_homes13 m_harm14)] : List (List zE)).flatten
        obtain ⟨q11, h18, hf⟩ := zbind hf
        refine AW.callVc hZ hR hN (c_Lives_passDays N (Lives_s_purse_debt_home_hidden_self_worthThen_homeThen_away_days_homes_harm v5 m_purse4 m_debt5 m_home6 q4.2 q10.1 q10.2.1 q10.2.2.1 q10.2.2.2.1 q10.2.2.2.2 m_homes13 m_harm14) v1 (Laws_s_facts_stack v2 m_facts2 m_stack3) 7 (Town_sign v1) q11 h18) zMX3_passDays_ok rfl rfl zK_BorrowedLives_Forecast_87 zV_X3_passDays rfl [5, 8, 6, 3, 8, 8] [5, 1, 2] [30, 31, 32, 33, 34, 35, 36, 37, 5, 6, 7, 8, 9, 10, 11, 12, 13, 14, 15, 16, 17, 18] rfl rfl rfl (by decide) (by decide) (by omega) (by decide) (Nat.zero_le _) (Nat.zero_le _) rfl rfl rfl rfl rfl ?_
        rintro v cc ⟨rfl, rfl⟩
        refine ⟨_, rfl, rfl, ?_⟩
        show AW Z 0 0 100 [some (.ref 0), none, some (.int y2), some (.long q8), none, some (.int x5)] [] ([kForecast 0 5 19 22 30 (Forecast_s_yearsHarm_yearsGood v0 m_yearsHarm0 m_yearsGood1), kTown 5 13 v1, kLaws 13 (Laws_s_facts_stack v2 q11.2.2.2.2.1 q11.2.2.2.2.2), kLots 19 v3, kLives 22 5 v4, kLives 30 5 (Lives_s_purse_debt_home_hidden_self_worthThen_homeThen_away_days_homes_harm v5 q11.1 q11.2.1 q11.2.2.1 q4.2 q10.1 q10.2.1 q10.2.2.1 q10.2.2.2.1 q11.2.2.2.1 m_homes13 m_harm14)] : List (List zE)).flatten
        refine AW.run hZ hRm [109] 400 ?_
        show AW Z 0 0 109 [some (.ref 0), none, some (.int y2), some (.long q8), none, some (.int x5)] [.ref 30, .int m_yearsGood1, .ref 0] ([kForecast 0 5 19 22 30 (Forecast_s_yearsHarm_yearsGood v0 m_yearsHarm0 m_yearsGood1), kTown 5 13 v1, kLaws 13 (Laws_s_facts_stack v2 q11.2.2.2.2.1 q11.2.2.2.2.2), kLots 19 v3, kLives 22 5 v4, kLives 30 5 (Lives_s_purse_debt_home_hidden_self_worthThen_homeThen_away_days_homes_harm v5 q11.1 q11.2.1 q11.2.2.1 q4.2 q10.1 q10.2.1 q10.2.2.1 q10.2.2.2.1 q11.2.2.2.1 m_homes13 m_harm14)] : List (List zE)).flatten
        obtain ⟨q12, h17, hf⟩ := zbind hf
        refine AW.callVc hZ hR hN (c_Lives_goodOfAll N (Lives_s_purse_debt_home_hidden_self_worthThen_homeThen_away_days_homes_harm v5 q11.1 q11.2.1 q11.2.2.1 q4.2 q10.1 q10.2.1 q10.2.2.1 q10.2.2.2.1 q11.2.2.2.1 m_homes13 m_harm14) v1 (Laws_s_facts_stack v2 q11.2.2.2.2.1 q11.2.2.2.2.2) q12 h17) zMX3_goodOfAll_ok rfl rfl zK_BorrowedLives_Forecast_176 zV_X3_goodOfAll rfl [5, 8, 6, 3, 8, 8] [5, 1, 2] [30, 31, 32, 33, 34, 35, 36, 37, 5, 6, 7, 8, 9, 10, 11, 12, 13, 14, 15, 16, 17, 18] rfl rfl rfl (by decide) (by decide) (by omega) (by decide) (Nat.zero_le _) (Nat.zero_le _) rfl rfl rfl rfl rfl ?_
        rintro v cc ⟨rfl, rfl⟩
        refine ⟨_, rfl, rfl, ?_⟩
        show AW Z 0 0 112 [some (.ref 0), none, some (.int y2), some (.long q8), none, some (.int x5)] [.int q12, .int m_yearsGood1, .ref 0] ([kForecast 0 5 19 22 30 (Forecast_s_yearsHarm_yearsGood v0 m_yearsHarm0 m_yearsGood1), kTown 5 13 v1, kLaws 13 (Laws_s_facts_stack v2 q11.2.2.2.2.1 q11.2.2.2.2.2), kLots 19 v3, kLives 22 5 v4, kLives 30 5 (Lives_s_purse_debt_home_hidden_self_worthThen_homeThen_away_days_homes_harm v5 q11.1 q11.2.1 q11.2.2.1 q4.2 q10.1 q10.2.1 q10.2.2.1 q10.2.2.2.1 q11.2.2.2.1 m_homes13 m_harm14)] : List (List zE)).flatten
        refine AW.run hZ hRm [125] 400 ?_
        show AW Z 0 0 125 [some (.ref 0), none, some (.int y2), some (.long q8), none, some (.int x5)] [.ref 30, .int m_yearsHarm0, .ref 0] ([kForecast 0 5 19 22 30 (Forecast_s_yearsHarm_yearsGood v0 m_yearsHarm0 (m_yearsGood1 + q12)), kTown 5 13 v1, kLaws 13 (Laws_s_facts_stack v2 q11.2.2.2.2.1 q11.2.2.2.2.2), kLots 19 v3, kLives 22 5 v4, kLives 30 5 (Lives_s_purse_debt_home_hidden_self_worthThen_homeThen_away_days_homes_harm v5 q11.1 q11.2.1 q11.2.2.1 q4.2 q10.1 q10.2.1 q10.2.2.1 q10.2.2.2.1 q11.2.2.2.1 m_homes13 m_harm14)] : List (List zE)).flatten
        obtain ⟨q13, h16, hf⟩ := zbind hf
        refine AW.callVc hZ hR hN (c_Lives_goHome N (Lives_s_purse_debt_home_hidden_self_worthThen_homeThen_away_days_homes_harm v5 q11.1 q11.2.1 q11.2.2.1 q4.2 q10.1 q10.2.1 q10.2.2.1 q10.2.2.2.1 q11.2.2.2.1 m_homes13 m_harm14) v1 (Laws_s_facts_stack v2 q11.2.2.2.2.1 q11.2.2.2.2.2) q13 h16) zMX3_goHome_ok rfl rfl zK_BorrowedLives_Forecast_162 zV_X3_goHome rfl [5, 8, 6, 3, 8, 8] [5, 1, 2] [30, 31, 32, 33, 34, 35, 36, 37, 5, 6, 7, 8, 9, 10, 11, 12, 13, 14, 15, 16, 17, 18] rfl rfl rfl (by decide) (by decide) (by omega) (by decide) (Nat.zero_le _) (Nat.zero_le _) rfl rfl rfl rfl rfl ?_
        rintro v cc ⟨rfl, rfl⟩
        refine ⟨_, rfl, rfl, ?_⟩
        show AW Z 0 0 128 [some (.ref 0), none, some (.int y2), some (.long q8), none, some (.int x5)] [.int q13.1, .int m_yearsHarm0, .ref 0] ([kForecast 0 5 19 22 30 (Forecast_s_yearsHarm_yearsGood v0 m_yearsHarm0 (m_yearsGood1 + q12)), kTown 5 13 v1, kLaws 13 (Laws_s_facts_stack v2 q11.2.2.2.2.1 q11.2.2.2.2.2), kLots 19 v3, kLives 22 5 v4, kLives 30 5 (Lives_s_purse_debt_home_hidden_self_worthThen_homeThen_away_days_homes_harm v5 q11.1 q11.2.1 q11.2.2.1 q13.2.1 q13.2.2.1 q10.2.1 q10.2.2.1 q13.2.2.2.1 q13.2.2.2.2.1 q13.2.2.2.2.2.1 q13.2.2.2.2.2.2)] : List (List zE)).flatten
        refine AW.run hZ hRm [140] 400 ?_
        show AW Z 0 0 140 [some (.ref 0), none, some (.int y2), some (.long q8), none, some (.int x5)] [.int 0, .ref 34] ([kForecast 0 5 19 22 30 (Forecast_s_yearsHarm_yearsGood v0 (m_yearsHarm0 + q13.1) (m_yearsGood1 + q12)), kTown 5 13 v1, kLaws 13 (Laws_s_facts_stack v2 q11.2.2.2.2.1 q11.2.2.2.2.2), kLots 19 v3, kLives 22 5 v4, kLives 30 5 (Lives_s_purse_debt_home_hidden_self_worthThen_homeThen_away_days_homes_harm v5 q11.1 q11.2.1 q11.2.2.1 q13.2.1 q13.2.2.1 q10.2.1 q10.2.2.1 q13.2.2.2.1 q13.2.2.2.2.1 q13.2.2.2.2.2.1 q13.2.2.2.2.2.2)] : List (List zE)).flatten
        obtain ⟨q14, h15, hf⟩ := zbind hf
        refine AW.callS hZ hR hN (c_Arr_fill N 6 q13.2.1 0 q14 h15) zMJ7_fill_53178_ok rfl rfl zK_BorrowedLives_Forecast_179 zV_J7_fill_53178 rfl [34] rfl (by decide) (Or.inl rfl) (by decide) (by omega) (by decide) (Nat.zero_le _) (Nat.zero_le _) rfl rfl ?_
        rintro v cc ⟨rfl, rfl⟩ -
        show AW Z 0 0 143 [some (.ref 0), none, some (.int y2), some (.long q8), none, some (.int x5)] [] ([kForecast 0 5 19 22 30 (Forecast_s_yearsHarm_yearsGood v0 (m_yearsHarm0 + q13.1) (m_yearsGood1 + q12)), kTown 5 13 v1, kLaws 13 (Laws_s_facts_stack v2 q11.2.2.2.2.1 q11.2.2.2.2.2), kLots 19 v3, kLives 22 5 v4, kLives 30 5 (Lives_s_purse_debt_home_hidden_self_worthThen_homeThen_away_days_homes_harm v5 q11.1 q11.2.1 q11.2.2.1 q14 q13.2.2.1 q10.2.1 q10.2.2.1 q13.2.2.2.1 q13.2.2.2.2.1 q13.2.2.2.2.2.1 q13.2.2.2.2.2.2)] : List (List zE)).flatten
        refine AW.run hZ hRm [35] 400 ?_
        show AW Z 0 0 35 [some (.ref 0), none, some (.int y2), some (.long q8), none, some (.int (x5 + 1))] [] ([kForecast 0 5 19 22 30 (Forecast_s_yearsHarm_yearsGood v0 (m_yearsHarm0 + q13.1) (m_yearsGood1 + q12)), kTown 5 13 v1, kLaws 13 (Laws_s_facts_stack v2 q11.2.2.2.2.1 q11.2.2.2.2.2), kLots 19 v3, kLives 22 5 v4, kLives 30 5 (Lives_s_purse_debt_home_hidden_self_worthThen_homeThen_away_days_homes_harm v5 q11.1 q11.2.1 q11.2.2.1 q14 q13.2.2.1 q10.2.1 q10.2.2.1 q13.2.2.2.1 q13.2.2.2.2.1 q13.2.2.2.2.2.1 q13.2.2.2.2.2.2)] : List (List zE)).flatten
        exact ih v0 v1 v2 v3 v4 v5 y2 q8 (x5 + 1) (m_yearsHarm0 + q13.1) (m_yearsGood1 + q12) q11.2.2.2.2.1 q11.2.2.2.2.2 q11.1 q11.2.1 q11.2.2.1 q14 q13.2.2.1 q10.2.1 q10.2.2.1 q13.2.2.2.1 q13.2.2.2.2.1 q13.2.2.2.2.2.1 q13.2.2.2.2.2.2 q hf hk0
set_option maxRecDepth 20000 in
set_option maxHeartbeats 4000000 in
theorem c_Forecast_passYears (N : Nat) (v0 : VForecast) (v1 : VTown) (v2 : VLaws) (v3 : VLots) (v4 : VLives) (v5 : VLives) (a1 : Int32) (a2 : Int32) (R : Int32 × Int32 × Int32 × (Nat → Int32) × (Nat → Int32) × (Nat → Int32) × (Nat → Int32) × (Nat → Int32) × (Nat → Int32) × (Nat → Int32) × (Nat → Int32) × (Nat → Int32) × Int32 × Int32 × Int32 × Int32) (hf : f_Forecast_passYears N v0 v1 v2 v3 v4 v5 a1 a2 = some R) : Ct zMX1_passYears 10 0 0 0 [.ref 0, .int a1, .int a2] ([kForecast 0 5 19 22 30 v0, kTown 5 13 v1, kLaws 13 v2, kLots 19 v3, kLives 22 5 v4, kLives 30 5 v5] : List (List zE)).flatten (fun v cc => v = none ∧ cc = ([kForecast 0 5 19 22 30 (Forecast_s_yearsHarm_yearsGood_yearsPurses v0 R.1 R.2.1 R.2.2.1), kTown 5 13 v1, kLaws 13 (Laws_s_facts_stack v2 R.2.2.2.1 R.2.2.2.2.1), kLots 19 v3, kLives 22 5 v4, kLives 30 5 (Lives_s_purse_debt_home_hidden_self_worthThen_homeThen_away_days_homes_harm v5 R.2.2.2.2.2.1 R.2.2.2.2.2.2.1 R.2.2.2.2.2.2.2.1 R.2.2.2.2.2.2.2.2.1 R.2.2.2.2.2.2.2.2.2.1 R.2.2.2.2.2.2.2.2.2.2.1 R.2.2.2.2.2.2.2.2.2.2.2.1 R.2.2.2.2.2.2.2.2.2.2.2.2.1 R.2.2.2.2.2.2.2.2.2.2.2.2.2.1 R.2.2.2.2.2.2.2.2.2.2.2.2.2.2.1 R.2.2.2.2.2.2.2.2.2.2.2.2.2.2.2)] : List (List zE)).flatten) := by
  refine Ct.of zMX1_passYears_ok (by decide) (Nat.le_of_ble_eq_true rfl) ?_
  intro Z hZ hR hN hE
  have hRm : zRoom Z 0 0 := zRoom0 Z
  unfold f_Forecast_passYears at hf
  show AW Z 0 0 0 [some (.ref 0), some (.int a1), some (.int a2), none, none, none] [] ([kForecast 0 5 19 22 30 v0, kTown 5 13 v1, kLaws 13 v2, kLots 19 v3, kLives 22 5 v4, kLives 30 5 v5] : List (List zE)).flatten
  refine AW.run hZ hRm [21] 400 ?_
  show AW Z 0 0 21 [some (.ref 0), some (.int a1), some (.int a2), some (.long (Int32.toInt64 a1)), none, none] [.ref 22, .ref 30] ([kForecast 0 5 19 22 30 (Forecast_s_yearsHarm_yearsGood v0 0 0), kTown 5 13 v1, kLaws 13 v2, kLots 19 v3, kLives 22 5 v4, kLives 30 5 v5] : List (List zE)).flatten
  obtain ⟨q1, h28, hf⟩ := zbind hf
  refine AW.callVc hZ hR hN (c_Lives_copyFrom N v5 v1 v2 v4 q1 h28) zMX3_copyFrom_ok rfl rfl zK_BorrowedLives_Forecast_74 zV_X3_copyFrom rfl [5, 8, 6, 3, 8, 8] [5, 1, 2, 4] [30, 31, 32, 33, 34, 35, 36, 37, 5, 6, 7, 8, 9, 10, 11, 12, 13, 14, 15, 16, 17, 18, 22, 23, 24, 25, 26, 27, 28, 29] rfl rfl rfl (by decide) (by decide) (by omega) (by decide) (Nat.zero_le _) (Nat.zero_le _) rfl rfl rfl rfl rfl ?_
  rintro v cc ⟨rfl, rfl⟩
  refine ⟨_, rfl, rfl, ?_⟩
  show AW Z 0 0 24 [some (.ref 0), some (.int a1), some (.int a2), some (.long (Int32.toInt64 a1)), none, none] [] ([kForecast 0 5 19 22 30 (Forecast_s_yearsHarm_yearsGood v0 0 0), kTown 5 13 v1, kLaws 13 v2, kLots 19 v3, kLives 22 5 v4, kLives 30 5 (Lives_s_purse_debt_home_hidden_self_worthThen_homeThen_away_days_homes_harm v5 q1.1 q1.2.1 q1.2.2.1 q1.2.2.2.1 q1.2.2.2.2.1 q1.2.2.2.2.2.1 q1.2.2.2.2.2.2.1 q1.2.2.2.2.2.2.2.1 q1.2.2.2.2.2.2.2.2.1 q1.2.2.2.2.2.2.2.2.2.1 q1.2.2.2.2.2.2.2.2.2.2)] : List (List zE)).flatten
  refine AW.run hZ hRm [28] 400 ?_
  show AW Z 0 0 28 [some (.ref 0), some (.int a1), some (.int a2), some (.long (Int32.toInt64 a1)), none, none] [.ref 30] ([kForecast 0 5 19 22 30 (Forecast_s_yearsHarm_yearsGood v0 0 0), kTown 5 13 v1, kLaws 13 v2, kLots 19 v3, kLives 22 5 v4, kLives 30 5 (Lives_s_purse_debt_home_hidden_self_worthThen_homeThen_away_days_homes_harm v5 q1.1 q1.2.1 q1.2.2.1 q1.2.2.2.1 q1.2.2.2.2.1 q1.2.2.2.2.2.1 q1.2.2.2.2.2.2.1 q1.2.2.2.2.2.2.2.1 q1.2.2.2.2.2.2.2.2.1 q1.2.2.2.2.2.2.2.2.2.1 q1.2.2.2.2.2.2.2.2.2.2)] : List (List zE)).flatten
  obtain ⟨q2, h27, hf⟩ := zbind hf
  refine AW.callVc hZ hR hN (c_Lives_goHome N (Lives_s_purse_debt_home_hidden_self_worthThen_homeThen_away_days_homes_harm v5 q1.1 q1.2.1 q1.2.2.1 q1.2.2.2.1 q1.2.2.2.2.1 q1.2.2.2.2.2.1 q1.2.2.2.2.2.2.1 q1.2.2.2.2.2.2.2.1 q1.2.2.2.2.2.2.2.2.1 q1.2.2.2.2.2.2.2.2.2.1 q1.2.2.2.2.2.2.2.2.2.2) v1 v2 q2 h27) zMX3_goHome_ok rfl rfl zK_BorrowedLives_Forecast_162 zV_X3_goHome rfl [5, 8, 6, 3, 8, 8] [5, 1, 2] [30, 31, 32, 33, 34, 35, 36, 37, 5, 6, 7, 8, 9, 10, 11, 12, 13, 14, 15, 16, 17, 18] rfl rfl rfl (by decide) (by decide) (by omega) (by decide) (Nat.zero_le _) (Nat.zero_le _) rfl rfl rfl rfl rfl ?_
  rintro v cc ⟨rfl, rfl⟩
  refine ⟨_, rfl, rfl, ?_⟩
  show AW Z 0 0 31 [some (.ref 0), some (.int a1), some (.int a2), some (.long (Int32.toInt64 a1)), none, none] [.int q2.1] ([kForecast 0 5 19 22 30 (Forecast_s_yearsHarm_yearsGood v0 0 0), kTown 5 13 v1, kLaws 13 v2, kLots 19 v3, kLives 22 5 v4, kLives 30 5 (Lives_s_purse_debt_home_hidden_self_worthThen_homeThen_away_days_homes_harm v5 q1.1 q1.2.1 q1.2.2.1 q2.2.1 q2.2.2.1 q1.2.2.2.2.2.1 q1.2.2.2.2.2.2.1 q2.2.2.2.1 q2.2.2.2.2.1 q2.2.2.2.2.2.1 q2.2.2.2.2.2.2)] : List (List zE)).flatten
  refine AW.run hZ hRm [35] 400 ?_
  show AW Z 0 0 35 [some (.ref 0), some (.int a1), some (.int a2), some (.long (Int32.toInt64 a1)), none, some (.int 0)] [] ([kForecast 0 5 19 22 30 (Forecast_s_yearsHarm_yearsGood v0 0 0), kTown 5 13 v1, kLaws 13 v2, kLots 19 v3, kLives 22 5 v4, kLives 30 5 (Lives_s_purse_debt_home_hidden_self_worthThen_homeThen_away_days_homes_harm v5 q1.1 q1.2.1 q1.2.2.1 q2.2.1 q2.2.2.1 q1.2.2.2.2.2.1 q1.2.2.2.2.2.2.1 q2.2.2.2.1 q2.2.2.2.2.1 q2.2.2.2.2.2.1 q2.2.2.2.2.2.2)] : List (List zE)).flatten
  obtain ⟨q23, h24, hf⟩ := zbind hf
  refine AW.forget [true, false, true, true, false, true] ?_
  show AW Z 0 0 35 [some (.ref 0), none, some (.int a2), some (.long (Int32.toInt64 a1)), none, some (.int 0)] [] ([kForecast 0 5 19 22 30 (Forecast_s_yearsHarm_yearsGood v0 0 0), kTown 5 13 v1, kLaws 13 v2, kLots 19 v3, kLives 22 5 v4, kLives 30 5 (Lives_s_purse_debt_home_hidden_self_worthThen_homeThen_away_days_homes_harm v5 q1.1 q1.2.1 q1.2.2.1 q2.2.1 q2.2.2.1 q1.2.2.2.2.2.1 q1.2.2.2.2.2.2.1 q2.2.2.2.1 q2.2.2.2.2.1 q2.2.2.2.2.2.1 q2.2.2.2.2.2.2)] : List (List zE)).flatten
  refine c_Forecast_passYears_L35 hZ hR (by omega) hN hRm N N (Forecast_s_yearsHarm_yearsGood v0 0 0) v1 v2 v3 v4 (Lives_s_purse_debt_home_hidden_self_worthThen_homeThen_away_days_homes_harm v5 q1.1 q1.2.1 q1.2.2.1 q2.2.1 q2.2.2.1 q1.2.2.2.2.2.1 q1.2.2.2.2.2.2.1 q2.2.2.2.1 q2.2.2.2.2.1 q2.2.2.2.2.2.1 q2.2.2.2.2.2.2) a2 (Int32.toInt64 a1) 0 0 0 (Laws_facts v2) (Laws_stack v2) q1.1 q1.2.1 q1.2.2.1 q2.2.1 q2.2.2.1 q1.2.2.2.2.2.1 q1.2.2.2.2.2.2.1 q2.2.2.2.1 q2.2.2.2.2.1 q2.2.2.2.2.2.1 q2.2.2.2.2.2.2 q23 h24 ?_
  show AW Z 0 0 149 [some (.ref 0), none, none, none, none, none] [] ([kForecast 0 5 19 22 30 (Forecast_s_yearsHarm_yearsGood v0 q23.1 q23.2.1), kTown 5 13 v1, kLaws 13 (Laws_s_facts_stack v2 q23.2.2.1 q23.2.2.2.1), kLots 19 v3, kLives 22 5 v4, kLives 30 5 (Lives_s_purse_debt_home_hidden_self_worthThen_homeThen_away_days_homes_harm v5 q23.2.2.2.2.1 q23.2.2.2.2.2.1 q23.2.2.2.2.2.2.1 q23.2.2.2.2.2.2.2.1 q23.2.2.2.2.2.2.2.2.1 q23.2.2.2.2.2.2.2.2.2.1 q23.2.2.2.2.2.2.2.2.2.2.1 q23.2.2.2.2.2.2.2.2.2.2.2.1 q23.2.2.2.2.2.2.2.2.2.2.2.2.1 q23.2.2.2.2.2.2.2.2.2.2.2.2.2.1 q23.2.2.2.2.2.2.2.2.2.2.2.2.2.2)] : List (List zE)).flatten
  refine AW.run hZ hRm [161] 400 ?_
  show AW Z 0 0 161 [some (.ref 0), none, none, none, none, none] [.ref 31, .ref 30, .ref 0] ([kForecast 0 5 19 22 30 (Forecast_s_yearsHarm_yearsGood v0 q23.1 q23.2.1), kTown 5 13 v1, kLaws 13 (Laws_s_facts_stack v2 q23.2.2.1 q23.2.2.2.1), kLots 19 v3, kLives 22 5 v4, kLives 30 5 (Lives_s_purse_debt_home_hidden_self_worthThen_homeThen_away_days_homes_harm v5 q23.2.2.2.2.1 q23.2.2.2.2.2.1 q23.2.2.2.2.2.2.1 q23.2.2.2.2.2.2.2.1 q23.2.2.2.2.2.2.2.2.1 q23.2.2.2.2.2.2.2.2.2.1 q23.2.2.2.2.2.2.2.2.2.2.1 q23.2.2.2.2.2.2.2.2.2.2.2.1 q23.2.2.2.2.2.2.2.2.2.2.2.2.1 q23.2.2.2.2.2.2.2.2.2.2.2.2.2.1 q23.2.2.2.2.2.2.2.2.2.2.2.2.2.2)] : List (List zE)).flatten
  obtain ⟨q25, h26, hf⟩ := zbind hf
  refine AW.callVc hZ hR hN (c_Lives_sumOf_purse N (Lives_s_purse_debt_home_hidden_self_worthThen_homeThen_away_days_homes_harm v5 q23.2.2.2.2.1 q23.2.2.2.2.2.1 q23.2.2.2.2.2.2.1 q23.2.2.2.2.2.2.2.1 q23.2.2.2.2.2.2.2.2.1 q23.2.2.2.2.2.2.2.2.2.1 q23.2.2.2.2.2.2.2.2.2.2.1 q23.2.2.2.2.2.2.2.2.2.2.2.1 q23.2.2.2.2.2.2.2.2.2.2.2.2.1 q23.2.2.2.2.2.2.2.2.2.2.2.2.2.1 q23.2.2.2.2.2.2.2.2.2.2.2.2.2.2) v1 (Laws_s_facts_stack v2 q23.2.2.1 q23.2.2.2.1) q25 h26) zMX3_sumOf_ok rfl rfl zK_BorrowedLives_Forecast_185 zV_X3_sumOf rfl [5, 8, 6, 3, 8, 8] [5, 1, 2] [30, 31, 32, 33, 34, 35, 36, 37, 5, 6, 7, 8, 9, 10, 11, 12, 13, 14, 15, 16, 17, 18] rfl rfl rfl (by decide) (by decide) (by omega) (by decide) (Nat.zero_le _) (Nat.zero_le _) rfl rfl rfl rfl rfl ?_
  rintro v cc ⟨rfl, rfl⟩
  refine ⟨_, rfl, rfl, ?_⟩
  show AW Z 0 0 164 [some (.ref 0), none, none, none, none, none] [.int q25, .ref 0] ([kForecast 0 5 19 22 30 (Forecast_s_yearsHarm_yearsGood v0 q23.1 q23.2.1), kTown 5 13 v1, kLaws 13 (Laws_s_facts_stack v2 q23.2.2.1 q23.2.2.2.1), kLots 19 v3, kLives 22 5 v4, kLives 30 5 (Lives_s_purse_debt_home_hidden_self_worthThen_homeThen_away_days_homes_harm v5 q23.2.2.2.2.1 q23.2.2.2.2.2.1 q23.2.2.2.2.2.2.1 q23.2.2.2.2.2.2.2.1 q23.2.2.2.2.2.2.2.2.1 q23.2.2.2.2.2.2.2.2.2.1 q23.2.2.2.2.2.2.2.2.2.2.1 q23.2.2.2.2.2.2.2.2.2.2.2.1 q23.2.2.2.2.2.2.2.2.2.2.2.2.1 q23.2.2.2.2.2.2.2.2.2.2.2.2.2.1 q23.2.2.2.2.2.2.2.2.2.2.2.2.2.2)] : List (List zE)).flatten
  refine AW.run hZ hRm [167] 400 ?_
  show AW Z 0 0 167 [some (.ref 0), none, none, none, none, none] [] ([kForecast 0 5 19 22 30 (Forecast_s_yearsHarm_yearsGood_yearsPurses v0 q23.1 q23.2.1 q25), kTown 5 13 v1, kLaws 13 (Laws_s_facts_stack v2 q23.2.2.1 q23.2.2.2.1), kLots 19 v3, kLives 22 5 v4, kLives 30 5 (Lives_s_purse_debt_home_hidden_self_worthThen_homeThen_away_days_homes_harm v5 q23.2.2.2.2.1 q23.2.2.2.2.2.1 q23.2.2.2.2.2.2.1 q23.2.2.2.2.2.2.2.1 q23.2.2.2.2.2.2.2.2.1 q23.2.2.2.2.2.2.2.2.2.1 q23.2.2.2.2.2.2.2.2.2.2.1 q23.2.2.2.2.2.2.2.2.2.2.2.1 q23.2.2.2.2.2.2.2.2.2.2.2.2.1 q23.2.2.2.2.2.2.2.2.2.2.2.2.2.1 q23.2.2.2.2.2.2.2.2.2.2.2.2.2.2)] : List (List zE)).flatten
  cases hf
  exact AW.vret hZ hE rfl rfl rfl (Nat.le_refl 0) (Nat.le_refl 0) rfl ⟨rfl, rfl⟩
def f_Laws_clear (N : Nat) (v0 : VLaws) : Option (Int32 × (Nat → Int32) × (Nat → Int32)) := ((f_Arr_fill N 4 (Laws_from v0) 0).bind (fun q1 => ((f_Arr_fill N 4 (Laws_to v0) 0).bind (fun q2 => (some (0, q1, q2))))))
set_option maxRecDepth 20000 in
set_option maxHeartbeats 4000000 in
theorem c_Laws_clear (N : Nat) (v0 : VLaws) (R : Int32 × (Nat → Int32) × (Nat → Int32)) (hf : f_Laws_clear N v0 = some R) : Ct zMX2_clear 10 0 0 0 [.ref 0] ([kLaws 0 v0] : List (List zE)).flatten (fun v cc => v = none ∧ cc = ([kLaws 0 (Laws_s_size_from_to v0 R.1 R.2.1 R.2.2)] : List (List zE)).flatten) := by
  refine Ct.of zMX2_clear_ok (by decide) (Nat.le_of_ble_eq_true rfl) ?_
  intro Z hZ hR hN hE
  have hRm : zRoom Z 0 0 := zRoom0 Z
  unfold f_Laws_clear at hf
  show AW Z 0 0 0 [some (.ref 0)] [] ([kLaws 0 v0] : List (List zE)).flatten
  refine AW.run hZ hRm [10] 400 ?_
  show AW Z 0 0 10 [some (.ref 0)] [.int 0, .ref 2] ([kLaws 0 (Laws_size_s v0 0)] : List (List zE)).flatten
  obtain ⟨q1, h4, hf⟩ := zbind hf
  refine AW.callS hZ hR hN (c_Arr_fill N 4 (Laws_from v0) 0 q1 h4) zMJ7_fill_53178_ok rfl rfl zK_BorrowedLives_Laws_31 zV_J7_fill_53178 rfl [2] rfl (by decide) (Or.inl rfl) (by decide) (by omega) (by decide) (Nat.zero_le _) (Nat.zero_le _) rfl rfl ?_
  rintro v cc ⟨rfl, rfl⟩ -
  show AW Z 0 0 13 [some (.ref 0)] [] ([kLaws 0 (Laws_s_size_from v0 0 q1)] : List (List zE)).flatten
  refine AW.run hZ hRm [18] 400 ?_
  show AW Z 0 0 18 [some (.ref 0)] [.int 0, .ref 3] ([kLaws 0 (Laws_s_size_from v0 0 q1)] : List (List zE)).flatten
  obtain ⟨q2, h3, hf⟩ := zbind hf
  refine AW.callS hZ hR hN (c_Arr_fill N 4 (Laws_to v0) 0 q2 h3) zMJ7_fill_53178_ok rfl rfl zK_BorrowedLives_Laws_31 zV_J7_fill_53178 rfl [3] rfl (by decide) (Or.inl rfl) (by decide) (by omega) (by decide) (Nat.zero_le _) (Nat.zero_le _) rfl rfl ?_
  rintro v cc ⟨rfl, rfl⟩ -
  show AW Z 0 0 21 [some (.ref 0)] [] ([kLaws 0 (Laws_s_size_from_to v0 0 q1 q2)] : List (List zE)).flatten
  cases hf
  exact AW.vret hZ hE rfl rfl rfl (Nat.le_refl 0) (Nat.le_refl 0) rfl ⟨rfl, rfl⟩
def f_Laws_copyFrom (N : Nat) (v0 : VLaws) (v1 : VLaws) : Option ((Nat → Int32) × Int32 × (Nat → Int32) × (Nat → Int32)) := (some ((va_cpy (Laws_codes v1) (Laws_codes v0) (Int32.toNatClampNeg 0) (Int32.toNatClampNeg 0) (Int32.toNatClampNeg 1000)), (Laws_size v1), (va_cpy (Laws_from v1) (Laws_from v0) (Int32.toNatClampNeg 0) (Int32.toNatClampNeg 0) (Int32.toNatClampNeg 4)), (va_cpy (Laws_to v1) (Laws_to v0) (Int32.toNatClampNeg 0) (Int32.toNatClampNeg 0) (Int32.toNatClampNeg 4))))
set_option maxRecDepth 20000 in
set_option maxHeartbeats 4000000 in
theorem c_Laws_copyFrom (N : Nat) (v0 : VLaws) (v1 : VLaws) (R : (Nat → Int32) × Int32 × (Nat → Int32) × (Nat → Int32)) (hf : f_Laws_copyFrom N v0 v1 = some R) : Ct zMX2_copyFrom 2 0 0 0 [.ref 0, .ref 6] ([kLaws 0 v0, kLaws 6 v1] : List (List zE)).flatten (fun v cc => v = none ∧ cc = ([kLaws 0 (Laws_s_codes_size_from_to v0 R.1 R.2.1 R.2.2.1 R.2.2.2), kLaws 6 v1] : List (List zE)).flatten) := by
  refine Ct.of zMX2_copyFrom_ok (by decide) (Nat.le_of_ble_eq_true rfl) ?_
  intro Z hZ hR hN hE
  have hRm : zRoom Z 0 0 := zRoom0 Z
  unfold f_Laws_copyFrom at hf
  show AW Z 0 0 0 [some (.ref 0), some (.ref 6)] [] ([kLaws 0 v0, kLaws 6 v1] : List (List zE)).flatten
  refine AW.run hZ hRm [54] 400 ?_
  show ((zcpyOk 0 0 1000 1000 1000) ∧ ((zcpyOk 0 0 4 4 4) ∧ ((zcpyOk 0 0 4 4 4) ∧ AW Z 0 0 54 [some (.ref 0), some (.ref 6)] [] ([kLaws 0 (Laws_s_codes_size_from_to v0 (va_cpy (Laws_codes v1) (Laws_codes v0) (Int32.toNatClampNeg 0) (Int32.toNatClampNeg 0) (Int32.toNatClampNeg 1000)) (Laws_size v1) (va_cpy (Laws_from v1) (Laws_from v0) (Int32.toNatClampNeg 0) (Int32.toNatClampNeg 0) (Int32.toNatClampNeg 4)) (va_cpy (Laws_to v1) (Laws_to v0) (Int32.toNatClampNeg 0) (Int32.toNatClampNeg 0) (Int32.toNatClampNeg 4))), kLaws 6 v1] : List (List zE)).flatten)))
  refine ⟨(by unfold zcpyOk; decide), ?_⟩
  refine ⟨(by unfold zcpyOk; decide), ?_⟩
  refine ⟨(by unfold zcpyOk; decide), ?_⟩
  cases hf
  exact AW.vret hZ hE rfl rfl rfl (Nat.le_refl 0) (Nat.le_refl 0) rfl ⟨rfl, rfl⟩
def f_Laws_addCode (N : Nat) (v0 : VLaws) (a1 : Int32) : Option ((Nat → Int32) × Int32) := (if (1000 ≤ (Laws_size v0)) then (some ((Laws_codes v0), (Laws_size v0))) else (if ((Laws_size v0) < 0 ∨ 1000 ≤ Int32.toNatClampNeg (Laws_size v0)) then none else (some ((upd (Laws_codes v0) (Int32.toNatClampNeg (Laws_size v0)) a1), ((Laws_size v0) + 1)))))
set_option maxRecDepth 20000 in
set_option maxHeartbeats 4000000 in
theorem c_Laws_addCode (N : Nat) (v0 : VLaws) (a1 : Int32) (R : (Nat → Int32) × Int32) (hf : f_Laws_addCode N v0 a1 = some R) : Ct zMX2_addCode 1 0 0 0 [.ref 0, .int a1] ([kLaws 0 v0] : List (List zE)).flatten (fun v cc => v = none ∧ cc = ([kLaws 0 (Laws_s_codes_size v0 R.1 R.2)] : List (List zE)).flatten) := by
  refine Ct.of zMX2_addCode_ok (by decide) (Nat.le_of_ble_eq_true rfl) ?_
  intro Z hZ hR hN hE
  have hRm : zRoom Z 0 0 := zRoom0 Z
  unfold f_Laws_addCode at hf
  show AW Z 0 0 0 [some (.ref 0), some (.int a1)] [] ([kLaws 0 v0] : List (List zE)).flatten
  refine AW.run hZ hRm [32] 400 ?_
  show (((1000 ≤ (Laws_size v0)) → AW Z 0 0 32 [some (.ref 0), some (.int a1)] [] ([kLaws 0 v0] : List (List zE)).flatten) ∧ (¬ (1000 ≤ (Laws_size v0)) → (¬ ((Laws_size v0) < 0 ∨ 1000 ≤ Int32.toNatClampNeg (Laws_size v0)) ∧ AW Z 0 0 32 [some (.ref 0), some (.int a1)] [] ([kLaws 0 (Laws_s_codes_size v0 (upd (Laws_codes v0) (Int32.toNatClampNeg (Laws_size v0)) a1) ((Laws_size v0) + 1))] : List (List zE)).flatten)))
  refine ⟨fun c1 => ?_, fun c1 => ?_⟩
  · rw [if_pos c1] at hf
    cases hf
    exact AW.vret hZ hE rfl rfl rfl (Nat.le_refl 0) (Nat.le_refl 0) rfl ⟨rfl, rfl⟩
  · rw [if_neg c1] at hf
    obtain ⟨b2, hf⟩ := zneed hf
    refine ⟨b2, ?_⟩
    cases hf
    exact AW.vret hZ hE rfl rfl rfl (Nat.le_refl 0) (Nat.le_refl 0) rfl ⟨rfl, rfl⟩
def f_Laws_addLaw (N : Nat) (v0 : VLaws) (a1 : Int32) (a2 : Int32) : Option ((Nat → Int32) × (Nat → Int32)) := (if (a1 < 0) then (some ((Laws_from v0), (Laws_to v0))) else (if (4 ≤ a1) then (some ((Laws_from v0), (Laws_to v0))) else (if (a1 < 0 ∨ 4 ≤ Int32.toNatClampNeg a1) then none else (if (a1 < 0 ∨ 4 ≤ Int32.toNatClampNeg a1) then none else (some ((upd (Laws_from v0) (Int32.toNatClampNeg a1) a2), (upd (Laws_to v0) (Int32.toNatClampNeg a1) (Laws_size v0))))))))
set_option maxRecDepth 20000 in
set_option maxHeartbeats 4000000 in
theorem c_Laws_addLaw (N : Nat) (v0 : VLaws) (a1 : Int32) (a2 : Int32) (R : (Nat → Int32) × (Nat → Int32)) (hf : f_Laws_addLaw N v0 a1 a2 = some R) : Ct zMX2_addLaw 1 0 0 0 [.ref 0, .int a1, .int a2] ([kLaws 0 v0] : List (List zE)).flatten (fun v cc => v = none ∧ cc = ([kLaws 0 (Laws_s_from_to v0 R.1 R.2)] : List (List zE)).flatten) := by
  refine Ct.of zMX2_addLaw_ok (by decide) (Nat.le_of_ble_eq_true rfl) ?_
  intro Z hZ hR hN hE
  have hRm : zRoom Z 0 0 := zRoom0 Z
  unfold f_Laws_addLaw at hf
  show AW Z 0 0 0 [some (.ref 0), some (.int a1), some (.int a2)] [] ([kLaws 0 v0] : List (List zE)).flatten
  refine AW.run hZ hRm [26] 400 ?_
  show (((a1 < 0) → AW Z 0 0 26 [some (.ref 0), some (.int a1), some (.int a2)] [] ([kLaws 0 v0] : List (List zE)).flatten) ∧ (¬ (a1 < 0) → (((4 ≤ a1) → AW Z 0 0 26 [some (.ref 0), some (.int a1), some (.int a2)] [] ([kLaws 0 v0] : List (List zE)).flatten) ∧ (¬ (4 ≤ a1) → (¬ (a1 < 0 ∨ 4 ≤ Int32.toNatClampNeg a1) ∧ (¬ (a1 < 0 ∨ 4 ≤ Int32.toNatClampNeg a1) ∧ AW Z 0 0 26 [some (.ref 0), some (.int a1), some (.int a2)] [] ([kLaws 0 (Laws_s_from_to v0 (upd (Laws_from v0) (Int32.toNatClampNeg a1) a2) (upd (Laws_to v0) (Int32.toNatClampNeg a1) (Laws_size v0)))] : List (List zE)).flatten))))))
  refine ⟨fun c1 => ?_, fun c1 => ?_⟩
  · rw [if_pos c1] at hf
    cases hf
    exact AW.vret hZ hE rfl rfl rfl (Nat.le_refl 0) (Nat.le_refl 0) rfl ⟨rfl, rfl⟩
  · rw [if_neg c1] at hf
    refine ⟨fun c2 => ?_, fun c2 => ?_⟩
    · rw [if_pos c2] at hf
      cases hf
      exact AW.vret hZ hE rfl rfl rfl (Nat.le_refl 0) (Nat.le_refl 0) rfl ⟨rfl, rfl⟩
    · rw [if_neg c2] at hf
      obtain ⟨b4, hf⟩ := zneed hf
      refine ⟨b4, ?_⟩
      obtain ⟨b3, hf⟩ := zneed hf
      refine ⟨b3, ?_⟩
      cases hf
      exact AW.vret hZ hE rfl rfl rfl (Nat.le_refl 0) (Nat.le_refl 0) rfl ⟨rfl, rfl⟩
