def f_Tape_addBytes_L3 (N : Nat) : Nat → VTape → Int64 → Int32 → (Nat → Int32) → Int32 → Option ((Nat → Int32) × Int32)
  | 0, _, _, _, _, _ => none
  | fuel + 1, v0, y1, x3, m_signs0, m_length1 => (if (x3 < 0) then (some (m_signs0, m_length1)) else (if ((Int64.toInt32 (((Int64.toUInt64 y1 >>> ((Int32.toInt64 x3).toUInt64 &&& Int64.toUInt64 63)).toInt64) &&& 255)) = 10) then (if (1000 ≤ m_length1) then (f_Tape_addBytes_L3 N fuel v0 y1 (x3 + (-8)) m_signs0 m_length1) else (if (m_length1 < 0 ∨ 1000 ≤ Int32.toNatClampNeg m_length1) then none else (f_Tape_addBytes_L3 N fuel v0 y1 (x3 + (-8)) (upd m_signs0 (Int32.toNatClampNeg m_length1) (vp_nar .char ((Int32.toUInt32 (Int64.toInt32 (((Int64.toUInt64 y1 >>> ((Int32.toInt64 x3).toUInt64 &&& Int64.toUInt64 63)).toInt64) &&& 255)) % 65536).toInt32))) (m_length1 + 1)))) else (if ((Int64.toInt32 (((Int64.toUInt64 y1 >>> ((Int32.toInt64 x3).toUInt64 &&& Int64.toUInt64 63)).toInt64) &&& 255)) < 32) then (f_Tape_addBytes_L3 N fuel v0 y1 (x3 + (-8)) m_signs0 m_length1) else (if (126 < (Int64.toInt32 (((Int64.toUInt64 y1 >>> ((Int32.toInt64 x3).toUInt64 &&& Int64.toUInt64 63)).toInt64) &&& 255))) then (f_Tape_addBytes_L3 N fuel v0 y1 (x3 + (-8)) m_signs0 m_length1) else (if (1000 ≤ m_length1) then (f_Tape_addBytes_L3 N fuel v0 y1 (x3 + (-8)) m_signs0 m_length1) else (if (m_length1 < 0 ∨ 1000 ≤ Int32.toNatClampNeg m_length1) then none else (f_Tape_addBytes_L3 N fuel v0 y1 (x3 + (-8)) (upd m_signs0 (Int32.toNatClampNeg m_length1) (vp_nar .char ((Int32.toUInt32 (Int64.toInt32 (((Int64.toUInt64 y1 >>> ((Int32.toInt64 x3).toUInt64 &&& Int64.toUInt64 63)).toInt64) &&& 255)) % 65536).toInt32))) (m_length1 + 1))))))))
def f_Tape_addBytes (N : Nat) (v0 : VTape) (a1 : Int64) : Option ((Nat → Int32) × Int32) := ((f_Tape_addBytes_L3 N N v0 a1 56 (Tape_signs v0) (Tape_length v0)).bind (fun q9 => (some (q9.1, q9.2))))
set_option maxRecDepth 20000 in
set_option maxHeartbeats 4000000 in
theorem c_Tape_addBytes_L3 {Z : zCtx} {D n0w nf mcw msw : Nat} (hZ : zOk Z zMX7_addBytes) (hR : zCan Z D mcw msw) (hDd : 1 ≤ D) (hN : zNew Z n0w nf) (hRm : zRoom Z 0 0) (N : Nat) : ∀ (fuel : Nat) (v0 : VTape) (y1 : Int64) (x3 : Int32) (m_signs0 : (Nat → Int32)) (m_length1 : Int32) (q : ((Nat → Int32) × Int32)), f_Tape_addBytes_L3 N fuel v0 y1 x3 m_signs0 m_length1 = some q → (AW Z 0 0 76 [none, none, none, none, none] [] ([kTape 0 (Tape_s_signs_length v0 q.1 q.2)] : List (List zE)).flatten) → AW Z 0 0 3 [some (.ref 0), some (.long y1), none, some (.int x3), none] [] ([kTape 0 (Tape_s_signs_length v0 m_signs0 m_length1)] : List (List zE)).flatten := by
  intro fuel
  induction fuel with
  | zero =>
    intro v0 y1 x3 m_signs0 m_length1 q hf hk0
    simp [f_Tape_addBytes_L3] at hf
  | succ fuel ih =>
    intro v0 y1 x3 m_signs0 m_length1 q hf hk0
    rw [f_Tape_addBytes_L3] at hf
    refine AW.run hZ hRm [3, 76] 400 ?_
    show (((x3 < 0) → AW Z 0 0 76 [some (.ref 0), some (.long y1), none, some (.int x3), none] [] ([kTape 0 (Tape_s_signs_length v0 m_signs0 m_length1)] : List (List zE)).flatten) ∧ (¬ (x3 < 0) → ((((Int64.toInt32 (((Int64.toUInt64 y1 >>> ((Int32.toInt64 x3).toUInt64 &&& Int64.toUInt64 63)).toInt64) &&& 255)) = 10) → (((1000 ≤ m_length1) → AW Z 0 0 3 [some (.ref 0), some (.long y1), none, some (.int (x3 + (-8))), some (.int (Int64.toInt32 (((Int64.toUInt64 y1 >>> ((Int32.toInt64 x3).toUInt64 &&& Int64.toUInt64 63)).toInt64) &&& 255)))] [] ([kTape 0 (Tape_s_signs_length v0 m_signs0 m_length1)] : List (List zE)).flatten) ∧ (¬ (1000 ≤ m_length1) → (¬ (m_length1 < 0 ∨ 1000 ≤ Int32.toNatClampNeg m_length1) ∧ AW Z 0 0 3 [some (.ref 0), some (.long y1), none, some (.int (x3 + (-8))), some (.int (Int64.toInt32 (((Int64.toUInt64 y1 >>> ((Int32.toInt64 x3).toUInt64 &&& Int64.toUInt64 63)).toInt64) &&& 255)))] [] ([kTape 0 (Tape_s_signs_length v0 (upd m_signs0 (Int32.toNatClampNeg m_length1) (vp_nar .char ((Int32.toUInt32 (Int64.toInt32 (((Int64.toUInt64 y1 >>> ((Int32.toInt64 x3).toUInt64 &&& Int64.toUInt64 63)).toInt64) &&& 255)) % 65536).toInt32))) (m_length1 + 1))] : List (List zE)).flatten)))) ∧ (¬ ((Int64.toInt32 (((Int64.toUInt64 y1 >>> ((Int32.toInt64 x3).toUInt64 &&& Int64.toUInt64 63)).toInt64) &&& 255)) = 10) → ((((Int64.toInt32 (((Int64.toUInt64 y1 >>> ((Int32.toInt64 x3).toUInt64 &&& Int64.toUInt64 63)).toInt64) &&& 255)) < 32) → AW Z 0 0 3 [some (.ref 0), some (.long y1), none, some (.int (x3 + (-8))), some (.int (Int64.toInt32 (((Int64.toUInt64 y1 >>> ((Int32.toInt64 x3).toUInt64 &&& Int64.toUInt64 63)).toInt64) &&& 255)))] [] ([kTape 0 (Tape_s_signs_length v0 m_signs0 m_length1)] : List (List zE)).flatten) ∧ (¬ ((Int64.toInt32 (((Int64.toUInt64 y1 >>> ((Int32.toInt64 x3).toUInt64 &&& Int64.toUInt64 63)).toInt64) &&& 255)) < 32) → (((126 < (Int64.toInt32 (((Int64.toUInt64 y1 >>> ((Int32.toInt64 x3).toUInt64 &&& Int64.toUInt64 63)).toInt64) &&& 255))) → AW Z 0 0 3 [some (.ref 0), some (.long y1), none, some (.int (x3 + (-8))), some (.int (Int64.toInt32 (((Int64.toUInt64 y1 >>> ((Int32.toInt64 x3).toUInt64 &&& Int64.toUInt64 63)).toInt64) &&& 255)))] [] ([kTape 0 (Tape_s_signs_length v0 m_signs0 m_length1)] : List (List zE)).flatten) ∧ (¬ (126 < (Int64.toInt32 (((Int64.toUInt64 y1 >>> ((Int32.toInt64 x3).toUInt64 &&& Int64.toUInt64 63)).toInt64) &&& 255))) → (((1000 ≤ m_length1) → AW Z 0 0 3 [some (.ref 0), some (.long y1), none, some (.int (x3 + (-8))), some (.int (Int64.toInt32 (((Int64.toUInt64 y1 >>> ((Int32.toInt64 x3).toUInt64 &&& Int64.toUInt64 63)).toInt64) &&& 255)))] [] ([kTape 0 (Tape_s_signs_length v0 m_signs0 m_length1)] : List (List zE)).flatten) ∧ (¬ (1000 ≤ m_length1) → (¬ (m_length1 < 0 ∨ 1000 ≤ Int32.toNatClampNeg m_length1) ∧ AW Z 0 0 3 [some (.ref 0), some (.long y1), none, some (.int (x3 + (-8))), some (.int (Int64.toInt32 (((Int64.toUInt64 y1 >>> ((Int32.toInt64 x3).toUInt64 &&& Int64.toUInt64 63)).toInt64) &&& 255)))] [] ([kTape 0 (Tape_s_signs_length v0 (upd m_signs0 (Int32.toNatClampNeg m_length1) (vp_nar .char ((Int32.toUInt32 (Int64.toInt32 (((Int64.toUInt64 y1 >>> ((Int32.toInt64 x3).toUInt64 &&& Int64.toUInt64 63)).toInt64) &&& 255)) % 65536).toInt32))) (m_length1 + 1))] : List (List zE)).flatten)))))))))))
    refine ⟨fun c1 => ?_, fun c1 => ?_⟩
    · rw [if_pos c1] at hf
      cases hf
      refine AW.forget [false, false, false, false, false] ?_
      show AW Z 0 0 76 [none, none, none, none, none] [] ([kTape 0 (Tape_s_signs_length v0 m_signs0 m_length1)] : List (List zE)).flatten
      exact hk0
    · rw [if_neg c1] at hf
      refine ⟨fun c2 => ?_, fun c2 => ?_⟩
      · rw [if_pos c2] at hf
        refine ⟨fun c3 => ?_, fun c3 => ?_⟩
        · rw [if_pos c3] at hf
          refine AW.forget [true, true, false, true, false] ?_
          show AW Z 0 0 3 [some (.ref 0), some (.long y1), none, some (.int (x3 + (-8))), none] [] ([kTape 0 (Tape_s_signs_length v0 m_signs0 m_length1)] : List (List zE)).flatten
          exact ih v0 y1 (x3 + (-8)) m_signs0 m_length1 q hf hk0
        · rw [if_neg c3] at hf
          obtain ⟨b4, hf⟩ := zneed hf
          refine ⟨b4, ?_⟩
          refine AW.forget [true, true, false, true, false] ?_
          show AW Z 0 0 3 [some (.ref 0), some (.long y1), none, some (.int (x3 + (-8))), none] [] ([kTape 0 (Tape_s_signs_length v0 (upd m_signs0 (Int32.toNatClampNeg m_length1) (vp_nar .char ((Int32.toUInt32 (Int64.toInt32 (((Int64.toUInt64 y1 >>> ((Int32.toInt64 x3).toUInt64 &&& Int64.toUInt64 63)).toInt64) &&& 255)) % 65536).toInt32))) (m_length1 + 1))] : List (List zE)).flatten
          exact ih v0 y1 (x3 + (-8)) (upd m_signs0 (Int32.toNatClampNeg m_length1) (vp_nar .char ((Int32.toUInt32 (Int64.toInt32 (((Int64.toUInt64 y1 >>> ((Int32.toInt64 x3).toUInt64 &&& Int64.toUInt64 63)).toInt64) &&& 255)) % 65536).toInt32))) (m_length1 + 1) q hf hk0
      · rw [if_neg c2] at hf
        refine ⟨fun c5 => ?_, fun c5 => ?_⟩
        · rw [if_pos c5] at hf
          refine AW.forget [true, true, false, true, false] ?_
          show AW Z 0 0 3 [some (.ref 0), some (.long y1), none, some (.int (x3 + (-8))), none] [] ([kTape 0 (Tape_s_signs_length v0 m_signs0 m_length1)] : List (List zE)).flatten
          exact ih v0 y1 (x3 + (-8)) m_signs0 m_length1 q hf hk0
        · rw [if_neg c5] at hf
          refine ⟨fun c6 => ?_, fun c6 => ?_⟩
          · rw [if_pos c6] at hf
            refine AW.forget [true, true, false, true, false] ?_
            show AW Z 0 0 3 [some (.ref 0), some (.long y1), none, some (.int (x3 + (-8))), none] [] ([kTape 0 (Tape_s_signs_length v0 m_signs0 m_length1)] : List (List zE)).flatten
            exact ih v0 y1 (x3 + (-8)) m_signs0 m_length1 q hf hk0
          · rw [if_neg c6] at hf
            refine ⟨fun c7 => ?_, fun c7 => ?_⟩
            · rw [if_pos c7] at hf
              refine AW.forget [true, true, false, true, false] ?_
              show AW Z 0 0 3 [some (.ref 0), some (.long y1), none, some (.int (x3 + (-8))), none] [] ([kTape 0 (Tape_s_signs_length v0 m_signs0 m_length1)] : List (List zE)).flatten
              exact ih v0 y1 (x3 + (-8)) m_signs0 m_length1 q hf hk0
            · rw [if_neg c7] at hf
              obtain ⟨b8, hf⟩ := zneed hf
              refine ⟨b8, ?_⟩
              refine AW.forget [true, true, false, true, false] ?_
              show AW Z 0 0 3 [some (.ref 0), some (.long y1), none, some (.int (x3 + (-8))), none] [] ([kTape 0 (Tape_s_signs_length v0 (upd m_signs0 (Int32.toNatClampNeg m_length1) (vp_nar .char ((Int32.toUInt32 (Int64.toInt32 (((Int64.toUInt64 y1 >>> ((Int32.toInt64 x3).toUInt64 &&& Int64.toUInt64 63)).toInt64) &&& 255)) % 65536).toInt32))) (m_length1 + 1))] : List (List zE)).flatten
              exact ih v0 y1 (x3 + (-8)) (upd m_signs0 (Int32.toNatClampNeg m_length1) (vp_nar .char ((Int32.toUInt32 (Int64.toInt32 (((Int64.toUInt64 y1 >>> ((Int32.toInt64 x3).toUInt64 &&& Int64.toUInt64 63)).toInt64) &&& 255)) % 65536).toInt32))) (m_length1 + 1) q hf hk0
set_option maxRecDepth 20000 in
set_option maxHeartbeats 4000000 in
theorem c_Tape_addBytes (N : Nat) (v0 : VTape) (a1 : Int64) (R : (Nat → Int32) × Int32) (hf : f_Tape_addBytes N v0 a1 = some R) : Ct zMX7_addBytes 1 0 0 0 [.ref 0, .long a1] ([kTape 0 v0] : List (List zE)).flatten (fun v cc => v = none ∧ cc = ([kTape 0 (Tape_s_signs_length v0 R.1 R.2)] : List (List zE)).flatten) := by
  refine Ct.of zMX7_addBytes_ok (by decide) (Nat.le_of_ble_eq_true rfl) ?_
  intro Z hZ hR hN hE
  have hRm : zRoom Z 0 0 := zRoom0 Z
  unfold f_Tape_addBytes at hf
  show AW Z 0 0 0 [some (.ref 0), some (.long a1), none, none, none] [] ([kTape 0 v0] : List (List zE)).flatten
  refine AW.run hZ hRm [3] 400 ?_
  show AW Z 0 0 3 [some (.ref 0), some (.long a1), none, some (.int 56), none] [] ([kTape 0 v0] : List (List zE)).flatten
  obtain ⟨q9, h10, hf⟩ := zbind hf
  refine c_Tape_addBytes_L3 hZ hR (by omega) hN hRm N N v0 a1 56 (Tape_signs v0) (Tape_length v0) q9 h10 ?_
  show AW Z 0 0 76 [none, none, none, none, none] [] ([kTape 0 (Tape_s_signs_length v0 q9.1 q9.2)] : List (List zE)).flatten
  cases hf
  exact AW.vret hZ hE rfl rfl rfl (Nat.le_refl 0) (Nat.le_refl 0) rfl ⟨rfl, rfl⟩
def f_Tape_sortOf (N : Nat) (a0 : Int32) : Option (Int32) := (if (a0 = 10) then (some 0) else (if (a0 = 32) then (some 0) else (if (a0 < 97) then (if (a0 < 48) then (some 3) else (if (57 < a0) then (some 3) else (some 2))) else (if (122 < a0) then (if (a0 < 48) then (some 3) else (if (57 < a0) then (some 3) else (some 2))) else (some 1)))))
set_option maxRecDepth 20000 in
set_option maxHeartbeats 4000000 in
theorem c_Tape_sortOf (N : Nat) (a0 : Int32) (R : Int32) (hf : f_Tape_sortOf N a0 = some R) : Ct zMX7_sortOf 1 0 0 0 [.int a0] ([] : List (List zE)).flatten (fun v cc => v = some (.int R) ∧ cc = ([] : List (List zE)).flatten) := by
  refine Ct.of zMX7_sortOf_ok (by decide) (Nat.le_of_ble_eq_true rfl) ?_
  intro Z hZ hR hN hE
  have hRm : zRoom Z 0 0 := zRoom0 Z
  unfold f_Tape_sortOf at hf
  show AW Z 0 0 0 [some (.int a0)] [] ([] : List (List zE)).flatten
  refine AW.run hZ hRm [13, 27, 45] 400 ?_
  show (((a0 = 10) → AW Z 0 0 13 [some (.int a0)] [.int 0] ([] : List (List zE)).flatten) ∧ (¬ (a0 = 10) → ((¬ (a0 = 32) → (((a0 < 97) → (((a0 < 48) → AW Z 0 0 45 [some (.int a0)] [.int 3] ([] : List (List zE)).flatten) ∧ (¬ (a0 < 48) → (((57 < a0) → AW Z 0 0 45 [some (.int a0)] [.int 3] ([] : List (List zE)).flatten) ∧ (¬ (57 < a0) → AW Z 0 0 45 [some (.int a0)] [.int 2] ([] : List (List zE)).flatten))))) ∧ (¬ (a0 < 97) → (((122 < a0) → (((a0 < 48) → AW Z 0 0 45 [some (.int a0)] [.int 3] ([] : List (List zE)).flatten) ∧ (¬ (a0 < 48) → (((57 < a0) → AW Z 0 0 45 [some (.int a0)] [.int 3] ([] : List (List zE)).flatten) ∧ (¬ (57 < a0) → AW Z 0 0 45 [some (.int a0)] [.int 2] ([] : List (List zE)).flatten))))) ∧ (¬ (122 < a0) → AW Z 0 0 27 [some (.int a0)] [.int 1] ([] : List (List zE)).flatten))))) ∧ ((a0 = 32) → AW Z 0 0 13 [some (.int a0)] [.int 0] ([] : List (List zE)).flatten))))
  refine ⟨fun c1 => ?_, fun c1 => ?_⟩
  · rw [if_pos c1] at hf
    cases hf
    exact AW.iret hZ hE rfl rfl rfl rfl (Nat.le_refl 0) (Nat.le_refl 0) rfl ⟨rfl, rfl⟩
  · rw [if_neg c1] at hf
    refine ⟨fun c2 => ?_, fun c2 => ?_⟩
    · rw [if_neg c2] at hf
      refine ⟨fun c3 => ?_, fun c3 => ?_⟩
      · rw [if_pos c3] at hf
        refine ⟨fun c4 => ?_, fun c4 => ?_⟩
        · rw [if_pos c4] at hf
          cases hf
          exact AW.iret hZ hE rfl rfl rfl rfl (Nat.le_refl 0) (Nat.le_refl 0) rfl ⟨rfl, rfl⟩
        · rw [if_neg c4] at hf
          refine ⟨fun c5 => ?_, fun c5 => ?_⟩
          · rw [if_pos c5] at hf
            cases hf
            exact AW.iret hZ hE rfl rfl rfl rfl (Nat.le_refl 0) (Nat.le_refl 0) rfl ⟨rfl, rfl⟩
          · rw [if_neg c5] at hf
            cases hf
            exact AW.iret hZ hE rfl rfl rfl rfl (Nat.le_refl 0) (Nat.le_refl 0) rfl ⟨rfl, rfl⟩
      · rw [if_neg c3] at hf
        refine ⟨fun c6 => ?_, fun c6 => ?_⟩
        · rw [if_pos c6] at hf
          refine ⟨fun c7 => ?_, fun c7 => ?_⟩
          · rw [if_pos c7] at hf
            cases hf
            exact AW.iret hZ hE rfl rfl rfl rfl (Nat.le_refl 0) (Nat.le_refl 0) rfl ⟨rfl, rfl⟩
          · rw [if_neg c7] at hf
            refine ⟨fun c8 => ?_, fun c8 => ?_⟩
            · rw [if_pos c8] at hf
              cases hf
              exact AW.iret hZ hE rfl rfl rfl rfl (Nat.le_refl 0) (Nat.le_refl 0) rfl ⟨rfl, rfl⟩
            · rw [if_neg c8] at hf
              cases hf
              exact AW.iret hZ hE rfl rfl rfl rfl (Nat.le_refl 0) (Nat.le_refl 0) rfl ⟨rfl, rfl⟩
        · rw [if_neg c6] at hf
          cases hf
          exact AW.iret hZ hE rfl rfl rfl rfl (Nat.le_refl 0) (Nat.le_refl 0) rfl ⟨rfl, rfl⟩
    · rw [if_pos c2] at hf
      cases hf
      exact AW.iret hZ hE rfl rfl rfl rfl (Nat.le_refl 0) (Nat.le_refl 0) rfl ⟨rfl, rfl⟩
def f_Tape_addToken (N : Nat) (v0 : VTape) (a1 : Int32) (a2 : Int32) (a3 : Int64) : Option ((Nat → Int32) × (Nat → Int32) × (Nat → Int64) × Int32) := (if (1001 ≤ (Tape_tokenCount v0)) then (some ((Tape_tokens v0), (Tape_places v0), (Tape_values v0), (Tape_tokenCount v0))) else (if ((Tape_tokenCount v0) < 0 ∨ 1001 ≤ Int32.toNatClampNeg (Tape_tokenCount v0)) then none else (if ((Tape_tokenCount v0) < 0 ∨ 1001 ≤ Int32.toNatClampNeg (Tape_tokenCount v0)) then none else (if ((Tape_tokenCount v0) < 0 ∨ 1001 ≤ Int32.toNatClampNeg (Tape_tokenCount v0)) then none else (some ((upd (Tape_tokens v0) (Int32.toNatClampNeg (Tape_tokenCount v0)) a1), (upd (Tape_places v0) (Int32.toNatClampNeg (Tape_tokenCount v0)) a2), (vp_updL (Tape_values v0) (Int32.toNatClampNeg (Tape_tokenCount v0)) a3), ((Tape_tokenCount v0) + 1)))))))
set_option maxRecDepth 20000 in
set_option maxHeartbeats 4000000 in
theorem c_Tape_addToken (N : Nat) (v0 : VTape) (a1 : Int32) (a2 : Int32) (a3 : Int64) (R : (Nat → Int32) × (Nat → Int32) × (Nat → Int64) × Int32) (hf : f_Tape_addToken N v0 a1 a2 a3 = some R) : Ct zMX7_addToken 1 0 0 0 [.ref 0, .int a1, .int a2, .long a3] ([kTape 0 v0] : List (List zE)).flatten (fun v cc => v = none ∧ cc = ([kTape 0 (Tape_s_tokens_places_values_tokenCount v0 R.1 R.2.1 R.2.2.1 R.2.2.2)] : List (List zE)).flatten) := by
  refine Ct.of zMX7_addToken_ok (by decide) (Nat.le_of_ble_eq_true rfl) ?_
  intro Z hZ hR hN hE
  have hRm : zRoom Z 0 0 := zRoom0 Z
  unfold f_Tape_addToken at hf
  show AW Z 0 0 0 [some (.ref 0), some (.int a1), some (.int a2), some (.long a3), none] [] ([kTape 0 v0] : List (List zE)).flatten
  refine AW.run hZ hRm [52] 400 ?_
  show (((1001 ≤ (Tape_tokenCount v0)) → AW Z 0 0 52 [some (.ref 0), some (.int a1), some (.int a2), some (.long a3), none] [] ([kTape 0 v0] : List (List zE)).flatten) ∧ (¬ (1001 ≤ (Tape_tokenCount v0)) → (¬ ((Tape_tokenCount v0) < 0 ∨ 1001 ≤ Int32.toNatClampNeg (Tape_tokenCount v0)) ∧ (¬ ((Tape_tokenCount v0) < 0 ∨ 1001 ≤ Int32.toNatClampNeg (Tape_tokenCount v0)) ∧ (¬ ((Tape_tokenCount v0) < 0 ∨ 1001 ≤ Int32.toNatClampNeg (Tape_tokenCount v0)) ∧ AW Z 0 0 52 [some (.ref 0), some (.int a1), some (.int a2), some (.long a3), none] [] ([kTape 0 (Tape_s_tokens_places_values_tokenCount v0 (upd (Tape_tokens v0) (Int32.toNatClampNeg (Tape_tokenCount v0)) a1) (upd (Tape_places v0) (Int32.toNatClampNeg (Tape_tokenCount v0)) a2) (vp_updL (Tape_values v0) (Int32.toNatClampNeg (Tape_tokenCount v0)) a3) ((Tape_tokenCount v0) + 1))] : List (List zE)).flatten)))))
  refine ⟨fun c1 => ?_, fun c1 => ?_⟩
  · rw [if_pos c1] at hf
    cases hf
    exact AW.vret hZ hE rfl rfl rfl (Nat.le_refl 0) (Nat.le_refl 0) rfl ⟨rfl, rfl⟩
  · rw [if_neg c1] at hf
    obtain ⟨b4, hf⟩ := zneed hf
    refine ⟨b4, ?_⟩
    obtain ⟨b3, hf⟩ := zneed hf
    refine ⟨b3, ?_⟩
    obtain ⟨b2, hf⟩ := zneed hf
    refine ⟨b2, ?_⟩
    cases hf
    exact AW.vret hZ hE rfl rfl rfl (Nat.le_refl 0) (Nat.le_refl 0) rfl ⟨rfl, rfl⟩
def f_Tape_standsIn_L3 (N : Nat) : Nat → VTape → Int32 → Int32 → Int32 → Int32 → Option ((Unit) ⊕ (Unit))
  | 0, _, _, _, _, _ => none
  | fuel + 1, v0, y1, y2, y3, x4 => (if (8 ≤ x4) then (some (Sum.inr ())) else (if (216 ≤ (y1 + x4)) then (some (Sum.inr ())) else (if (y3 ≤ (y2 + x4)) then (if ((y1 + x4) < 0 ∨ 216 ≤ (y1 + x4)) then none else (if ((zsch 1 (y1 + x4)) = 32) then (f_Tape_standsIn_L3 N fuel v0 y1 y2 y3 (x4 + 1)) else (some (Sum.inl ())))) else (if ((y2 + x4) < 0 ∨ 1000 ≤ Int32.toNatClampNeg (y2 + x4)) then none else (if ((y1 + x4) < 0 ∨ 216 ≤ (y1 + x4)) then none else (if ((zsch 1 (y1 + x4)) = ((Tape_signs v0) (Int32.toNatClampNeg (y2 + x4)))) then (f_Tape_standsIn_L3 N fuel v0 y1 y2 y3 (x4 + 1)) else (some (Sum.inl ()))))))))
def f_Tape_standsIn (N : Nat) (v0 : VTape) (a1 : Int32) (a2 : Int32) (a3 : Int32) : Option (Int32) := ((f_Tape_standsIn_L3 N N v0 a1 a2 a3 0).bind (Sum.elim (fun w11 => (some 0)) (fun w12 => (some 1))))
set_option maxRecDepth 20000 in
set_option maxHeartbeats 4000000 in
theorem c_Tape_standsIn_L3 {Z : zCtx} {D n0w nf mcw msw : Nat} (hZ : zOk Z zMX7_standsIn) (hR : zCan Z D mcw msw) (hDd : 10 ≤ D) (hN : zNew Z n0w nf) (hRm : zRoom Z 0 0) (N : Nat) : ∀ (fuel : Nat) (v0 : VTape) (y1 : Int32) (y2 : Int32) (y3 : Int32) (x4 : Int32) (q : ((Unit) ⊕ (Unit))), f_Tape_standsIn_L3 N fuel v0 y1 y2 y3 x4 = some q → (∀ w : Unit, q = (Sum.inl w) → AW Z 0 0 60 [none, none, none, none, none, none] [] ([kTape 0 v0] : List (List zE)).flatten) → (∀ w : Unit, q = (Sum.inr w) → AW Z 0 0 68 [none, none, none, none, none, none] [] ([kTape 0 v0] : List (List zE)).flatten) → AW Z 0 0 3 [some (.ref 0), some (.int y1), some (.int y2), some (.int y3), some (.int x4), none] [] ([kTape 0 v0] : List (List zE)).flatten := by
  intro fuel
  induction fuel with
  | zero =>
    intro v0 y1 y2 y3 x4 q hf hk0 hk1
    simp [f_Tape_standsIn_L3] at hf
  | succ fuel ih =>
    intro v0 y1 y2 y3 x4 q hf hk0 hk1
    rw [f_Tape_standsIn_L3] at hf
    refine AW.run hZ hRm [14, 68] 400 ?_
    show (((8 ≤ x4) → AW Z 0 0 68 [some (.ref 0), some (.int y1), some (.int y2), some (.int y3), some (.int x4), none] [] ([kTape 0 v0] : List (List zE)).flatten) ∧ (¬ (8 ≤ x4) → AW Z 0 0 14 [some (.ref 0), some (.int y1), some (.int y2), some (.int y3), some (.int x4), none] [.int (y1 + x4)] ([kTape 0 v0] : List (List zE)).flatten))
    refine ⟨fun c1 => ?_, fun c1 => ?_⟩
    · rw [if_pos c1] at hf
      cases hf
      refine AW.forget [false, false, false, false, false, false] ?_
      show AW Z 0 0 68 [none, none, none, none, none, none] [] ([kTape 0 v0] : List (List zE)).flatten
      exact hk1 _ rfl
    · rw [if_neg c1] at hf
      refine AW.ldcT1 hZ rfl rfl rfl ?_
      show AW Z 0 0 16 [some (.ref 0), some (.int y1), some (.int y2), some (.int y3), some (.int x4), none] [.ref 1000001, .int (y1 + x4)] ([kTape 0 v0] : List (List zE)).flatten
      refine AW.callVs (i := 1) (by decide) (ps := []) rfl rfl hZ hR hN (c_J_length (i := 1) (by decide)) zMJ0_length_8abf5_ok rfl rfl zK_BorrowedLives_Tape_71 zV_J0_length_8abf5 rfl rfl (by decide) (Or.inl rfl) (by decide) (by omega) (by decide) (Nat.zero_le _) (Nat.zero_le _) rfl rfl ?_
      rintro v cc ⟨rfl, rfl⟩ -
      show AW Z 0 0 19 [some (.ref 0), some (.int y1), some (.int y2), some (.int y3), some (.int x4), none] [.int 216, .int (y1 + x4)] ([kTape 0 v0] : List (List zE)).flatten
      refine AW.run hZ hRm [46, 68] 400 ?_
      show (((216 ≤ (y1 + x4)) → AW Z 0 0 68 [some (.ref 0), some (.int y1), some (.int y2), some (.int y3), some (.int x4), none] [] ([kTape 0 v0] : List (List zE)).flatten) ∧ (¬ (216 ≤ (y1 + x4)) → (((y3 ≤ (y2 + x4)) → AW Z 0 0 46 [some (.ref 0), some (.int y1), some (.int y2), some (.int y3), some (.int x4), some (.int 32)] [] ([kTape 0 v0] : List (List zE)).flatten) ∧ (¬ (y3 ≤ (y2 + x4)) → (¬ ((y2 + x4) < 0 ∨ 1000 ≤ Int32.toNatClampNeg (y2 + x4)) ∧ AW Z 0 0 46 [some (.ref 0), some (.int y1), some (.int y2), some (.int y3), some (.int x4), some (.int ((Tape_signs v0) (Int32.toNatClampNeg (y2 + x4))))] [] ([kTape 0 v0] : List (List zE)).flatten)))))
      refine ⟨fun c2 => ?_, fun c2 => ?_⟩
      · rw [if_pos c2] at hf
        cases hf
        refine AW.forget [false, false, false, false, false, false] ?_
        show AW Z 0 0 68 [none, none, none, none, none, none] [] ([kTape 0 v0] : List (List zE)).flatten
        exact hk1 _ rfl
      · rw [if_neg c2] at hf
        refine ⟨fun c3 => ?_, fun c3 => ?_⟩
        · rw [if_pos c3] at hf
          refine AW.ldcT1 hZ rfl rfl rfl ?_
          show AW Z 0 0 48 [some (.ref 0), some (.int y1), some (.int y2), some (.int y3), some (.int x4), some (.int 32)] [.ref 1000001] ([kTape 0 v0] : List (List zE)).flatten
          refine AW.run hZ hRm [52] 400 ?_
          show AW Z 0 0 52 [some (.ref 0), some (.int y1), some (.int y2), some (.int y3), some (.int x4), some (.int 32)] [.int (y1 + x4), .ref 1000001] ([kTape 0 v0] : List (List zE)).flatten
          obtain ⟨b4, hf⟩ := zneed hf
          refine AW.callVs (i := 1) (by decide) (ps := []) rfl rfl hZ hR hN (c_J_charAt (i := 1) (by decide) (fun h9 => b4 (Or.inl h9)) (Int32.not_le.mp (fun h9 => b4 (Or.inr h9)))) zMJ0_charAt_5068e_ok rfl rfl zK_BorrowedLives_Tape_78 zV_J0_charAt_5068e rfl rfl (by decide) (Or.inl rfl) (by decide) (by omega) (by decide) (Nat.zero_le _) (Nat.zero_le _) rfl rfl ?_
          rintro v cc ⟨rfl, rfl⟩ -
          show AW Z 0 0 55 [some (.ref 0), some (.int y1), some (.int y2), some (.int y3), some (.int x4), some (.int 32)] [.int (zsch 1 (y1 + x4))] ([kTape 0 v0] : List (List zE)).flatten
          refine AW.run hZ hRm [3, 60] 400 ?_
          show ((((zsch 1 (y1 + x4)) = 32) → AW Z 0 0 3 [some (.ref 0), some (.int y1), some (.int y2), some (.int y3), some (.int (x4 + 1)), some (.int 32)] [] ([kTape 0 v0] : List (List zE)).flatten) ∧ (¬ ((zsch 1 (y1 + x4)) = 32) → AW Z 0 0 60 [some (.ref 0), some (.int y1), some (.int y2), some (.int y3), some (.int x4), some (.int 32)] [] ([kTape 0 v0] : List (List zE)).flatten))
          refine ⟨fun c5 => ?_, fun c5 => ?_⟩
          · rw [if_pos c5] at hf
            refine AW.forget [true, true, true, true, true, false] ?_
            show AW Z 0 0 3 [some (.ref 0), some (.int y1), some (.int y2), some (.int y3), some (.int (x4 + 1)), none] [] ([kTape 0 v0] : List (List zE)).flatten
            exact ih v0 y1 y2 y3 (x4 + 1) q hf hk0 hk1
          · rw [if_neg c5] at hf
            cases hf
            refine AW.forget [false, false, false, false, false, false] ?_
            show AW Z 0 0 60 [none, none, none, none, none, none] [] ([kTape 0 v0] : List (List zE)).flatten
            exact hk0 _ rfl
        · rw [if_neg c3] at hf
          obtain ⟨b8, hf⟩ := zneed hf
          refine ⟨b8, ?_⟩
          refine AW.ldcT1 hZ rfl rfl rfl ?_
          show AW Z 0 0 48 [some (.ref 0), some (.int y1), some (.int y2), some (.int y3), some (.int x4), some (.int ((Tape_signs v0) (Int32.toNatClampNeg (y2 + x4))))] [.ref 1000001] ([kTape 0 v0] : List (List zE)).flatten
          refine AW.run hZ hRm [52] 400 ?_
          show AW Z 0 0 52 [some (.ref 0), some (.int y1), some (.int y2), some (.int y3), some (.int x4), some (.int ((Tape_signs v0) (Int32.toNatClampNeg (y2 + x4))))] [.int (y1 + x4), .ref 1000001] ([kTape 0 v0] : List (List zE)).flatten
          obtain ⟨b6, hf⟩ := zneed hf
          refine AW.callVs (i := 1) (by decide) (ps := []) rfl rfl hZ hR hN (c_J_charAt (i := 1) (by decide) (fun h9 => b6 (Or.inl h9)) (Int32.not_le.mp (fun h9 => b6 (Or.inr h9)))) zMJ0_charAt_5068e_ok rfl rfl zK_BorrowedLives_Tape_78 zV_J0_charAt_5068e rfl rfl (by decide) (Or.inl rfl) (by decide) (by omega) (by decide) (Nat.zero_le _) (Nat.zero_le _) rfl rfl ?_
          rintro v cc ⟨rfl, rfl⟩ -
          show AW Z 0 0 55 [some (.ref 0), some (.int y1), some (.int y2), some (.int y3), some (.int x4), some (.int ((Tape_signs v0) (Int32.toNatClampNeg (y2 + x4))))] [.int (zsch 1 (y1 + x4))] ([kTape 0 v0] : List (List zE)).flatten
          refine AW.run hZ hRm [3, 60] 400 ?_
          show ((((zsch 1 (y1 + x4)) = ((Tape_signs v0) (Int32.toNatClampNeg (y2 + x4)))) → AW Z 0 0 3 [some (.ref 0), some (.int y1), some (.int y2), some (.int y3), some (.int (x4 + 1)), some (.int ((Tape_signs v0) (Int32.toNatClampNeg (y2 + x4))))] [] ([kTape 0 v0] : List (List zE)).flatten) ∧ (¬ ((zsch 1 (y1 + x4)) = ((Tape_signs v0) (Int32.toNatClampNeg (y2 + x4)))) → AW Z 0 0 60 [some (.ref 0), some (.int y1), some (.int y2), some (.int y3), some (.int x4), some (.int ((Tape_signs v0) (Int32.toNatClampNeg (y2 + x4))))] [] ([kTape 0 v0] : List (List zE)).flatten))
          refine ⟨fun c7 => ?_, fun c7 => ?_⟩
          · rw [if_pos c7] at hf
            refine AW.forget [true, true, true, true, true, false] ?_
            show AW Z 0 0 3 [some (.ref 0), some (.int y1), some (.int y2), some (.int y3), some (.int (x4 + 1)), none] [] ([kTape 0 v0] : List (List zE)).flatten
            exact ih v0 y1 y2 y3 (x4 + 1) q hf hk0 hk1
          · rw [if_neg c7] at hf
            cases hf
            refine AW.forget [false, false, false, false, false, false] ?_
            show AW Z 0 0 60 [none, none, none, none, none, none] [] ([kTape 0 v0] : List (List zE)).flatten
            exact hk0 _ rfl
set_option maxRecDepth 20000 in
set_option maxHeartbeats 4000000 in
theorem c_Tape_standsIn (N : Nat) (v0 : VTape) (a1 : Int32) (a2 : Int32) (a3 : Int32) (R : Int32) (hf : f_Tape_standsIn N v0 a1 a2 a3 = some R) : Ct zMX7_standsIn 10 0 0 0 [.ref 0, .int a1, .int a2, .int a3] ([kTape 0 v0] : List (List zE)).flatten (fun v cc => v = some (.int R) ∧ cc = ([kTape 0 v0] : List (List zE)).flatten) := by
  refine Ct.of zMX7_standsIn_ok (by decide) (Nat.le_of_ble_eq_true rfl) ?_
  intro Z hZ hR hN hE
  have hRm : zRoom Z 0 0 := zRoom0 Z
  unfold f_Tape_standsIn at hf
  show AW Z 0 0 0 [some (.ref 0), some (.int a1), some (.int a2), some (.int a3), none, none] [] ([kTape 0 v0] : List (List zE)).flatten
  refine AW.run hZ hRm [3] 400 ?_
  show AW Z 0 0 3 [some (.ref 0), some (.int a1), some (.int a2), some (.int a3), some (.int 0), none] [] ([kTape 0 v0] : List (List zE)).flatten
  obtain ⟨q9, h10, hf⟩ := zbind hf
  refine c_Tape_standsIn_L3 hZ hR (by omega) hN hRm N N v0 a1 a2 a3 0 q9 h10 ?_ ?_
  · intro w11 hq
    subst hq
    show AW Z 0 0 60 [none, none, none, none, none, none] [] ([kTape 0 v0] : List (List zE)).flatten
    replace hf : (some 0) = some R := hf
    refine AW.run hZ hRm [61] 400 ?_
    show AW Z 0 0 61 [none, none, none, none, none, none] [.int 0] ([kTape 0 v0] : List (List zE)).flatten
    cases hf
    exact AW.iret hZ hE rfl rfl rfl rfl (Nat.le_refl 0) (Nat.le_refl 0) rfl ⟨rfl, rfl⟩
  · intro w12 hq
    subst hq
    show AW Z 0 0 68 [none, none, none, none, none, none] [] ([kTape 0 v0] : List (List zE)).flatten
    replace hf : (some 1) = some R := hf
    refine AW.run hZ hRm [69] 400 ?_
    show AW Z 0 0 69 [none, none, none, none, none, none] [.int 1] ([kTape 0 v0] : List (List zE)).flatten
    cases hf
    exact AW.iret hZ hE rfl rfl rfl rfl (Nat.le_refl 0) (Nat.le_refl 0) rfl ⟨rfl, rfl⟩
def f_Tape_scanWord_L21 (N : Nat) : Nat → VTape → Int32 → Int32 → Int64 → Int32 → Option (Int64)
  | 0, _, _, _, _, _ => none
  | fuel + 1, v0, y1, y2, x3, x5 => (if (y2 ≤ x5) then (some x3) else (if (x5 < 0 ∨ 1000 ≤ Int32.toNatClampNeg x5) then none else (f_Tape_scanWord_L21 N fuel v0 y1 y2 ((x3 * 27) + (Int32.toInt64 ((((Tape_signs v0) (Int32.toNatClampNeg x5)) - 97) + 1))) (x5 + 1))))
def f_Tape_scanWord_L59 (N : Nat) : Nat → VTape → Int32 → Int32 → Int64 → Int32 → Int32 → Option (Int32)
  | 0, _, _, _, _, _, _ => none
  | fuel + 1, v0, y1, y2, y3, x5, x6 => (if (216 ≤ x6) then (some x5) else ((f_Tape_standsIn N v0 x6 y1 y2).bind (fun q7 => (f_Tape_scanWord_L59 N fuel v0 y1 y2 y3 (if (q7 = 0) then x5 else (128 + (x6 / 8))) (x6 + 8)))))
def f_Tape_scanWord (N : Nat) (v0 : VTape) (a1 : Int32) (a2 : Int32) : Option ((Nat → Int32) × (Nat → Int32) × (Nat → Int64) × Int32) := (if ((a2 - a1) ≤ 8) then ((f_Tape_scanWord_L21 N N v0 a1 a2 0 a1).bind (fun q4 => ((f_Tape_scanWord_L59 N N v0 a1 a2 q4 1 0).bind (fun q11 => ((f_Tape_addToken N v0 q11 a1 q4).bind (fun q13 => (some (q13.1, q13.2.1, q13.2.2.1, q13.2.2.2)))))))) else ((f_Tape_addToken N v0 3 a1 0).bind (fun q15 => (some (q15.1, q15.2.1, q15.2.2.1, q15.2.2.2)))))
set_option maxRecDepth 20000 in
set_option maxHeartbeats 4000000 in
theorem c_Tape_scanWord_L21 {Z : zCtx} {D n0w nf mcw msw : Nat} (hZ : zOk Z zMX7_scanWord) (hR : zCan Z D mcw msw) (hDd : 11 ≤ D) (hN : zNew Z n0w nf) (hRm : zRoom Z 0 0) (N : Nat) : ∀ (fuel : Nat) (v0 : VTape) (y1 : Int32) (y2 : Int32) (x3 : Int64) (x5 : Int32) (q : (Int64)), f_Tape_scanWord_L21 N fuel v0 y1 y2 x3 x5 = some q → (AW Z 0 0 53 [some (.ref 0), some (.int y1), some (.int y2), some (.long q), none, none, none] [] ([kTape 0 v0] : List (List zE)).flatten) → AW Z 0 0 21 [some (.ref 0), some (.int y1), some (.int y2), some (.long x3), none, some (.int x5), none] [] ([kTape 0 v0] : List (List zE)).flatten := by
  intro fuel
  induction fuel with
  | zero =>
    intro v0 y1 y2 x3 x5 q hf hk0
    simp [f_Tape_scanWord_L21] at hf
  | succ fuel ih =>
    intro v0 y1 y2 x3 x5 q hf hk0
    rw [f_Tape_scanWord_L21] at hf
    refine AW.run hZ hRm [21, 53] 400 ?_
    show (((y2 ≤ x5) → AW Z 0 0 53 [some (.ref 0), some (.int y1), some (.int y2), some (.long x3), none, some (.int x5), none] [] ([kTape 0 v0] : List (List zE)).flatten) ∧ (¬ (y2 ≤ x5) → (¬ (x5 < 0 ∨ 1000 ≤ Int32.toNatClampNeg x5) ∧ AW Z 0 0 21 [some (.ref 0), some (.int y1), some (.int y2), some (.long ((x3 * 27) + (Int32.toInt64 ((((Tape_signs v0) (Int32.toNatClampNeg x5)) - 97) + 1)))), none, some (.int (x5 + 1)), none] [] ([kTape 0 v0] : List (List zE)).flatten)))
    refine ⟨fun c2 => ?_, fun c2 => ?_⟩
    · rw [if_pos c2] at hf
      cases hf
      refine AW.forget [true, true, true, true, false, false, false] ?_
      show AW Z 0 0 53 [some (.ref 0), some (.int y1), some (.int y2), some (.long x3), none, none, none] [] ([kTape 0 v0] : List (List zE)).flatten
      exact hk0
    · rw [if_neg c2] at hf
      obtain ⟨b3, hf⟩ := zneed hf
      refine ⟨b3, ?_⟩
      exact ih v0 y1 y2 ((x3 * 27) + (Int32.toInt64 ((((Tape_signs v0) (Int32.toNatClampNeg x5)) - 97) + 1))) (x5 + 1) q hf hk0
set_option maxRecDepth 20000 in
set_option maxHeartbeats 4000000 in
theorem c_Tape_scanWord_L59 {Z : zCtx} {D n0w nf mcw msw : Nat} (hZ : zOk Z zMX7_scanWord) (hR : zCan Z D mcw msw) (hDd : 11 ≤ D) (hN : zNew Z n0w nf) (hRm : zRoom Z 0 0) (N : Nat) : ∀ (fuel : Nat) (v0 : VTape) (y1 : Int32) (y2 : Int32) (y3 : Int64) (x5 : Int32) (x6 : Int32) (q : (Int32)), f_Tape_scanWord_L59 N fuel v0 y1 y2 y3 x5 x6 = some q → (AW Z 0 0 97 [some (.ref 0), some (.int y1), none, some (.long y3), none, some (.int q), none] [] ([kTape 0 v0] : List (List zE)).flatten) → AW Z 0 0 59 [some (.ref 0), some (.int y1), some (.int y2), some (.long y3), none, some (.int x5), some (.int x6)] [] ([kTape 0 v0] : List (List zE)).flatten := by
  intro fuel
  induction fuel with
  | zero =>
    intro v0 y1 y2 y3 x5 x6 q hf hk0
    simp [f_Tape_scanWord_L59] at hf
  | succ fuel ih =>
    intro v0 y1 y2 y3 x5 x6 q hf hk0
    rw [f_Tape_scanWord_L59] at hf
    refine AW.run hZ hRm [61] 400 ?_
    show AW Z 0 0 61 [some (.ref 0), some (.int y1), some (.int y2), some (.long y3), none, some (.int x5), some (.int x6)] [.int x6] ([kTape 0 v0] : List (List zE)).flatten
    refine AW.ldcT1 hZ rfl rfl rfl ?_
    show AW Z 0 0 63 [some (.ref 0), some (.int y1), some (.int y2), some (.long y3), none, some (.int x5), some (.int x6)] [.ref 1000001, .int x6] ([kTape 0 v0] : List (List zE)).flatten
    refine AW.callVs (i := 1) (by decide) (ps := []) rfl rfl hZ hR hN (c_J_length (i := 1) (by decide)) zMJ0_length_8abf5_ok rfl rfl zK_BorrowedLives_Tape_71 zV_J0_length_8abf5 rfl rfl (by decide) (Or.inl rfl) (by decide) (by omega) (by decide) (Nat.zero_le _) (Nat.zero_le _) rfl rfl ?_
    rintro v cc ⟨rfl, rfl⟩ -
    show AW Z 0 0 66 [some (.ref 0), some (.int y1), some (.int y2), some (.long y3), none, some (.int x5), some (.int x6)] [.int 216, .int x6] ([kTape 0 v0] : List (List zE)).flatten
    refine AW.run hZ hRm [74, 97] 400 ?_
    show (((216 ≤ x6) → AW Z 0 0 97 [some (.ref 0), some (.int y1), some (.int y2), some (.long y3), none, some (.int x5), some (.int x6)] [] ([kTape 0 v0] : List (List zE)).flatten) ∧ (¬ (216 ≤ x6) → AW Z 0 0 74 [some (.ref 0), some (.int y1), some (.int y2), some (.long y3), none, some (.int x5), some (.int x6)] [.int y2, .int y1, .int x6, .ref 0] ([kTape 0 v0] : List (List zE)).flatten))
    refine ⟨fun c6 => ?_, fun c6 => ?_⟩
    · rw [if_pos c6] at hf
      cases hf
      refine AW.forget [true, true, false, true, false, true, false] ?_
      show AW Z 0 0 97 [some (.ref 0), some (.int y1), none, some (.long y3), none, some (.int x5), none] [] ([kTape 0 v0] : List (List zE)).flatten
      exact hk0
    · rw [if_neg c6] at hf
      obtain ⟨q7, h10, hf⟩ := zbind hf
      refine AW.callVc hZ hR hN (c_Tape_standsIn N v0 x6 y1 y2 q7 h10) zMX7_standsIn_ok rfl rfl zK_BorrowedLives_Tape_74 zV_X7_standsIn rfl [5] [0] [0, 1, 2, 3, 4] rfl rfl rfl (by decide) (by decide) (by omega) (by decide) (Nat.zero_le _) (Nat.zero_le _) rfl rfl rfl rfl rfl ?_
      rintro v cc ⟨rfl, rfl⟩
      refine ⟨_, rfl, rfl, ?_⟩
      show AW Z 0 0 77 [some (.ref 0), some (.int y1), some (.int y2), some (.long y3), none, some (.int x5), some (.int x6)] [.int q7] ([kTape 0 v0] : List (List zE)).flatten
      suffices H8 : AW Z 0 0 91 [some (.ref 0), some (.int y1), some (.int y2), some (.long y3), none, some (.int (if (q7 = 0) then x5 else (128 + (x6 / 8)))), some (.int x6)] [] ([kTape 0 v0] : List (List zE)).flatten from by
        refine AW.run hZ hRm [91] 400 ?_
        show (((q7 = 0) → AW Z 0 0 91 [some (.ref 0), some (.int y1), some (.int y2), some (.long y3), none, some (.int x5), some (.int x6)] [] ([kTape 0 v0] : List (List zE)).flatten) ∧ (¬ (q7 = 0) → (¬ ((8 : Int32) = 0) ∧ AW Z 0 0 91 [some (.ref 0), some (.int y1), some (.int y2), some (.long y3), none, some (.int (128 + (x6 / 8))), some (.int x6)] [] ([kTape 0 v0] : List (List zE)).flatten)))
        refine ⟨fun c9 => ?_, fun c9 => ?_⟩
        · simpa only [if_pos c9] using H8
        · refine ⟨(by decide), ?_⟩
          simpa only [if_neg c9] using H8
      refine AW.run hZ hRm [59] 400 ?_
      show AW Z 0 0 59 [some (.ref 0), some (.int y1), some (.int y2), some (.long y3), none, some (.int (if (q7 = 0) then x5 else (128 + (x6 / 8)))), some (.int (x6 + 8))] [] ([kTape 0 v0] : List (List zE)).flatten
      exact ih v0 y1 y2 y3 (if (q7 = 0) then x5 else (128 + (x6 / 8))) (x6 + 8) q hf hk0
set_option maxRecDepth 20000 in
set_option maxHeartbeats 4000000 in
theorem c_Tape_scanWord (N : Nat) (v0 : VTape) (a1 : Int32) (a2 : Int32) (R : (Nat → Int32) × (Nat → Int32) × (Nat → Int64) × Int32) (hf : f_Tape_scanWord N v0 a1 a2 = some R) : Ct zMX7_scanWord 11 0 0 0 [.ref 0, .int a1, .int a2] ([kTape 0 v0] : List (List zE)).flatten (fun v cc => v = none ∧ cc = ([kTape 0 (Tape_s_tokens_places_values_tokenCount v0 R.1 R.2.1 R.2.2.1 R.2.2.2)] : List (List zE)).flatten) := by
  refine Ct.of zMX7_scanWord_ok (by decide) (Nat.le_of_ble_eq_true rfl) ?_
  intro Z hZ hR hN hE
  have hRm : zRoom Z 0 0 := zRoom0 Z
  unfold f_Tape_scanWord at hf
  show AW Z 0 0 0 [some (.ref 0), some (.int a1), some (.int a2), none, none, none, none] [] ([kTape 0 v0] : List (List zE)).flatten
  refine AW.run hZ hRm [12, 21] 400 ?_
  show ((((a2 - a1) ≤ 8) → AW Z 0 0 21 [some (.ref 0), some (.int a1), some (.int a2), some (.long 0), none, some (.int a1), none] [] ([kTape 0 v0] : List (List zE)).flatten) ∧ (¬ ((a2 - a1) ≤ 8) → AW Z 0 0 12 [some (.ref 0), some (.int a1), some (.int a2), none, none, none, none] [.long 0, .int a1, .int 3, .ref 0] ([kTape 0 v0] : List (List zE)).flatten))
  refine ⟨fun c1 => ?_, fun c1 => ?_⟩
  · rw [if_pos c1] at hf
    obtain ⟨q4, h5, hf⟩ := zbind hf
    refine c_Tape_scanWord_L21 hZ hR (by omega) hN hRm N N v0 a1 a2 0 a1 q4 h5 ?_
    show AW Z 0 0 53 [some (.ref 0), some (.int a1), some (.int a2), some (.long q4), none, none, none] [] ([kTape 0 v0] : List (List zE)).flatten
    refine AW.run hZ hRm [59] 400 ?_
    show AW Z 0 0 59 [some (.ref 0), some (.int a1), some (.int a2), some (.long q4), none, some (.int 1), some (.int 0)] [] ([kTape 0 v0] : List (List zE)).flatten
    obtain ⟨q11, h12, hf⟩ := zbind hf
    refine c_Tape_scanWord_L59 hZ hR (by omega) hN hRm N N v0 a1 a2 q4 1 0 q11 h12 ?_
    show AW Z 0 0 97 [some (.ref 0), some (.int a1), none, some (.long q4), none, some (.int q11), none] [] ([kTape 0 v0] : List (List zE)).flatten
    refine AW.run hZ hRm [102] 400 ?_
    show AW Z 0 0 102 [some (.ref 0), some (.int a1), none, some (.long q4), none, some (.int q11), none] [.long q4, .int a1, .int q11, .ref 0] ([kTape 0 v0] : List (List zE)).flatten
    obtain ⟨q13, h14, hf⟩ := zbind hf
    refine AW.callVc hZ hR hN (c_Tape_addToken N v0 q11 a1 q4 q13 h14) zMX7_addToken_ok rfl rfl zK_BorrowedLives_Tape_49 zV_X7_addToken rfl [5] [0] [0, 1, 2, 3, 4] rfl rfl rfl (by decide) (by decide) (by omega) (by decide) (Nat.zero_le _) (Nat.zero_le _) rfl rfl rfl rfl rfl ?_
    rintro v cc ⟨rfl, rfl⟩
    refine ⟨_, rfl, rfl, ?_⟩
    show AW Z 0 0 105 [some (.ref 0), some (.int a1), none, some (.long q4), none, some (.int q11), none] [] ([kTape 0 (Tape_s_tokens_places_values_tokenCount v0 q13.1 q13.2.1 q13.2.2.1 q13.2.2.2)] : List (List zE)).flatten
    cases hf
    exact AW.vret hZ hE rfl rfl rfl (Nat.le_refl 0) (Nat.le_refl 0) rfl ⟨rfl, rfl⟩
  · rw [if_neg c1] at hf
    obtain ⟨q15, h16, hf⟩ := zbind hf
    refine AW.callVc hZ hR hN (c_Tape_addToken N v0 3 a1 0 q15 h16) zMX7_addToken_ok rfl rfl zK_BorrowedLives_Tape_49 zV_X7_addToken rfl [5] [0] [0, 1, 2, 3, 4] rfl rfl rfl (by decide) (by decide) (by omega) (by decide) (Nat.zero_le _) (Nat.zero_le _) rfl rfl rfl rfl rfl ?_
    rintro v cc ⟨rfl, rfl⟩
    refine ⟨_, rfl, rfl, ?_⟩
    show AW Z 0 0 15 [some (.ref 0), some (.int a1), some (.int a2), none, none, none, none] [] ([kTape 0 (Tape_s_tokens_places_values_tokenCount v0 q15.1 q15.2.1 q15.2.2.1 q15.2.2.2)] : List (List zE)).flatten
    cases hf
    exact AW.vret hZ hE rfl rfl rfl (Nat.le_refl 0) (Nat.le_refl 0) rfl ⟨rfl, rfl⟩
def f_Tape_scanNumber_L20 (N : Nat) : Nat → VTape → Int32 → Int32 → Int32 → Int32 → Option (Int32)
  | 0, _, _, _, _, _ => none
  | fuel + 1, v0, y1, y2, x3, x4 => (if (y2 ≤ x4) then (some x3) else (if (x4 < 0 ∨ 1000 ≤ Int32.toNatClampNeg x4) then none else (f_Tape_scanNumber_L20 N fuel v0 y1 y2 ((x3 * 10) + (((Tape_signs v0) (Int32.toNatClampNeg x4)) - 48)) (x4 + 1))))
def f_Tape_scanNumber (N : Nat) (v0 : VTape) (a1 : Int32) (a2 : Int32) : Option ((Nat → Int32) × (Nat → Int32) × (Nat → Int64) × Int32) := (if ((a2 - a1) ≤ 4) then ((f_Tape_scanNumber_L20 N N v0 a1 a2 0 a1).bind (fun q4 => ((f_Tape_addToken N v0 2 a1 (Int32.toInt64 q4)).bind (fun q6 => (some (q6.1, q6.2.1, q6.2.2.1, q6.2.2.2)))))) else ((f_Tape_addToken N v0 3 a1 0).bind (fun q8 => (some (q8.1, q8.2.1, q8.2.2.1, q8.2.2.2)))))
set_option maxRecDepth 20000 in
set_option maxHeartbeats 4000000 in
theorem c_Tape_scanNumber_L20 {Z : zCtx} {D n0w nf mcw msw : Nat} (hZ : zOk Z zMX7_scanNumber) (hR : zCan Z D mcw msw) (hDd : 2 ≤ D) (hN : zNew Z n0w nf) (hRm : zRoom Z 0 0) (N : Nat) : ∀ (fuel : Nat) (v0 : VTape) (y1 : Int32) (y2 : Int32) (x3 : Int32) (x4 : Int32) (q : (Int32)), f_Tape_scanNumber_L20 N fuel v0 y1 y2 x3 x4 = some q → (AW Z 0 0 48 [some (.ref 0), some (.int y1), none, some (.int q), none] [] ([kTape 0 v0] : List (List zE)).flatten) → AW Z 0 0 20 [some (.ref 0), some (.int y1), some (.int y2), some (.int x3), some (.int x4)] [] ([kTape 0 v0] : List (List zE)).flatten := by
  intro fuel
  induction fuel with
  | zero =>
    intro v0 y1 y2 x3 x4 q hf hk0
    simp [f_Tape_scanNumber_L20] at hf
  | succ fuel ih =>
    intro v0 y1 y2 x3 x4 q hf hk0
    rw [f_Tape_scanNumber_L20] at hf
    refine AW.run hZ hRm [20, 48] 400 ?_
    show (((y2 ≤ x4) → AW Z 0 0 48 [some (.ref 0), some (.int y1), some (.int y2), some (.int x3), some (.int x4)] [] ([kTape 0 v0] : List (List zE)).flatten) ∧ (¬ (y2 ≤ x4) → (¬ (x4 < 0 ∨ 1000 ≤ Int32.toNatClampNeg x4) ∧ AW Z 0 0 20 [some (.ref 0), some (.int y1), some (.int y2), some (.int ((x3 * 10) + (((Tape_signs v0) (Int32.toNatClampNeg x4)) - 48))), some (.int (x4 + 1))] [] ([kTape 0 v0] : List (List zE)).flatten)))
    refine ⟨fun c2 => ?_, fun c2 => ?_⟩
    · rw [if_pos c2] at hf
      cases hf
      refine AW.forget [true, true, false, true, false] ?_
      show AW Z 0 0 48 [some (.ref 0), some (.int y1), none, some (.int x3), none] [] ([kTape 0 v0] : List (List zE)).flatten
      exact hk0
    · rw [if_neg c2] at hf
      obtain ⟨b3, hf⟩ := zneed hf
      refine ⟨b3, ?_⟩
      exact ih v0 y1 y2 ((x3 * 10) + (((Tape_signs v0) (Int32.toNatClampNeg x4)) - 48)) (x4 + 1) q hf hk0
set_option maxRecDepth 20000 in
set_option maxHeartbeats 4000000 in
theorem c_Tape_scanNumber (N : Nat) (v0 : VTape) (a1 : Int32) (a2 : Int32) (R : (Nat → Int32) × (Nat → Int32) × (Nat → Int64) × Int32) (hf : f_Tape_scanNumber N v0 a1 a2 = some R) : Ct zMX7_scanNumber 2 0 0 0 [.ref 0, .int a1, .int a2] ([kTape 0 v0] : List (List zE)).flatten (fun v cc => v = none ∧ cc = ([kTape 0 (Tape_s_tokens_places_values_tokenCount v0 R.1 R.2.1 R.2.2.1 R.2.2.2)] : List (List zE)).flatten) := by
  refine Ct.of zMX7_scanNumber_ok (by decide) (Nat.le_of_ble_eq_true rfl) ?_
  intro Z hZ hR hN hE
  have hRm : zRoom Z 0 0 := zRoom0 Z
  unfold f_Tape_scanNumber at hf
  show AW Z 0 0 0 [some (.ref 0), some (.int a1), some (.int a2), none, none] [] ([kTape 0 v0] : List (List zE)).flatten
  refine AW.run hZ hRm [11, 20] 400 ?_
  show ((((a2 - a1) ≤ 4) → AW Z 0 0 20 [some (.ref 0), some (.int a1), some (.int a2), some (.int 0), some (.int a1)] [] ([kTape 0 v0] : List (List zE)).flatten) ∧ (¬ ((a2 - a1) ≤ 4) → AW Z 0 0 11 [some (.ref 0), some (.int a1), some (.int a2), none, none] [.long 0, .int a1, .int 3, .ref 0] ([kTape 0 v0] : List (List zE)).flatten))
  refine ⟨fun c1 => ?_, fun c1 => ?_⟩
  · rw [if_pos c1] at hf
    obtain ⟨q4, h5, hf⟩ := zbind hf
    refine c_Tape_scanNumber_L20 hZ hR (by omega) hN hRm N N v0 a1 a2 0 a1 q4 h5 ?_
    show AW Z 0 0 48 [some (.ref 0), some (.int a1), none, some (.int q4), none] [] ([kTape 0 v0] : List (List zE)).flatten
    refine AW.run hZ hRm [53] 400 ?_
    show AW Z 0 0 53 [some (.ref 0), some (.int a1), none, some (.int q4), none] [.long (Int32.toInt64 q4), .int a1, .int 2, .ref 0] ([kTape 0 v0] : List (List zE)).flatten
    obtain ⟨q6, h7, hf⟩ := zbind hf
    refine AW.callVc hZ hR hN (c_Tape_addToken N v0 2 a1 (Int32.toInt64 q4) q6 h7) zMX7_addToken_ok rfl rfl zK_BorrowedLives_Tape_49 zV_X7_addToken rfl [5] [0] [0, 1, 2, 3, 4] rfl rfl rfl (by decide) (by decide) (by omega) (by decide) (Nat.zero_le _) (Nat.zero_le _) rfl rfl rfl rfl rfl ?_
    rintro v cc ⟨rfl, rfl⟩
    refine ⟨_, rfl, rfl, ?_⟩
    show AW Z 0 0 56 [some (.ref 0), some (.int a1), none, some (.int q4), none] [] ([kTape 0 (Tape_s_tokens_places_values_tokenCount v0 q6.1 q6.2.1 q6.2.2.1 q6.2.2.2)] : List (List zE)).flatten
    cases hf
    exact AW.vret hZ hE rfl rfl rfl (Nat.le_refl 0) (Nat.le_refl 0) rfl ⟨rfl, rfl⟩
  · rw [if_neg c1] at hf
    obtain ⟨q8, h9, hf⟩ := zbind hf
    refine AW.callVc hZ hR hN (c_Tape_addToken N v0 3 a1 0 q8 h9) zMX7_addToken_ok rfl rfl zK_BorrowedLives_Tape_49 zV_X7_addToken rfl [5] [0] [0, 1, 2, 3, 4] rfl rfl rfl (by decide) (by decide) (by omega) (by decide) (Nat.zero_le _) (Nat.zero_le _) rfl rfl rfl rfl rfl ?_
    rintro v cc ⟨rfl, rfl⟩
    refine ⟨_, rfl, rfl, ?_⟩
    show AW Z 0 0 14 [some (.ref 0), some (.int a1), some (.int a2), none, none] [] ([kTape 0 (Tape_s_tokens_places_values_tokenCount v0 q8.1 q8.2.1 q8.2.2.1 q8.2.2.2)] : List (List zE)).flatten
    cases hf
    exact AW.vret hZ hE rfl rfl rfl (Nat.le_refl 0) (Nat.le_refl 0) rfl ⟨rfl, rfl⟩
def f_Tape_scanToken_L4 (N : Nat) : Nat → VTape → Int32 → Int32 → Int32 → Option (Int32)
  | 0, _, _, _, _ => none
  | fuel + 1, v0, y1, y2, x3 => (if ((Tape_length v0) ≤ x3) then (some x3) else (if (x3 < 0 ∨ 1000 ≤ Int32.toNatClampNeg x3) then none else ((f_Tape_sortOf N ((Tape_signs v0) (Int32.toNatClampNeg x3))).bind (fun q2 => (if (q2 = y2) then (f_Tape_scanToken_L4 N fuel v0 y1 y2 (x3 + 1)) else (some x3))))))
def f_Tape_scanToken (N : Nat) (v0 : VTape) (a1 : Int32) (a2 : Int32) : Option ((Nat → Int32) × (Nat → Int32) × (Nat → Int64) × Int32) := ((f_Tape_scanToken_L4 N N v0 a1 a2 (a1 + 1)).bind (fun q6 => (if (a2 = 1) then ((f_Tape_scanWord N v0 a1 q6).bind (fun q19 => (some (q19.1, q19.2.1, q19.2.2.1, q19.2.2.2)))) else (if (a2 = 2) then ((f_Tape_scanNumber N v0 a1 q6).bind (fun q17 => (some (q17.1, q17.2.1, q17.2.2.1, q17.2.2.2)))) else (if (a1 < 0 ∨ 1000 ≤ Int32.toNatClampNeg a1) then none else (if ((zidx ((Tape_signs v0) (Int32.toNatClampNeg a1))) < 0) then ((f_Tape_addToken N v0 3 a1 0).bind (fun q11 => (some (q11.1, q11.2.1, q11.2.2.1, q11.2.2.2)))) else (if (a1 < 0 ∨ 1000 ≤ Int32.toNatClampNeg a1) then none else ((f_Tape_addToken N v0 ((Tape_signs v0) (Int32.toNatClampNeg a1)) a1 0).bind (fun q13 => (some (q13.1, q13.2.1, q13.2.2.1, q13.2.2.2)))))))))))
set_option maxRecDepth 20000 in
set_option maxHeartbeats 4000000 in
theorem c_Tape_scanToken_L4 {Z : zCtx} {D n0w nf mcw msw : Nat} (hZ : zOk Z zMX7_scanToken) (hR : zCan Z D mcw msw) (hDd : 12 ≤ D) (hN : zNew Z n0w nf) (hRm : zRoom Z 0 0) (N : Nat) : ∀ (fuel : Nat) (v0 : VTape) (y1 : Int32) (y2 : Int32) (x3 : Int32) (q : (Int32)), f_Tape_scanToken_L4 N fuel v0 y1 y2 x3 = some q → (AW Z 0 0 31 [some (.ref 0), some (.int y1), some (.int y2), some (.int q)] [] ([kTape 0 v0] : List (List zE)).flatten) → AW Z 0 0 4 [some (.ref 0), some (.int y1), some (.int y2), some (.int x3)] [] ([kTape 0 v0] : List (List zE)).flatten := by
  intro fuel
  induction fuel with
  | zero =>
    intro v0 y1 y2 x3 q hf hk0
    simp [f_Tape_scanToken_L4] at hf
  | succ fuel ih =>
    intro v0 y1 y2 x3 q hf hk0
    rw [f_Tape_scanToken_L4] at hf
    refine AW.run hZ hRm [18, 31] 400 ?_
    show ((((Tape_length v0) ≤ x3) → AW Z 0 0 31 [some (.ref 0), some (.int y1), some (.int y2), some (.int x3)] [] ([kTape 0 v0] : List (List zE)).flatten) ∧ (¬ ((Tape_length v0) ≤ x3) → (¬ (x3 < 0 ∨ 1000 ≤ Int32.toNatClampNeg x3) ∧ AW Z 0 0 18 [some (.ref 0), some (.int y1), some (.int y2), some (.int x3)] [.int ((Tape_signs v0) (Int32.toNatClampNeg x3))] ([kTape 0 v0] : List (List zE)).flatten)))
    refine ⟨fun c1 => ?_, fun c1 => ?_⟩
    · rw [if_pos c1] at hf
      cases hf
      exact hk0
    · rw [if_neg c1] at hf
      obtain ⟨b5, hf⟩ := zneed hf
      refine ⟨b5, ?_⟩
      obtain ⟨q2, h4, hf⟩ := zbind hf
      refine AW.callSc hZ hR hN (c_Tape_sortOf N ((Tape_signs v0) (Int32.toNatClampNeg x3)) q2 h4) zMX7_sortOf_ok rfl rfl zK_BorrowedLives_Tape_41 zV_X7_sortOf rfl [5] [] [] rfl rfl rfl (by decide) (by decide) (by omega) (by decide) (Nat.zero_le _) (Nat.zero_le _) rfl rfl ?_
      rintro v cc ⟨rfl, rfl⟩
      refine ⟨_, rfl, rfl, ?_⟩
      show AW Z 0 0 21 [some (.ref 0), some (.int y1), some (.int y2), some (.int x3)] [.int q2] ([kTape 0 v0] : List (List zE)).flatten
      refine AW.run hZ hRm [4, 31] 400 ?_
      show ((¬ (q2 = y2) → AW Z 0 0 31 [some (.ref 0), some (.int y1), some (.int y2), some (.int x3)] [] ([kTape 0 v0] : List (List zE)).flatten) ∧ ((q2 = y2) → AW Z 0 0 4 [some (.ref 0), some (.int y1), some (.int y2), some (.int (x3 + 1))] [] ([kTape 0 v0] : List (List zE)).flatten))
      refine ⟨fun c3 => ?_, fun c3 => ?_⟩
      · rw [if_neg c3] at hf
        cases hf
        exact hk0
      · rw [if_pos c3] at hf
        exact ih v0 y1 y2 (x3 + 1) q hf hk0
set_option maxRecDepth 20000 in
set_option maxHeartbeats 4000000 in
theorem c_Tape_scanToken (N : Nat) (v0 : VTape) (a1 : Int32) (a2 : Int32) (R : (Nat → Int32) × (Nat → Int32) × (Nat → Int64) × Int32) (hf : f_Tape_scanToken N v0 a1 a2 = some R) : Ct zMX7_scanToken 12 0 0 0 [.ref 0, .int a1, .int a2] ([kTape 0 v0] : List (List zE)).flatten (fun v cc => v = none ∧ cc = ([kTape 0 (Tape_s_tokens_places_values_tokenCount v0 R.1 R.2.1 R.2.2.1 R.2.2.2)] : List (List zE)).flatten) := by
  refine Ct.of zMX7_scanToken_ok (by decide) (Nat.le_of_ble_eq_true rfl) ?_
  intro Z hZ hR hN hE
  have hRm : zRoom Z 0 0 := zRoom0 Z
  unfold f_Tape_scanToken at hf
  show AW Z 0 0 0 [some (.ref 0), some (.int a1), some (.int a2), none] [] ([kTape 0 v0] : List (List zE)).flatten
  refine AW.run hZ hRm [4] 400 ?_
  show AW Z 0 0 4 [some (.ref 0), some (.int a1), some (.int a2), some (.int (a1 + 1))] [] ([kTape 0 v0] : List (List zE)).flatten
  obtain ⟨q6, h7, hf⟩ := zbind hf
  refine c_Tape_scanToken_L4 hZ hR (by omega) hN hRm N N v0 a1 a2 (a1 + 1) q6 h7 ?_
  show AW Z 0 0 31 [some (.ref 0), some (.int a1), some (.int a2), some (.int q6)] [] ([kTape 0 v0] : List (List zE)).flatten
  refine AW.run hZ hRm [39, 53, 60] 400 ?_
  show ((¬ (a2 = 1) → ((¬ (a2 = 2) → AW Z 0 0 60 [some (.ref 0), some (.int a1), some (.int a2), some (.int q6)] [.ref 0] ([kTape 0 v0] : List (List zE)).flatten) ∧ ((a2 = 2) → AW Z 0 0 53 [some (.ref 0), some (.int a1), some (.int a2), some (.int q6)] [.int q6, .int a1, .ref 0] ([kTape 0 v0] : List (List zE)).flatten))) ∧ ((a2 = 1) → AW Z 0 0 39 [some (.ref 0), some (.int a1), some (.int a2), some (.int q6)] [.int q6, .int a1, .ref 0] ([kTape 0 v0] : List (List zE)).flatten))
  refine ⟨fun c8 => ?_, fun c8 => ?_⟩
  · rw [if_neg c8] at hf
    refine ⟨fun c9 => ?_, fun c9 => ?_⟩
    · rw [if_neg c9] at hf
      refine AW.ldcT0 hZ rfl rfl rfl ?_
      show AW Z 0 0 62 [some (.ref 0), some (.int a1), some (.int a2), some (.int q6)] [.ref 1000000, .ref 0] ([kTape 0 v0] : List (List zE)).flatten
      refine AW.run hZ hRm [68] 400 ?_
      show (¬ (a1 < 0 ∨ 1000 ≤ Int32.toNatClampNeg a1) ∧ AW Z 0 0 68 [some (.ref 0), some (.int a1), some (.int a2), some (.int q6)] [.int ((Tape_signs v0) (Int32.toNatClampNeg a1)), .ref 1000000, .ref 0] ([kTape 0 v0] : List (List zE)).flatten)
      obtain ⟨b16, hf⟩ := zneed hf
      refine ⟨b16, ?_⟩
      refine AW.callVs (i := 0) (by decide) (ps := []) rfl rfl hZ hR hN (c_J_indexOf (c := ((Tape_signs v0) (Int32.toNatClampNeg a1)))) zMJ0_indexOf_0f7a4_ok rfl rfl zK_BorrowedLives_Tape_61 zV_J0_indexOf_0f7a4 rfl rfl (by decide) (Or.inl rfl) (by decide) (by omega) (by decide) (Nat.zero_le _) (Nat.zero_le _) rfl rfl ?_
      rintro v cc ⟨rfl, rfl⟩ -
      show AW Z 0 0 71 [some (.ref 0), some (.int a1), some (.int a2), some (.int q6)] [.int (zidx ((Tape_signs v0) (Int32.toNatClampNeg a1))), .ref 0] ([kTape 0 v0] : List (List zE)).flatten
      refine AW.run hZ hRm [86] 400 ?_
      show ((((zidx ((Tape_signs v0) (Int32.toNatClampNeg a1))) < 0) → AW Z 0 0 86 [some (.ref 0), some (.int a1), some (.int a2), some (.int q6)] [.long 0, .int a1, .int 3, .ref 0] ([kTape 0 v0] : List (List zE)).flatten) ∧ (¬ ((zidx ((Tape_signs v0) (Int32.toNatClampNeg a1))) < 0) → (¬ (a1 < 0 ∨ 1000 ≤ Int32.toNatClampNeg a1) ∧ AW Z 0 0 86 [some (.ref 0), some (.int a1), some (.int a2), some (.int q6)] [.long 0, .int a1, .int ((Tape_signs v0) (Int32.toNatClampNeg a1)), .ref 0] ([kTape 0 v0] : List (List zE)).flatten)))
      refine ⟨fun c10 => ?_, fun c10 => ?_⟩
      · rw [if_pos c10] at hf
        obtain ⟨q11, h12, hf⟩ := zbind hf
        refine AW.callVc hZ hR hN (c_Tape_addToken N v0 3 a1 0 q11 h12) zMX7_addToken_ok rfl rfl zK_BorrowedLives_Tape_49 zV_X7_addToken rfl [5] [0] [0, 1, 2, 3, 4] rfl rfl rfl (by decide) (by decide) (by omega) (by decide) (Nat.zero_le _) (Nat.zero_le _) rfl rfl rfl rfl rfl ?_
        rintro v cc ⟨rfl, rfl⟩
        refine ⟨_, rfl, rfl, ?_⟩
        show AW Z 0 0 89 [some (.ref 0), some (.int a1), some (.int a2), some (.int q6)] [] ([kTape 0 (Tape_s_tokens_places_values_tokenCount v0 q11.1 q11.2.1 q11.2.2.1 q11.2.2.2)] : List (List zE)).flatten
        cases hf
        exact AW.vret hZ hE rfl rfl rfl (Nat.le_refl 0) (Nat.le_refl 0) rfl ⟨rfl, rfl⟩
      · rw [if_neg c10] at hf
        obtain ⟨b15, hf⟩ := zneed hf
        refine ⟨b15, ?_⟩
        obtain ⟨q13, h14, hf⟩ := zbind hf
        refine AW.callVc hZ hR hN (c_Tape_addToken N v0 ((Tape_signs v0) (Int32.toNatClampNeg a1)) a1 0 q13 h14) zMX7_addToken_ok rfl rfl zK_BorrowedLives_Tape_49 zV_X7_addToken rfl [5] [0] [0, 1, 2, 3, 4] rfl rfl rfl (by decide) (by decide) (by omega) (by decide) (Nat.zero_le _) (Nat.zero_le _) rfl rfl rfl rfl rfl ?_
        rintro v cc ⟨rfl, rfl⟩
        refine ⟨_, rfl, rfl, ?_⟩
        show AW Z 0 0 89 [some (.ref 0), some (.int a1), some (.int a2), some (.int q6)] [] ([kTape 0 (Tape_s_tokens_places_values_tokenCount v0 q13.1 q13.2.1 q13.2.2.1 q13.2.2.2)] : List (List zE)).flatten
        cases hf
        exact AW.vret hZ hE rfl rfl rfl (Nat.le_refl 0) (Nat.le_refl 0) rfl ⟨rfl, rfl⟩
    · rw [if_pos c9] at hf
      obtain ⟨q17, h18, hf⟩ := zbind hf
      refine AW.callVc hZ hR hN (c_Tape_scanNumber N v0 a1 q6 q17 h18) zMX7_scanNumber_ok rfl rfl zK_BorrowedLives_Tape_56 zV_X7_scanNumber rfl [5] [0] [0, 1, 2, 3, 4] rfl rfl rfl (by decide) (by decide) (by omega) (by decide) (Nat.zero_le _) (Nat.zero_le _) rfl rfl rfl rfl rfl ?_
      rintro v cc ⟨rfl, rfl⟩
      refine ⟨_, rfl, rfl, ?_⟩
      show AW Z 0 0 56 [some (.ref 0), some (.int a1), some (.int a2), some (.int q6)] [] ([kTape 0 (Tape_s_tokens_places_values_tokenCount v0 q17.1 q17.2.1 q17.2.2.1 q17.2.2.2)] : List (List zE)).flatten
      refine AW.run hZ hRm [89] 400 ?_
      show AW Z 0 0 89 [some (.ref 0), some (.int a1), some (.int a2), some (.int q6)] [] ([kTape 0 (Tape_s_tokens_places_values_tokenCount v0 q17.1 q17.2.1 q17.2.2.1 q17.2.2.2)] : List (List zE)).flatten
      cases hf
      exact AW.vret hZ hE rfl rfl rfl (Nat.le_refl 0) (Nat.le_refl 0) rfl ⟨rfl, rfl⟩
  · rw [if_pos c8] at hf
    obtain ⟨q19, h20, hf⟩ := zbind hf
    refine AW.callVc hZ hR hN (c_Tape_scanWord N v0 a1 q6 q19 h20) zMX7_scanWord_ok rfl rfl zK_BorrowedLives_Tape_53 zV_X7_scanWord rfl [5] [0] [0, 1, 2, 3, 4] rfl rfl rfl (by decide) (by decide) (by omega) (by decide) (Nat.zero_le _) (Nat.zero_le _) rfl rfl rfl rfl rfl ?_
    rintro v cc ⟨rfl, rfl⟩
    refine ⟨_, rfl, rfl, ?_⟩
    show AW Z 0 0 42 [some (.ref 0), some (.int a1), some (.int a2), some (.int q6)] [] ([kTape 0 (Tape_s_tokens_places_values_tokenCount v0 q19.1 q19.2.1 q19.2.2.1 q19.2.2.2)] : List (List zE)).flatten
    refine AW.run hZ hRm [89] 400 ?_
    show AW Z 0 0 89 [some (.ref 0), some (.int a1), some (.int a2), some (.int q6)] [] ([kTape 0 (Tape_s_tokens_places_values_tokenCount v0 q19.1 q19.2.1 q19.2.2.1 q19.2.2.2)] : List (List zE)).flatten
    cases hf
    exact AW.vret hZ hE rfl rfl rfl (Nat.le_refl 0) (Nat.le_refl 0) rfl ⟨rfl, rfl⟩
