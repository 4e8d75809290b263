def f_R_deedsFrom_L62 (r_f_R_deedsFrom : (VR → Int32 → Int32 → Int32 → Int32 → Int32 → Int32 → Option ((Nat → Int32) × (Nat → Int32) × (Nat → Int32) × (Nat → Int32) × Int32 × Int32))) (N : Nat) : Nat → VR → Int32 → Int32 → (Nat → Int32) → Option ((Nat → Int32))
  | 0, _, _, _, _ => none
  | fuel + 1, v0, y1, x8, m_bestDeeds0 => (if (y1 ≤ x8) then (some m_bestDeeds0) else (if (x8 < 0 ∨ 7 ≤ Int32.toNatClampNeg x8) then none else (if (x8 < 0 ∨ 7 ≤ Int32.toNatClampNeg x8) then none else (zlet ((upd m_bestDeeds0 (Int32.toNatClampNeg x8) ((R_deed v0) (Int32.toNatClampNeg x8))) : (Nat → Int32)) (fun z31 => (f_R_deedsFrom_L62 r_f_R_deedsFrom N fuel v0 y1 (x8 + 1) z31))))))
def f_R_deedsFrom_b (r_f_R_deedsFrom : (VR → Int32 → Int32 → Int32 → Int32 → Int32 → Int32 → Option ((Nat → Int32) × (Nat → Int32) × (Nat → Int32) × (Nat → Int32) × Int32 × Int32))) (N : Nat) (v0 : VR) (a1 : Int32) (a2 : Int32) (a3 : Int32) (a4 : Int32) (a5 : Int32) (a6 : Int32) : Option ((Nat → Int32) × (Nat → Int32) × (Nat → Int32) × (Nat → Int32) × Int32 × Int32) := (if (a1 = (R_deedsMany v0)) then ((f_R_goodOf N v0 (if (a4 ≤ a3) then (a3 - a4) else 0) a5 a6).bind (fun q28 => (if ((R_isFound v0) = 0) then ((f_R_deedsFrom_L62 r_f_R_deedsFrom N N (R_s_facts_pile_mostGood_isFound v0 q28.2.1 q28.2.2 q28.1 1) a1 0 (R_bestDeeds v0)).bind (fun q34 => (some (q28.2.1, q28.2.2, (R_deed v0), q34, q28.1, 1)))) else (if (q28.1 ≤ (R_mostGood v0)) then (some (q28.2.1, q28.2.2, (R_deed v0), (R_bestDeeds v0), (R_mostGood v0), (R_isFound v0))) else ((f_R_deedsFrom_L62 r_f_R_deedsFrom N N (R_s_facts_pile_mostGood_isFound v0 q28.2.1 q28.2.2 q28.1 1) a1 0 (R_bestDeeds v0)).bind (fun q37 => (some (q28.2.1, q28.2.2, (R_deed v0), q37, q28.1, 1)))))))) else (zlet ((if (((if (10 ≤ a5) then 10 else a5) : Int32) ≤ a3) then (if (10 ≤ a5) then 10 else a5) else a3) : Int32) (fun z8 => (if (a1 < 0 ∨ 7 ≤ Int32.toNatClampNeg a1) then none else (zlet ((upd (R_deed v0) (Int32.toNatClampNeg a1) 0) : (Nat → Int32)) (fun z11 => ((r_f_R_deedsFrom (R_deed_s v0 z11) (a1 + 1) a2 (if ((a3 + a2) ≤ 9999) then (a3 + a2) else 9999) a4 a5 a6).bind (fun q12 => (if (a1 < 0 ∨ 7 ≤ Int32.toNatClampNeg a1) then none else (zlet ((upd q12.2.2.1 (Int32.toNatClampNeg a1) 1) : (Nat → Int32)) (fun z13 => ((r_f_R_deedsFrom (R_s_facts_pile_deed_bestDeeds_mostGood_isFound v0 q12.1 q12.2.1 z13 q12.2.2.2.1 q12.2.2.2.2.1 q12.2.2.2.2.2) (a1 + 1) a2 (a3 - z8) a4 (a5 - z8) a6).bind (fun q14 => (if (a1 < 0 ∨ 7 ≤ Int32.toNatClampNeg a1) then none else (zlet ((upd q14.2.2.1 (Int32.toNatClampNeg a1) 2) : (Nat → Int32)) (fun z15 => (zlet ((if ((a6 + (if (a2 ≤ 4) then 1 else 2)) ≤ 9) then (a6 + (if (a2 ≤ 4) then 1 else 2)) else 9) : Int32) (fun z18 => ((r_f_R_deedsFrom (R_s_facts_pile_deed_bestDeeds_mostGood_isFound v0 q14.1 q14.2.1 z15 q14.2.2.2.1 q14.2.2.2.2.1 q14.2.2.2.2.2) (a1 + 1) a2 a3 a4 a5 z18).bind (fun q19 => (some (q19.1, q19.2.1, q19.2.2.1, q19.2.2.2.1, q19.2.2.2.2.1, q19.2.2.2.2.2))))))))))))))))))))))
def g_R_deedsFrom (N : Nat) : Nat → (VR → Int32 → Int32 → Int32 → Int32 → Int32 → Int32 → Option ((Nat → Int32) × (Nat → Int32) × (Nat → Int32) × (Nat → Int32) × Int32 × Int32))
  | 0 => (fun _ _ _ _ _ _ _ => none)
  | n + 1 => f_R_deedsFrom_b (g_R_deedsFrom N n) N
def f_R_deedsFrom (e N : Nat) (v0 : VR) (a1 : Int32) (a2 : Int32) (a3 : Int32) (a4 : Int32) (a5 : Int32) (a6 : Int32) : Option ((Nat → Int32) × (Nat → Int32) × (Nat → Int32) × (Nat → Int32) × Int32 × Int32) := (g_R_deedsFrom N e) v0 a1 a2 a3 a4 a5 a6
set_option maxRecDepth 20000 in
set_option maxHeartbeats 4000000 in
theorem c_R_deedsFrom_L62 {r_f_R_deedsFrom : (VR → Int32 → Int32 → Int32 → Int32 → Int32 → Int32 → Option ((Nat → Int32) × (Nat → Int32) × (Nat → Int32) × (Nat → Int32) × Int32 × Int32))} {e : Nat} {Z : zCtx} {D n0w nf mcw msw : Nat} (hZ : zOk Z zMX12_deedsFrom) (hR : zCan Z D mcw msw) (hDd : e + 4 ≤ D) (hN : zNew Z n0w nf) (hRm : zRoom Z 0 0) (hr_f_R_deedsFrom : ∀ (v0 : VR) (a1 : Int32) (a2 : Int32) (a3 : Int32) (a4 : Int32) (a5 : Int32) (a6 : Int32) (R : (Nat → Int32) × (Nat → Int32) × (Nat → Int32) × (Nat → Int32) × Int32 × Int32), r_f_R_deedsFrom v0 a1 a2 a3 a4 a5 a6 = some R → Ct zMX12_deedsFrom (e + 3) 0 0 0 [.ref 0, .int a1, .int a2, .int a3, .int a4, .int a5, .int a6] ([kR 0 v0] : List (List zE)).flatten (fun v cc => v = none ∧ cc = ([kR 0 (R_s_facts_pile_deed_bestDeeds_mostGood_isFound v0 R.1 R.2.1 R.2.2.1 R.2.2.2.1 R.2.2.2.2.1 R.2.2.2.2.2)] : List (List zE)).flatten)) (N : Nat) : ∀ (fuel : Nat) (v0 : VR) (y1 : Int32) (x8 : Int32) (m_bestDeeds0 : (Nat → Int32)) (q : ((Nat → Int32))), f_R_deedsFrom_L62 r_f_R_deedsFrom N fuel v0 y1 x8 m_bestDeeds0 = some q → (AW Z 0 0 88 [none, none, none, none, none, none, none, none, none, none] [] ([kR 0 (R_bestDeeds_s v0 q)] : List (List zE)).flatten) → AW Z 0 0 62 [some (.ref 0), some (.int y1), none, none, none, none, none, none, some (.int x8), none] [] ([kR 0 (R_bestDeeds_s v0 m_bestDeeds0)] : List (List zE)).flatten := by
  intro fuel
  induction fuel with
  | zero =>
    intro v0 y1 x8 m_bestDeeds0 q hf hk0
    simp [f_R_deedsFrom_L62] at hf
  | succ fuel ih =>
    intro v0 y1 x8 m_bestDeeds0 q hf hk0
    rw [f_R_deedsFrom_L62] at hf
    refine AW.run hZ hRm [82, 88] 400 ?_
    show (((y1 ≤ x8) → AW Z 0 0 88 [some (.ref 0), some (.int y1), none, none, none, none, none, none, some (.int x8), none] [] ([kR 0 (R_bestDeeds_s v0 m_bestDeeds0)] : List (List zE)).flatten) ∧ (¬ (y1 ≤ x8) → (¬ (x8 < 0 ∨ 7 ≤ Int32.toNatClampNeg x8) ∧ (¬ (x8 < 0 ∨ 7 ≤ Int32.toNatClampNeg x8) ∧ AW Z 0 0 82 [some (.ref 0), some (.int y1), none, none, none, none, none, none, some (.int x8), none] [] ([kR 0 (R_bestDeeds_s v0 (upd m_bestDeeds0 (Int32.toNatClampNeg x8) ((R_deed v0) (Int32.toNatClampNeg x8))))] : List (List zE)).flatten))))
    refine ⟨fun c30 => ?_, fun c30 => ?_⟩
    · rw [if_pos c30] at hf
      cases hf
      refine AW.forget [false, false, false, false, false, false, false, false, false, false] ?_
      show AW Z 0 0 88 [none, none, none, none, none, none, none, none, none, none] [] ([kR 0 (R_bestDeeds_s v0 m_bestDeeds0)] : List (List zE)).flatten
      exact hk0
    · rw [if_neg c30] at hf
      obtain ⟨b33, hf⟩ := zneed hf
      refine ⟨b33, ?_⟩
      obtain ⟨b32, hf⟩ := zneed hf
      refine ⟨b32, ?_⟩
      replace hf := zlet_gen hf
      generalize ((upd m_bestDeeds0 (Int32.toNatClampNeg x8) ((R_deed v0) (Int32.toNatClampNeg x8))) : (Nat → Int32)) = z31 at hf ⊢
      as_aux_lemma =>
        refine AW.run hZ hRm [62] 400 ?_
        show AW Z 0 0 62 [some (.ref 0), some (.int y1), none, none, none, none, none, none, some (.int (x8 + 1)), none] [] ([kR 0 (R_bestDeeds_s v0 z31)] : List (List zE)).flatten
        exact ih v0 y1 (x8 + 1) z31 q hf hk0
set_option maxRecDepth 20000 in
set_option maxHeartbeats 4000000 in
theorem c_R_deedsFrom_b {r_f_R_deedsFrom : (VR → Int32 → Int32 → Int32 → Int32 → Int32 → Int32 → Option ((Nat → Int32) × (Nat → Int32) × (Nat → Int32) × (Nat → Int32) × Int32 × Int32))} {e : Nat} (hr_f_R_deedsFrom : ∀ (v0 : VR) (a1 : Int32) (a2 : Int32) (a3 : Int32) (a4 : Int32) (a5 : Int32) (a6 : Int32) (R : (Nat → Int32) × (Nat → Int32) × (Nat → Int32) × (Nat → Int32) × Int32 × Int32), r_f_R_deedsFrom v0 a1 a2 a3 a4 a5 a6 = some R → Ct zMX12_deedsFrom (e + 3) 0 0 0 [.ref 0, .int a1, .int a2, .int a3, .int a4, .int a5, .int a6] ([kR 0 v0] : List (List zE)).flatten (fun v cc => v = none ∧ cc = ([kR 0 (R_s_facts_pile_deed_bestDeeds_mostGood_isFound v0 R.1 R.2.1 R.2.2.1 R.2.2.2.1 R.2.2.2.2.1 R.2.2.2.2.2)] : List (List zE)).flatten)) (N : Nat) (v0 : VR) (a1 : Int32) (a2 : Int32) (a3 : Int32) (a4 : Int32) (a5 : Int32) (a6 : Int32) (R : (Nat → Int32) × (Nat → Int32) × (Nat → Int32) × (Nat → Int32) × Int32 × Int32) (hf : f_R_deedsFrom_b r_f_R_deedsFrom N v0 a1 a2 a3 a4 a5 a6 = some R) : Ct zMX12_deedsFrom (e + 4) 0 0 0 [.ref 0, .int a1, .int a2, .int a3, .int a4, .int a5, .int a6] ([kR 0 v0] : List (List zE)).flatten (fun v cc => v = none ∧ cc = ([kR 0 (R_s_facts_pile_deed_bestDeeds_mostGood_isFound v0 R.1 R.2.1 R.2.2.1 R.2.2.2.1 R.2.2.2.2.1 R.2.2.2.2.2)] : List (List zE)).flatten) := by
  refine Ct.of zMX12_deedsFrom_ok (by omega) (Nat.le_of_ble_eq_true rfl) ?_
  intro Z hZ hR hN hE
  have hRm : zRoom Z 0 0 := zRoom0 Z
  unfold f_R_deedsFrom_b at hf
  show AW Z 0 0 0 [some (.ref 0), some (.int a1), some (.int a2), some (.int a3), some (.int a4), some (.int a5), some (.int a6), none, none, none] [] ([kR 0 v0] : List (List zE)).flatten
  refine AW.run hZ hRm [12, 95] 400 ?_
  show ((¬ (a1 = (R_deedsMany v0)) → AW Z 0 0 95 [some (.ref 0), some (.int a1), some (.int a2), some (.int a3), some (.int a4), some (.int a5), some (.int a6), none, none, none] [.int 9999, .int (a3 + a2)] ([kR 0 v0] : List (List zE)).flatten) ∧ ((a1 = (R_deedsMany v0)) → AW Z 0 0 12 [some (.ref 0), some (.int a1), some (.int a2), some (.int a3), some (.int a4), some (.int a5), some (.int a6), none, none, none] [.int a4, .int a3, .ref 0] ([kR 0 v0] : List (List zE)).flatten))
  refine ⟨fun c1 => ?_, fun c1 => ?_⟩
  · rw [if_neg c1] at hf
    suffices H2 : AW Z 0 0 107 [some (.ref 0), some (.int a1), some (.int a2), some (.int a3), some (.int a4), some (.int a5), some (.int a6), none, none, none] [.int (if ((a3 + a2) ≤ 9999) then (a3 + a2) else 9999)] ([kR 0 v0] : List (List zE)).flatten from by
      refine AW.run hZ hRm [107] 400 ?_
      show ((((a3 + a2) ≤ 9999) → AW Z 0 0 107 [some (.ref 0), some (.int a1), some (.int a2), some (.int a3), some (.int a4), some (.int a5), some (.int a6), none, none, none] [.int (a3 + a2)] ([kR 0 v0] : List (List zE)).flatten) ∧ (¬ ((a3 + a2) ≤ 9999) → AW Z 0 0 107 [some (.ref 0), some (.int a1), some (.int a2), some (.int a3), some (.int a4), some (.int a5), some (.int a6), none, none, none] [.int 9999] ([kR 0 v0] : List (List zE)).flatten))
      refine ⟨fun c3 => ?_, fun c3 => ?_⟩
      · simpa only [if_pos c3] using H2
      · simpa only [if_neg c3] using H2
    refine AW.run hZ hRm [113] 400 ?_
    show AW Z 0 0 113 [some (.ref 0), some (.int a1), some (.int a2), some (.int a3), some (.int a4), some (.int a5), some (.int a6), some (.int (if ((a3 + a2) ≤ 9999) then (a3 + a2) else 9999)), none, none] [.int 10, .int a5] ([kR 0 v0] : List (List zE)).flatten
    suffices H4 : AW Z 0 0 123 [some (.ref 0), some (.int a1), some (.int a2), some (.int a3), some (.int a4), some (.int a5), some (.int a6), some (.int (if ((a3 + a2) ≤ 9999) then (a3 + a2) else 9999)), none, none] [.int (if (10 ≤ a5) then 10 else a5)] ([kR 0 v0] : List (List zE)).flatten from by
      refine AW.run hZ hRm [123] 400 ?_
      show (((10 ≤ a5) → AW Z 0 0 123 [some (.ref 0), some (.int a1), some (.int a2), some (.int a3), some (.int a4), some (.int a5), some (.int a6), some (.int (if ((a3 + a2) ≤ 9999) then (a3 + a2) else 9999)), none, none] [.int 10] ([kR 0 v0] : List (List zE)).flatten) ∧ (¬ (10 ≤ a5) → AW Z 0 0 123 [some (.ref 0), some (.int a1), some (.int a2), some (.int a3), some (.int a4), some (.int a5), some (.int a6), some (.int (if ((a3 + a2) ≤ 9999) then (a3 + a2) else 9999)), none, none] [.int a5] ([kR 0 v0] : List (List zE)).flatten))
      refine ⟨fun c5 => ?_, fun c5 => ?_⟩
      · simpa only [if_pos c5] using H4
      · simpa only [if_neg c5] using H4
    refine AW.run hZ hRm [128] 400 ?_
    show AW Z 0 0 128 [some (.ref 0), some (.int a1), some (.int a2), some (.int a3), some (.int a4), some (.int a5), some (.int a6), some (.int (if ((a3 + a2) ≤ 9999) then (a3 + a2) else 9999)), some (.int (if (10 ≤ a5) then 10 else a5)), none] [.int (if (10 ≤ a5) then 10 else a5), .int a3] ([kR 0 v0] : List (List zE)).flatten
    suffices H6 : AW Z 0 0 137 [some (.ref 0), some (.int a1), some (.int a2), some (.int a3), some (.int a4), some (.int a5), some (.int a6), some (.int (if ((a3 + a2) ≤ 9999) then (a3 + a2) else 9999)), none, none] [.int (if (((if (10 ≤ a5) then 10 else a5) : Int32) ≤ a3) then (if (10 ≤ a5) then 10 else a5) else a3)] ([kR 0 v0] : List (List zE)).flatten from by
      refine AW.run hZ hRm [137] 400 ?_
      show (((((if (10 ≤ a5) then 10 else a5) : Int32) ≤ a3) → AW Z 0 0 137 [some (.ref 0), some (.int a1), some (.int a2), some (.int a3), some (.int a4), some (.int a5), some (.int a6), some (.int (if ((a3 + a2) ≤ 9999) then (a3 + a2) else 9999)), some (.int (if (10 ≤ a5) then 10 else a5)), none] [.int (if (10 ≤ a5) then 10 else a5)] ([kR 0 v0] : List (List zE)).flatten) ∧ (¬ (((if (10 ≤ a5) then 10 else a5) : Int32) ≤ a3) → AW Z 0 0 137 [some (.ref 0), some (.int a1), some (.int a2), some (.int a3), some (.int a4), some (.int a5), some (.int a6), some (.int (if ((a3 + a2) ≤ 9999) then (a3 + a2) else 9999)), some (.int (if (10 ≤ a5) then 10 else a5)), none] [.int a3] ([kR 0 v0] : List (List zE)).flatten))
      refine ⟨fun c7 => ?_, fun c7 => ?_⟩
      · refine AW.forget [true, true, true, true, true, true, true, true, false, false] ?_
        show AW Z 0 0 137 [some (.ref 0), some (.int a1), some (.int a2), some (.int a3), some (.int a4), some (.int a5), some (.int a6), some (.int (if ((a3 + a2) ≤ 9999) then (a3 + a2) else 9999)), none, none] [.int (if (10 ≤ a5) then 10 else a5)] ([kR 0 v0] : List (List zE)).flatten
        simpa only [if_pos c7] using H6
      · refine AW.forget [true, true, true, true, true, true, true, true, false, false] ?_
        show AW Z 0 0 137 [some (.ref 0), some (.int a1), some (.int a2), some (.int a3), some (.int a4), some (.int a5), some (.int a6), some (.int (if ((a3 + a2) ≤ 9999) then (a3 + a2) else 9999)), none, none] [.int a3] ([kR 0 v0] : List (List zE)).flatten
        simpa only [if_neg c7] using H6
    replace hf := zlet_gen hf
    generalize ((if (((if (10 ≤ a5) then 10 else a5) : Int32) ≤ a3) then (if (10 ≤ a5) then 10 else a5) else a3) : Int32) = z8 at hf ⊢
    refine AW.run hZ hRm [143] 400 ?_
    show AW Z 0 0 143 [some (.ref 0), some (.int a1), some (.int a2), some (.int a3), some (.int a4), some (.int a5), some (.int a6), some (.int (if ((a3 + a2) ≤ 9999) then (a3 + a2) else 9999)), some (.int z8), none] [.int 4, .int a2, .int a6] ([kR 0 v0] : List (List zE)).flatten
    suffices H9 : AW Z 0 0 151 [some (.ref 0), some (.int a1), some (.int a2), some (.int a3), some (.int a4), some (.int a5), some (.int a6), some (.int (if ((a3 + a2) ≤ 9999) then (a3 + a2) else 9999)), some (.int z8), none] [.int (if (a2 ≤ 4) then 1 else 2), .int a6] ([kR 0 v0] : List (List zE)).flatten from by
      refine AW.run hZ hRm [151] 400 ?_
      show (((a2 ≤ 4) → AW Z 0 0 151 [some (.ref 0), some (.int a1), some (.int a2), some (.int a3), some (.int a4), some (.int a5), some (.int a6), some (.int (if ((a3 + a2) ≤ 9999) then (a3 + a2) else 9999)), some (.int z8), none] [.int 1, .int a6] ([kR 0 v0] : List (List zE)).flatten) ∧ (¬ (a2 ≤ 4) → AW Z 0 0 151 [some (.ref 0), some (.int a1), some (.int a2), some (.int a3), some (.int a4), some (.int a5), some (.int a6), some (.int (if ((a3 + a2) ≤ 9999) then (a3 + a2) else 9999)), some (.int z8), none] [.int 2, .int a6] ([kR 0 v0] : List (List zE)).flatten))
      refine ⟨fun c10 => ?_, fun c10 => ?_⟩
      · simpa only [if_pos c10] using H9
      · simpa only [if_neg c10] using H9
    refine AW.run hZ hRm [161] 400 ?_
    show (¬ (a1 < 0 ∨ 7 ≤ Int32.toNatClampNeg a1) ∧ AW Z 0 0 161 [some (.ref 0), some (.int a1), some (.int a2), some (.int a3), some (.int a4), some (.int a5), some (.int a6), some (.int (if ((a3 + a2) ≤ 9999) then (a3 + a2) else 9999)), some (.int z8), some (.int (a6 + (if (a2 ≤ 4) then 1 else 2)))] [] ([kR 0 (R_deed_s v0 (upd (R_deed v0) (Int32.toNatClampNeg a1) 0))] : List (List zE)).flatten)
    obtain ⟨b25, hf⟩ := zneed hf
    refine ⟨b25, ?_⟩
    replace hf := zlet_gen hf
    generalize ((upd (R_deed v0) (Int32.toNatClampNeg a1) 0) : (Nat → Int32)) = z11 at hf ⊢
    as_aux_lemma =>
      refine AW.run hZ hRm [174] 400 ?_
      show AW Z 0 0 174 [some (.ref 0), some (.int a1), some (.int a2), some (.int a3), some (.int a4), some (.int a5), some (.int a6), some (.int (if ((a3 + a2) ≤ 9999) then (a3 + a2) else 9999)), some (.int z8), some (.int (a6 + (if (a2 ≤ 4) then 1 else 2)))] [.int a6, .int a5, .int a4, .int (if ((a3 + a2) ≤ 9999) then (a3 + a2) else 9999), .int a2, .int (a1 + 1), .ref 0] ([kR 0 (R_deed_s v0 z11)] : List (List zE)).flatten
      obtain ⟨q12, h24, hf⟩ := zbind hf
      refine AW.callVc hZ hR hN (hr_f_R_deedsFrom (R_deed_s v0 z11) (a1 + 1) a2 (if ((a3 + a2) ≤ 9999) then (a3 + a2) else 9999) a4 a5 a6 q12 h24) zMX12_deedsFrom_ok rfl rfl zK_BorrowedLivesModel_434 zV_X12_deedsFrom rfl [25] [0] [0, 1, 2, 3, 4, 5, 6, 7, 8, 9, 10, 11, 12, 13, 14, 15, 16, 17, 18, 19, 20, 21, 22, 23, 24] rfl rfl rfl (by decide) (by decide) (by omega) (by decide) (Nat.zero_le _) (Nat.zero_le _) rfl rfl rfl rfl rfl ?_
      rintro v cc ⟨rfl, rfl⟩
      refine ⟨_, rfl, rfl, ?_⟩
      show AW Z 0 0 177 [some (.ref 0), some (.int a1), some (.int a2), some (.int a3), some (.int a4), some (.int a5), some (.int a6), some (.int (if ((a3 + a2) ≤ 9999) then (a3 + a2) else 9999)), some (.int z8), some (.int (a6 + (if (a2 ≤ 4) then 1 else 2)))] [] ([kR 0 (R_s_facts_pile_deed_bestDeeds_mostGood_isFound v0 q12.1 q12.2.1 q12.2.2.1 q12.2.2.2.1 q12.2.2.2.2.1 q12.2.2.2.2.2)] : List (List zE)).flatten
      refine AW.run hZ hRm [184] 400 ?_
      show (¬ (a1 < 0 ∨ 7 ≤ Int32.toNatClampNeg a1) ∧ AW Z 0 0 184 [some (.ref 0), some (.int a1), some (.int a2), some (.int a3), some (.int a4), some (.int a5), some (.int a6), some (.int (if ((a3 + a2) ≤ 9999) then (a3 + a2) else 9999)), some (.int z8), some (.int (a6 + (if (a2 ≤ 4) then 1 else 2)))] [] ([kR 0 (R_s_facts_pile_deed_bestDeeds_mostGood_isFound v0 q12.1 q12.2.1 (upd q12.2.2.1 (Int32.toNatClampNeg a1) 1) q12.2.2.2.1 q12.2.2.2.2.1 q12.2.2.2.2.2)] : List (List zE)).flatten)
      obtain ⟨b23, hf⟩ := zneed hf
      refine ⟨b23, ?_⟩
      replace hf := zlet_gen hf
      generalize ((upd q12.2.2.1 (Int32.toNatClampNeg a1) 1) : (Nat → Int32)) = z13 at hf ⊢
      as_aux_lemma =>
        refine AW.run hZ hRm [202] 400 ?_
        show AW Z 0 0 202 [some (.ref 0), some (.int a1), some (.int a2), some (.int a3), some (.int a4), some (.int a5), some (.int a6), some (.int (if ((a3 + a2) ≤ 9999) then (a3 + a2) else 9999)), some (.int z8), some (.int (a6 + (if (a2 ≤ 4) then 1 else 2)))] [.int a6, .int (a5 - z8), .int a4, .int (a3 - z8), .int a2, .int (a1 + 1), .ref 0] ([kR 0 (R_s_facts_pile_deed_bestDeeds_mostGood_isFound v0 q12.1 q12.2.1 z13 q12.2.2.2.1 q12.2.2.2.2.1 q12.2.2.2.2.2)] : List (List zE)).flatten
        obtain ⟨q14, h22, hf⟩ := zbind hf
        refine AW.callVc hZ hR hN (hr_f_R_deedsFrom (R_s_facts_pile_deed_bestDeeds_mostGood_isFound v0 q12.1 q12.2.1 z13 q12.2.2.2.1 q12.2.2.2.2.1 q12.2.2.2.2.2) (a1 + 1) a2 (a3 - z8) a4 (a5 - z8) a6 q14 h22) zMX12_deedsFrom_ok rfl rfl zK_BorrowedLivesModel_434 zV_X12_deedsFrom rfl [25] [0] [0, 1, 2, 3, 4, 5, 6, 7, 8, 9, 10, 11, 12, 13, 14, 15, 16, 17, 18, 19, 20, 21, 22, 23, 24] rfl rfl rfl (by decide) (by decide) (by omega) (by decide) (Nat.zero_le _) (Nat.zero_le _) rfl rfl rfl rfl rfl ?_
        rintro v cc ⟨rfl, rfl⟩
        refine ⟨_, rfl, rfl, ?_⟩
        show AW Z 0 0 205 [some (.ref 0), some (.int a1), some (.int a2), some (.int a3), some (.int a4), some (.int a5), some (.int a6), some (.int (if ((a3 + a2) ≤ 9999) then (a3 + a2) else 9999)), some (.int z8), some (.int (a6 + (if (a2 ≤ 4) then 1 else 2)))] [] ([kR 0 (R_s_facts_pile_deed_bestDeeds_mostGood_isFound v0 q14.1 q14.2.1 q14.2.2.1 q14.2.2.2.1 q14.2.2.2.2.1 q14.2.2.2.2.2)] : List (List zE)).flatten
        refine AW.run hZ hRm [212] 400 ?_
        show (¬ (a1 < 0 ∨ 7 ≤ Int32.toNatClampNeg a1) ∧ AW Z 0 0 212 [some (.ref 0), some (.int a1), some (.int a2), some (.int a3), some (.int a4), some (.int a5), some (.int a6), some (.int (if ((a3 + a2) ≤ 9999) then (a3 + a2) else 9999)), some (.int z8), some (.int (a6 + (if (a2 ≤ 4) then 1 else 2)))] [] ([kR 0 (R_s_facts_pile_deed_bestDeeds_mostGood_isFound v0 q14.1 q14.2.1 (upd q14.2.2.1 (Int32.toNatClampNeg a1) 2) q14.2.2.2.1 q14.2.2.2.2.1 q14.2.2.2.2.2)] : List (List zE)).flatten)
        obtain ⟨b21, hf⟩ := zneed hf
        refine ⟨b21, ?_⟩
        replace hf := zlet_gen hf
        generalize ((upd q14.2.2.1 (Int32.toNatClampNeg a1) 2) : (Nat → Int32)) = z15 at hf ⊢
        as_aux_lemma =>
          refine AW.run hZ hRm [226] 400 ?_
          show AW Z 0 0 226 [some (.ref 0), some (.int a1), some (.int a2), some (.int a3), some (.int a4), some (.int a5), some (.int a6), some (.int (if ((a3 + a2) ≤ 9999) then (a3 + a2) else 9999)), some (.int z8), some (.int (a6 + (if (a2 ≤ 4) then 1 else 2)))] [.int 9, .int (a6 + (if (a2 ≤ 4) then 1 else 2)), .int a5, .int a4, .int a3, .int a2, .int (a1 + 1), .ref 0] ([kR 0 (R_s_facts_pile_deed_bestDeeds_mostGood_isFound v0 q14.1 q14.2.1 z15 q14.2.2.2.1 q14.2.2.2.2.1 q14.2.2.2.2.2)] : List (List zE)).flatten
          suffices H16 : AW Z 0 0 236 [none, none, none, none, none, none, none, none, none, none] [.int (if ((a6 + (if (a2 ≤ 4) then 1 else 2)) ≤ 9) then (a6 + (if (a2 ≤ 4) then 1 else 2)) else 9), .int a5, .int a4, .int a3, .int a2, .int (a1 + 1), .ref 0] ([kR 0 (R_s_facts_pile_deed_bestDeeds_mostGood_isFound v0 q14.1 q14.2.1 z15 q14.2.2.2.1 q14.2.2.2.2.1 q14.2.2.2.2.2)] : List (List zE)).flatten from by
            refine AW.run hZ hRm [236] 400 ?_
            show ((((a6 + (if (a2 ≤ 4) then 1 else 2)) ≤ 9) → AW Z 0 0 236 [some (.ref 0), some (.int a1), some (.int a2), some (.int a3), some (.int a4), some (.int a5), some (.int a6), some (.int (if ((a3 + a2) ≤ 9999) then (a3 + a2) else 9999)), some (.int z8), some (.int (a6 + (if (a2 ≤ 4) then 1 else 2)))] [.int (a6 + (if (a2 ≤ 4) then 1 else 2)), .int a5, .int a4, .int a3, .int a2, .int (a1 + 1), .ref 0] ([kR 0 (R_s_facts_pile_deed_bestDeeds_mostGood_isFound v0 q14.1 q14.2.1 z15 q14.2.2.2.1 q14.2.2.2.2.1 q14.2.2.2.2.2)] : List (List zE)).flatten) ∧ (¬ ((a6 + (if (a2 ≤ 4) then 1 else 2)) ≤ 9) → AW Z 0 0 236 [some (.ref 0), some (.int a1), some (.int a2), some (.int a3), some (.int a4), some (.int a5), some (.int a6), some (.int (if ((a3 + a2) ≤ 9999) then (a3 + a2) else 9999)), some (.int z8), some (.int (a6 + (if (a2 ≤ 4) then 1 else 2)))] [.int 9, .int a5, .int a4, .int a3, .int a2, .int (a1 + 1), .ref 0] ([kR 0 (R_s_facts_pile_deed_bestDeeds_mostGood_isFound v0 q14.1 q14.2.1 z15 q14.2.2.2.1 q14.2.2.2.2.1 q14.2.2.2.2.2)] : List (List zE)).flatten))
            refine ⟨fun c17 => ?_, fun c17 => ?_⟩
            · refine AW.forget [false, false, false, false, false, false, false, false, false, false] ?_
              show AW Z 0 0 236 [none, none, none, none, none, none, none, none, none, none] [.int (a6 + (if (a2 ≤ 4) then 1 else 2)), .int a5, .int a4, .int a3, .int a2, .int (a1 + 1), .ref 0] ([kR 0 (R_s_facts_pile_deed_bestDeeds_mostGood_isFound v0 q14.1 q14.2.1 z15 q14.2.2.2.1 q14.2.2.2.2.1 q14.2.2.2.2.2)] : List (List zE)).flatten
              simpa only [if_pos c17] using H16
            · refine AW.forget [false, false, false, false, false, false, false, false, false, false] ?_
              show AW Z 0 0 236 [none, none, none, none, none, none, none, none, none, none] [.int 9, .int a5, .int a4, .int a3, .int a2, .int (a1 + 1), .ref 0] ([kR 0 (R_s_facts_pile_deed_bestDeeds_mostGood_isFound v0 q14.1 q14.2.1 z15 q14.2.2.2.1 q14.2.2.2.2.1 q14.2.2.2.2.2)] : List (List zE)).flatten
              simpa only [if_neg c17] using H16
          replace hf := zlet_gen hf
          generalize ((if ((a6 + (if (a2 ≤ 4) then 1 else 2)) ≤ 9) then (a6 + (if (a2 ≤ 4) then 1 else 2)) else 9) : Int32) = z18 at hf ⊢
          obtain ⟨q19, h20, hf⟩ := zbind hf
          refine AW.callVc hZ hR hN (hr_f_R_deedsFrom (R_s_facts_pile_deed_bestDeeds_mostGood_isFound v0 q14.1 q14.2.1 z15 q14.2.2.2.1 q14.2.2.2.2.1 q14.2.2.2.2.2) (a1 + 1) a2 a3 a4 a5 z18 q19 h20) zMX12_deedsFrom_ok rfl rfl zK_BorrowedLivesModel_434 zV_X12_deedsFrom rfl [25] [0] [0, 1, 2, 3, 4, 5, 6, 7, 8, 9, 10, 11, 12, 13, 14, 15, 16, 17, 18, 19, 20, 21, 22, 23, 24] rfl rfl rfl (by decide) (by decide) (by omega) (by decide) (Nat.zero_le _) (Nat.zero_le _) rfl rfl rfl rfl rfl ?_
          rintro v cc ⟨rfl, rfl⟩
          refine ⟨_, rfl, rfl, ?_⟩
          show AW Z 0 0 239 [none, none, none, none, none, none, none, none, none, none] [] ([kR 0 (R_s_facts_pile_deed_bestDeeds_mostGood_isFound v0 q19.1 q19.2.1 q19.2.2.1 q19.2.2.2.1 q19.2.2.2.2.1 q19.2.2.2.2.2)] : List (List zE)).flatten
          cases hf
          exact AW.vret hZ hE rfl rfl rfl (Nat.le_refl 0) (Nat.le_refl 0) rfl ⟨rfl, rfl⟩
  · rw [if_pos c1] at hf
    suffices H26 : AW Z 0 0 23 [some (.ref 0), some (.int a1), none, none, none, some (.int a5), some (.int a6), none, none, none] [.int (if (a4 ≤ a3) then (a3 - a4) else 0), .ref 0] ([kR 0 v0] : List (List zE)).flatten from by
      refine AW.run hZ hRm [23] 400 ?_
      show (((a4 ≤ a3) → AW Z 0 0 23 [some (.ref 0), some (.int a1), some (.int a2), some (.int a3), some (.int a4), some (.int a5), some (.int a6), none, none, none] [.int (a3 - a4), .ref 0] ([kR 0 v0] : List (List zE)).flatten) ∧ (¬ (a4 ≤ a3) → AW Z 0 0 23 [some (.ref 0), some (.int a1), some (.int a2), some (.int a3), some (.int a4), some (.int a5), some (.int a6), none, none, none] [.int 0, .ref 0] ([kR 0 v0] : List (List zE)).flatten))
      refine ⟨fun c27 => ?_, fun c27 => ?_⟩
      · refine AW.forget [true, true, false, false, false, true, true, false, false, false] ?_
        show AW Z 0 0 23 [some (.ref 0), some (.int a1), none, none, none, some (.int a5), some (.int a6), none, none, none] [.int (a3 - a4), .ref 0] ([kR 0 v0] : List (List zE)).flatten
        simpa only [if_pos c27] using H26
      · refine AW.forget [true, true, false, false, false, true, true, false, false, false] ?_
        show AW Z 0 0 23 [some (.ref 0), some (.int a1), none, none, none, some (.int a5), some (.int a6), none, none, none] [.int 0, .ref 0] ([kR 0 v0] : List (List zE)).flatten
        simpa only [if_neg c27] using H26
    refine AW.run hZ hRm [27] 400 ?_
    show AW Z 0 0 27 [some (.ref 0), some (.int a1), none, none, none, some (.int a5), some (.int a6), none, none, none] [.int a6, .int a5, .int (if (a4 ≤ a3) then (a3 - a4) else 0), .ref 0] ([kR 0 v0] : List (List zE)).flatten
    obtain ⟨q28, h39, hf⟩ := zbind hf
    refine AW.callVc hZ hR hN (c_R_goodOf N v0 (if (a4 ≤ a3) then (a3 - a4) else 0) a5 a6 q28 h39) zMX12_goodOf_ok rfl rfl zK_BorrowedLivesModel_425 zV_X12_goodOf rfl [25] [0] [0, 1, 2, 3, 4, 5, 6, 7, 8, 9, 10, 11, 12, 13, 14, 15, 16, 17, 18, 19, 20, 21, 22, 23, 24] rfl rfl rfl (by decide) (by decide) (by omega) (by decide) (Nat.zero_le _) (Nat.zero_le _) rfl rfl rfl rfl rfl ?_
    rintro v cc ⟨rfl, rfl⟩
    refine ⟨_, rfl, rfl, ?_⟩
    show AW Z 0 0 30 [some (.ref 0), some (.int a1), none, none, none, some (.int a5), some (.int a6), none, none, none] [.int q28.1] ([kR 0 (R_s_facts_pile v0 q28.2.1 q28.2.2)] : List (List zE)).flatten
    refine AW.run hZ hRm [62, 88] 400 ?_
    show ((((R_isFound v0) = 0) → (((1 : Int32) = 0 ∨ (1 : Int32) = 1) ∧ AW Z 0 0 62 [some (.ref 0), some (.int a1), none, none, none, some (.int a5), some (.int a6), some (.int q28.1), some (.int 0), none] [] ([kR 0 (R_s_facts_pile_mostGood_isFound v0 q28.2.1 q28.2.2 q28.1 1)] : List (List zE)).flatten)) ∧ (¬ ((R_isFound v0) = 0) → (((q28.1 ≤ (R_mostGood v0)) → AW Z 0 0 88 [some (.ref 0), some (.int a1), none, none, none, some (.int a5), some (.int a6), some (.int q28.1), none, none] [] ([kR 0 (R_s_facts_pile v0 q28.2.1 q28.2.2)] : List (List zE)).flatten) ∧ (¬ (q28.1 ≤ (R_mostGood v0)) → (((1 : Int32) = 0 ∨ (1 : Int32) = 1) ∧ AW Z 0 0 62 [some (.ref 0), some (.int a1), none, none, none, some (.int a5), some (.int a6), some (.int q28.1), some (.int 0), none] [] ([kR 0 (R_s_facts_pile_mostGood_isFound v0 q28.2.1 q28.2.2 q28.1 1)] : List (List zE)).flatten)))))
    refine ⟨fun c29 => ?_, fun c29 => ?_⟩
    · rw [if_pos c29] at hf
      refine ⟨(by decide), ?_⟩
      obtain ⟨q34, h35, hf⟩ := zbind hf
      refine AW.forget [true, true, false, false, false, false, false, false, true, false] ?_
      show AW Z 0 0 62 [some (.ref 0), some (.int a1), none, none, none, none, none, none, some (.int 0), none] [] ([kR 0 (R_s_facts_pile_mostGood_isFound v0 q28.2.1 q28.2.2 q28.1 1)] : List (List zE)).flatten
      refine c_R_deedsFrom_L62 hZ hR (by omega) hN hRm hr_f_R_deedsFrom N N (R_s_facts_pile_mostGood_isFound v0 q28.2.1 q28.2.2 q28.1 1) a1 0 (R_bestDeeds v0) q34 h35 ?_
      show AW Z 0 0 88 [none, none, none, none, none, none, none, none, none, none] [] ([kR 0 (R_s_facts_pile_bestDeeds_mostGood_isFound v0 q28.2.1 q28.2.2 q34 q28.1 1)] : List (List zE)).flatten
      cases hf
      exact AW.vret hZ hE rfl rfl rfl (Nat.le_refl 0) (Nat.le_refl 0) rfl ⟨rfl, rfl⟩
    · rw [if_neg c29] at hf
      refine ⟨fun c36 => ?_, fun c36 => ?_⟩
      · rw [if_pos c36] at hf
        cases hf
        exact AW.vret hZ hE rfl rfl rfl (Nat.le_refl 0) (Nat.le_refl 0) rfl ⟨rfl, rfl⟩
      · rw [if_neg c36] at hf
        refine ⟨(by decide), ?_⟩
        obtain ⟨q37, h38, hf⟩ := zbind hf
        refine AW.forget [true, true, false, false, false, false, false, false, true, false] ?_
        show AW Z 0 0 62 [some (.ref 0), some (.int a1), none, none, none, none, none, none, some (.int 0), none] [] ([kR 0 (R_s_facts_pile_mostGood_isFound v0 q28.2.1 q28.2.2 q28.1 1)] : List (List zE)).flatten
        refine c_R_deedsFrom_L62 hZ hR (by omega) hN hRm hr_f_R_deedsFrom N N (R_s_facts_pile_mostGood_isFound v0 q28.2.1 q28.2.2 q28.1 1) a1 0 (R_bestDeeds v0) q37 h38 ?_
        show AW Z 0 0 88 [none, none, none, none, none, none, none, none, none, none] [] ([kR 0 (R_s_facts_pile_bestDeeds_mostGood_isFound v0 q28.2.1 q28.2.2 q37 q28.1 1)] : List (List zE)).flatten
        cases hf
        exact AW.vret hZ hE rfl rfl rfl (Nat.le_refl 0) (Nat.le_refl 0) rfl ⟨rfl, rfl⟩
set_option maxRecDepth 20000 in
set_option maxHeartbeats 4000000 in
theorem c_g_R_deedsFrom (N : Nat) : ∀ e : Nat, (∀ (v0 : VR) (a1 : Int32) (a2 : Int32) (a3 : Int32) (a4 : Int32) (a5 : Int32) (a6 : Int32) (R : (Nat → Int32) × (Nat → Int32) × (Nat → Int32) × (Nat → Int32) × Int32 × Int32), (g_R_deedsFrom N e) v0 a1 a2 a3 a4 a5 a6 = some R → Ct zMX12_deedsFrom (e + 3) 0 0 0 [.ref 0, .int a1, .int a2, .int a3, .int a4, .int a5, .int a6] ([kR 0 v0] : List (List zE)).flatten (fun v cc => v = none ∧ cc = ([kR 0 (R_s_facts_pile_deed_bestDeeds_mostGood_isFound v0 R.1 R.2.1 R.2.2.1 R.2.2.2.1 R.2.2.2.2.1 R.2.2.2.2.2)] : List (List zE)).flatten)) := by
  intro e
  induction e with
  | zero => exact (fun _ _ _ _ _ _ _ R h => by cases h)
  | succ e ih =>
    exact (fun v0 a1 a2 a3 a4 a5 a6 R h => by
      have h9 := c_R_deedsFrom_b ih N v0 a1 a2 a3 a4 a5 a6 R h
      rw [show e + 1 + 3 = e + 4 by omega]
      exact h9)
set_option maxRecDepth 20000 in
set_option maxHeartbeats 4000000 in
theorem c_R_deedsFrom (e N : Nat) (v0 : VR) (a1 : Int32) (a2 : Int32) (a3 : Int32) (a4 : Int32) (a5 : Int32) (a6 : Int32) (R : (Nat → Int32) × (Nat → Int32) × (Nat → Int32) × (Nat → Int32) × Int32 × Int32) (hf : f_R_deedsFrom e N v0 a1 a2 a3 a4 a5 a6 = some R) : Ct zMX12_deedsFrom (e + 3) 0 0 0 [.ref 0, .int a1, .int a2, .int a3, .int a4, .int a5, .int a6] ([kR 0 v0] : List (List zE)).flatten (fun v cc => v = none ∧ cc = ([kR 0 (R_s_facts_pile_deed_bestDeeds_mostGood_isFound v0 R.1 R.2.1 R.2.2.1 R.2.2.2.1 R.2.2.2.2.1 R.2.2.2.2.2)] : List (List zE)).flatten) := by
  exact (c_g_R_deedsFrom N e) v0 a1 a2 a3 a4 a5 a6 R hf
def f_R_deeds (N : Nat) (v0 : VR) (a1 : Int32) (a2 : Int32) (a3 : Int32) (a4 : Int32) : Option (Int32 × Int32 × (Nat → Int32) × (Nat → Int32) × (Nat → Int32) × (Nat → Int32) × Int32 × Int32 × Int32) := ((f_R_isPerson N v0 a1).bind (fun q1 => (if (q1 = 0) then (some (0, 1, (R_facts v0), (R_pile v0), (R_deed v0), (R_bestDeeds v0), (R_mostGood v0), (R_isFound v0), (R_deedsMany v0))) else ((f_R_isPerson N v0 a2).bind (fun q3 => (if (q3 = 0) then (some (0, 1, (R_facts v0), (R_pile v0), (R_deed v0), (R_bestDeeds v0), (R_mostGood v0), (R_isFound v0), (R_deedsMany v0))) else ((f_R_within N a3 1 7).bind (fun q5 => (if (q5 = 0) then (some (0, 1, (R_facts v0), (R_pile v0), (R_deed v0), (R_bestDeeds v0), (R_mostGood v0), (R_isFound v0), (R_deedsMany v0))) else ((f_R_within N a4 (-1) (a3 - 1)).bind (fun q7 => (if (((if (q7 = 0) then 1 else 0) : Int32) ≤ 0) then ((f_R_personOf N (R_s_thrown_isFound_deedsMany v0 (if (q7 = 0) then 1 else 0) 0 a3) a1 1).bind (fun q11 => (if ((4 + a2) < 0 ∨ 1656 ≤ Int32.toNatClampNeg (4 + a2)) then none else (if ((22 + a2) < 0 ∨ 1656 ≤ Int32.toNatClampNeg (22 + a2)) then none else (if ((10 + a2) < 0 ∨ 1656 ≤ Int32.toNatClampNeg (10 + a2)) then none else (if ((16 + a2) < 0 ∨ 1656 ≤ Int32.toNatClampNeg (16 + a2)) then none else ((f_R_deedsFrom 64 N (R_s_thrown_isFound_deedsMany v0 (if (q7 = 0) then 1 else 0) 0 a3) 0 q11 ((R_state v0) (Int32.toNatClampNeg (4 + a2))) ((R_state v0) (Int32.toNatClampNeg (22 + a2))) ((R_state v0) (Int32.toNatClampNeg (10 + a2))) ((R_state v0) (Int32.toNatClampNeg (16 + a2)))).bind (fun q12 => (if (0 ≤ a4) then (if (a4 < 0 ∨ 7 ≤ Int32.toNatClampNeg a4) then none else (some ((q12.2.2.2.1 (Int32.toNatClampNeg a4)), (if (q7 = 0) then 1 else 0), q12.1, q12.2.1, q12.2.2.1, q12.2.2.2.1, q12.2.2.2.2.1, q12.2.2.2.2.2, a3))) else (some (q12.2.2.2.2.1, (if (q7 = 0) then 1 else 0), q12.1, q12.2.1, q12.2.2.1, q12.2.2.2.1, q12.2.2.2.2.1, q12.2.2.2.2.2, a3))))))))))) else (some (0, (if (q7 = 0) then 1 else 0), (R_facts v0), (R_pile v0), (R_deed v0), (R_bestDeeds v0), (R_mostGood v0), (R_isFound v0), (R_deedsMany v0)))))))))))))))
set_option maxRecDepth 20000 in
set_option maxHeartbeats 4000000 in
theorem c_R_deeds (N : Nat) (v0 : VR) (a1 : Int32) (a2 : Int32) (a3 : Int32) (a4 : Int32) (R : Int32 × Int32 × (Nat → Int32) × (Nat → Int32) × (Nat → Int32) × (Nat → Int32) × Int32 × Int32 × Int32) (hf : f_R_deeds N v0 a1 a2 a3 a4 = some R) : Ct zMX12_deeds 68 0 0 0 [.ref 0, .int a1, .int a2, .int a3, .int a4] ([kR 0 v0] : List (List zE)).flatten (fun v cc => v = some (.int R.1) ∧ cc = ([kR 0 (R_s_thrown_facts_pile_deed_bestDeeds_mostGood_isFound_deedsMany v0 R.2.1 R.2.2.1 R.2.2.2.1 R.2.2.2.2.1 R.2.2.2.2.2.1 R.2.2.2.2.2.2.1 R.2.2.2.2.2.2.2.1 R.2.2.2.2.2.2.2.2)] : List (List zE)).flatten) := by
  refine Ct.of zMX12_deeds_ok (by decide) (Nat.le_of_ble_eq_true rfl) ?_
  intro Z hZ hR hN hE
  have hRm : zRoom Z 0 0 := zRoom0 Z
  unfold f_R_deeds at hf
  show AW Z 0 0 0 [some (.ref 0), some (.int a1), some (.int a2), some (.int a3), some (.int a4)] [] ([kR 0 v0] : List (List zE)).flatten
  refine AW.run hZ hRm [3] 400 ?_
  show AW Z 0 0 3 [some (.ref 0), some (.int a1), some (.int a2), some (.int a3), some (.int a4)] [.int a1, .ref 0, .ref 0] ([kR 0 v0] : List (List zE)).flatten
  obtain ⟨q1, h24, hf⟩ := zbind hf
  refine AW.callVc hZ hR hN (c_R_isPerson N v0 a1 q1 h24) zMX12_isPerson_ok rfl rfl zK_BorrowedLivesModel_356 zV_X12_isPerson rfl [25] [0] [0, 1, 2, 3, 4, 5, 6, 7, 8, 9, 10, 11, 12, 13, 14, 15, 16, 17, 18, 19, 20, 21, 22, 23, 24] rfl rfl rfl (by decide) (by decide) (by omega) (by decide) (Nat.zero_le _) (Nat.zero_le _) rfl rfl rfl rfl rfl ?_
  rintro v cc ⟨rfl, rfl⟩
  refine ⟨_, rfl, rfl, ?_⟩
  show AW Z 0 0 6 [some (.ref 0), some (.int a1), some (.int a2), some (.int a3), some (.int a4)] [.int q1, .ref 0] ([kR 0 v0] : List (List zE)).flatten
  refine AW.run hZ hRm [11, 55, 71] 400 ?_
  show (((q1 = 0) → ((((1 : Int32) ≤ 0) → (((0 : Int32) = 0 ∨ (0 : Int32) = 1) ∧ AW Z 0 0 71 [some (.ref 0), some (.int a1), some (.int a2), some (.int a3), some (.int a4)] [.int 1, .int a1, .ref 0, .int 0, .ref 0] ([kR 0 (R_s_thrown_isFound_deedsMany v0 1 0 a3)] : List (List zE)).flatten)) ∧ (¬ ((1 : Int32) ≤ 0) → AW Z 0 0 55 [some (.ref 0), some (.int a1), some (.int a2), some (.int a3), some (.int a4)] [.int 0] ([kR 0 (R_thrown_s v0 1)] : List (List zE)).flatten))) ∧ (¬ (q1 = 0) → AW Z 0 0 11 [some (.ref 0), some (.int a1), some (.int a2), some (.int a3), some (.int a4)] [.int a2, .ref 0, .ref 0] ([kR 0 v0] : List (List zE)).flatten))
  refine ⟨fun c2 => ?_, fun c2 => ?_⟩
  · rw [if_pos c2] at hf
    refine ⟨fun h => absurd h (by decide), fun _ => ?_⟩
    cases hf
    exact AW.iret hZ hE rfl rfl rfl rfl (Nat.le_refl 0) (Nat.le_refl 0) rfl ⟨rfl, rfl⟩
  · rw [if_neg c2] at hf
    obtain ⟨q3, h23, hf⟩ := zbind hf
    refine AW.callVc hZ hR hN (c_R_isPerson N v0 a2 q3 h23) zMX12_isPerson_ok rfl rfl zK_BorrowedLivesModel_356 zV_X12_isPerson rfl [25] [0] [0, 1, 2, 3, 4, 5, 6, 7, 8, 9, 10, 11, 12, 13, 14, 15, 16, 17, 18, 19, 20, 21, 22, 23, 24] rfl rfl rfl (by decide) (by decide) (by omega) (by decide) (Nat.zero_le _) (Nat.zero_le _) rfl rfl rfl rfl rfl ?_
    rintro v cc ⟨rfl, rfl⟩
    refine ⟨_, rfl, rfl, ?_⟩
    show AW Z 0 0 14 [some (.ref 0), some (.int a1), some (.int a2), some (.int a3), some (.int a4)] [.int q3, .ref 0] ([kR 0 v0] : List (List zE)).flatten
    refine AW.run hZ hRm [21, 55, 71] 400 ?_
    show (((q3 = 0) → ((((1 : Int32) ≤ 0) → (((0 : Int32) = 0 ∨ (0 : Int32) = 1) ∧ AW Z 0 0 71 [some (.ref 0), some (.int a1), some (.int a2), some (.int a3), some (.int a4)] [.int 1, .int a1, .ref 0, .int 0, .ref 0] ([kR 0 (R_s_thrown_isFound_deedsMany v0 1 0 a3)] : List (List zE)).flatten)) ∧ (¬ ((1 : Int32) ≤ 0) → AW Z 0 0 55 [some (.ref 0), some (.int a1), some (.int a2), some (.int a3), some (.int a4)] [.int 0] ([kR 0 (R_thrown_s v0 1)] : List (List zE)).flatten))) ∧ (¬ (q3 = 0) → AW Z 0 0 21 [some (.ref 0), some (.int a1), some (.int a2), some (.int a3), some (.int a4)] [.int 7, .int 1, .int a3, .ref 0] ([kR 0 v0] : List (List zE)).flatten))
    refine ⟨fun c4 => ?_, fun c4 => ?_⟩
    · rw [if_pos c4] at hf
      refine ⟨fun h => absurd h (by decide), fun _ => ?_⟩
      cases hf
      exact AW.iret hZ hE rfl rfl rfl rfl (Nat.le_refl 0) (Nat.le_refl 0) rfl ⟨rfl, rfl⟩
    · rw [if_neg c4] at hf
      obtain ⟨q5, h22, hf⟩ := zbind hf
      refine AW.callSc hZ hR hN (c_R_within N a3 1 7 q5 h22) zMX12_within_ok rfl rfl zK_BorrowedLivesModel_359 zV_X12_within rfl [25] [] [] rfl rfl rfl (by decide) (by decide) (by omega) (by decide) (Nat.zero_le _) (Nat.zero_le _) rfl rfl ?_
      rintro v cc ⟨rfl, rfl⟩
      refine ⟨_, rfl, rfl, ?_⟩
      show AW Z 0 0 24 [some (.ref 0), some (.int a1), some (.int a2), some (.int a3), some (.int a4)] [.int q5, .ref 0] ([kR 0 v0] : List (List zE)).flatten
      refine AW.run hZ hRm [33, 55, 71] 400 ?_
      show (((q5 = 0) → ((((1 : Int32) ≤ 0) → (((0 : Int32) = 0 ∨ (0 : Int32) = 1) ∧ AW Z 0 0 71 [some (.ref 0), some (.int a1), some (.int a2), some (.int a3), some (.int a4)] [.int 1, .int a1, .ref 0, .int 0, .ref 0] ([kR 0 (R_s_thrown_isFound_deedsMany v0 1 0 a3)] : List (List zE)).flatten)) ∧ (¬ ((1 : Int32) ≤ 0) → AW Z 0 0 55 [some (.ref 0), some (.int a1), some (.int a2), some (.int a3), some (.int a4)] [.int 0] ([kR 0 (R_thrown_s v0 1)] : List (List zE)).flatten))) ∧ (¬ (q5 = 0) → AW Z 0 0 33 [some (.ref 0), some (.int a1), some (.int a2), some (.int a3), some (.int a4)] [.int (a3 - 1), .int (-1), .int a4, .ref 0] ([kR 0 v0] : List (List zE)).flatten))
      refine ⟨fun c6 => ?_, fun c6 => ?_⟩
      · rw [if_pos c6] at hf
        refine ⟨fun h => absurd h (by decide), fun _ => ?_⟩
        cases hf
        exact AW.iret hZ hE rfl rfl rfl rfl (Nat.le_refl 0) (Nat.le_refl 0) rfl ⟨rfl, rfl⟩
      · rw [if_neg c6] at hf
        obtain ⟨q7, h21, hf⟩ := zbind hf
        refine AW.callSc hZ hR hN (c_R_within N a4 (-1) (a3 - 1) q7 h21) zMX12_within_ok rfl rfl zK_BorrowedLivesModel_359 zV_X12_within rfl [25] [] [] rfl rfl rfl (by decide) (by decide) (by omega) (by decide) (Nat.zero_le _) (Nat.zero_le _) rfl rfl ?_
        rintro v cc ⟨rfl, rfl⟩
        refine ⟨_, rfl, rfl, ?_⟩
        show AW Z 0 0 36 [some (.ref 0), some (.int a1), some (.int a2), some (.int a3), some (.int a4)] [.int q7, .ref 0] ([kR 0 v0] : List (List zE)).flatten
        suffices H8 : AW Z 0 0 44 [some (.ref 0), some (.int a1), some (.int a2), some (.int a3), some (.int a4)] [.int (if (q7 = 0) then 1 else 0), .ref 0] ([kR 0 v0] : List (List zE)).flatten from by
          refine AW.run hZ hRm [44] 400 ?_
          show (((q7 = 0) → AW Z 0 0 44 [some (.ref 0), some (.int a1), some (.int a2), some (.int a3), some (.int a4)] [.int 1, .ref 0] ([kR 0 v0] : List (List zE)).flatten) ∧ (¬ (q7 = 0) → AW Z 0 0 44 [some (.ref 0), some (.int a1), some (.int a2), some (.int a3), some (.int a4)] [.int 0, .ref 0] ([kR 0 v0] : List (List zE)).flatten))
          refine ⟨fun c9 => ?_, fun c9 => ?_⟩
          · simpa only [if_pos c9] using H8
          · simpa only [if_neg c9] using H8
        refine AW.run hZ hRm [55, 71] 400 ?_
        show (((((if (q7 = 0) then 1 else 0) : Int32) ≤ 0) → (((0 : Int32) = 0 ∨ (0 : Int32) = 1) ∧ AW Z 0 0 71 [some (.ref 0), some (.int a1), some (.int a2), some (.int a3), some (.int a4)] [.int 1, .int a1, .ref 0, .int 0, .ref 0] ([kR 0 (R_s_thrown_isFound_deedsMany v0 (if (q7 = 0) then 1 else 0) 0 a3)] : List (List zE)).flatten)) ∧ (¬ (((if (q7 = 0) then 1 else 0) : Int32) ≤ 0) → AW Z 0 0 55 [some (.ref 0), some (.int a1), some (.int a2), some (.int a3), some (.int a4)] [.int 0] ([kR 0 (R_thrown_s v0 (if (q7 = 0) then 1 else 0))] : List (List zE)).flatten))
        refine ⟨fun c10 => ?_, fun c10 => ?_⟩
        · rw [if_pos c10] at hf
          refine ⟨(by decide), ?_⟩
          obtain ⟨q11, h20, hf⟩ := zbind hf
          refine AW.callVc hZ hR hN (c_R_personOf N (R_s_thrown_isFound_deedsMany v0 (if (q7 = 0) then 1 else 0) 0 a3) a1 1 q11 h20) zMX12_personOf_ok rfl rfl zK_BorrowedLivesModel_294 zV_X12_personOf rfl [25] [0] [0, 1, 2, 3, 4, 5, 6, 7, 8, 9, 10, 11, 12, 13, 14, 15, 16, 17, 18, 19, 20, 21, 22, 23, 24] rfl rfl rfl (by decide) (by decide) (by omega) (by decide) (Nat.zero_le _) (Nat.zero_le _) rfl rfl rfl rfl rfl ?_
          rintro v cc ⟨rfl, rfl⟩
          refine ⟨_, rfl, rfl, ?_⟩
          show AW Z 0 0 74 [some (.ref 0), some (.int a1), some (.int a2), some (.int a3), some (.int a4)] [.int q11, .int 0, .ref 0] ([kR 0 (R_s_thrown_isFound_deedsMany v0 (if (q7 = 0) then 1 else 0) 0 a3)] : List (List zE)).flatten
          refine AW.run hZ hRm [109] 400 ?_
          show (¬ ((4 + a2) < 0 ∨ 1656 ≤ Int32.toNatClampNeg (4 + a2)) ∧ (¬ ((22 + a2) < 0 ∨ 1656 ≤ Int32.toNatClampNeg (22 + a2)) ∧ (¬ ((10 + a2) < 0 ∨ 1656 ≤ Int32.toNatClampNeg (10 + a2)) ∧ (¬ ((16 + a2) < 0 ∨ 1656 ≤ Int32.toNatClampNeg (16 + a2)) ∧ AW Z 0 0 109 [some (.ref 0), some (.int a1), some (.int a2), some (.int a3), some (.int a4)] [.int ((R_state v0) (Int32.toNatClampNeg (16 + a2))), .int ((R_state v0) (Int32.toNatClampNeg (10 + a2))), .int ((R_state v0) (Int32.toNatClampNeg (22 + a2))), .int ((R_state v0) (Int32.toNatClampNeg (4 + a2))), .int q11, .int 0, .ref 0] ([kR 0 (R_s_thrown_isFound_deedsMany v0 (if (q7 = 0) then 1 else 0) 0 a3)] : List (List zE)).flatten))))
          obtain ⟨b19, hf⟩ := zneed hf
          refine ⟨b19, ?_⟩
          obtain ⟨b18, hf⟩ := zneed hf
          refine ⟨b18, ?_⟩
          obtain ⟨b17, hf⟩ := zneed hf
          refine ⟨b17, ?_⟩
          obtain ⟨b16, hf⟩ := zneed hf
          refine ⟨b16, ?_⟩
          obtain ⟨q12, h15, hf⟩ := zbind hf
          refine AW.callVc hZ hR hN (c_R_deedsFrom 64 N (R_s_thrown_isFound_deedsMany v0 (if (q7 = 0) then 1 else 0) 0 a3) 0 q11 ((R_state v0) (Int32.toNatClampNeg (4 + a2))) ((R_state v0) (Int32.toNatClampNeg (22 + a2))) ((R_state v0) (Int32.toNatClampNeg (10 + a2))) ((R_state v0) (Int32.toNatClampNeg (16 + a2))) q12 h15) zMX12_deedsFrom_ok rfl rfl zK_BorrowedLivesModel_434 zV_X12_deedsFrom rfl [25] [0] [0, 1, 2, 3, 4, 5, 6, 7, 8, 9, 10, 11, 12, 13, 14, 15, 16, 17, 18, 19, 20, 21, 22, 23, 24] rfl rfl rfl (by decide) (by decide) (by omega) (by decide) (Nat.zero_le _) (Nat.zero_le _) rfl rfl rfl rfl rfl ?_
          rintro v cc ⟨rfl, rfl⟩
          refine ⟨_, rfl, rfl, ?_⟩
          show AW Z 0 0 112 [some (.ref 0), some (.int a1), some (.int a2), some (.int a3), some (.int a4)] [] ([kR 0 (R_s_thrown_facts_pile_deed_bestDeeds_mostGood_isFound_deedsMany v0 (if (q7 = 0) then 1 else 0) q12.1 q12.2.1 q12.2.2.1 q12.2.2.2.1 q12.2.2.2.2.1 q12.2.2.2.2.2 a3)] : List (List zE)).flatten
          refine AW.run hZ hRm [131] 400 ?_
          show (((0 ≤ a4) → (¬ (a4 < 0 ∨ 7 ≤ Int32.toNatClampNeg a4) ∧ AW Z 0 0 131 [some (.ref 0), some (.int a1), some (.int a2), some (.int a3), some (.int a4)] [.int (q12.2.2.2.1 (Int32.toNatClampNeg a4))] ([kR 0 (R_s_thrown_facts_pile_deed_bestDeeds_mostGood_isFound_deedsMany v0 (if (q7 = 0) then 1 else 0) q12.1 q12.2.1 q12.2.2.1 q12.2.2.2.1 q12.2.2.2.2.1 q12.2.2.2.2.2 a3)] : List (List zE)).flatten)) ∧ (¬ (0 ≤ a4) → AW Z 0 0 131 [some (.ref 0), some (.int a1), some (.int a2), some (.int a3), some (.int a4)] [.int q12.2.2.2.2.1] ([kR 0 (R_s_thrown_facts_pile_deed_bestDeeds_mostGood_isFound_deedsMany v0 (if (q7 = 0) then 1 else 0) q12.1 q12.2.1 q12.2.2.1 q12.2.2.2.1 q12.2.2.2.2.1 q12.2.2.2.2.2 a3)] : List (List zE)).flatten))
          refine ⟨fun c13 => ?_, fun c13 => ?_⟩
          · rw [if_pos c13] at hf
            obtain ⟨b14, hf⟩ := zneed hf
            refine ⟨b14, ?_⟩
            cases hf
            exact AW.iret hZ hE rfl rfl rfl rfl (Nat.le_refl 0) (Nat.le_refl 0) rfl ⟨rfl, rfl⟩
          · rw [if_neg c13] at hf
            cases hf
            exact AW.iret hZ hE rfl rfl rfl rfl (Nat.le_refl 0) (Nat.le_refl 0) rfl ⟨rfl, rfl⟩
        · rw [if_neg c10] at hf
          cases hf
          exact AW.iret hZ hE rfl rfl rfl rfl (Nat.le_refl 0) (Nat.le_refl 0) rfl ⟨rfl, rfl⟩
def f_R_wishOf (N : Nat) (v0 : VR) (a1 : Int32) (a2 : Int32) : Option (Int32 × (Nat → Int32) × (Nat → Int32)) := ((f_R_laysFacts N v0 0 a2 a1 0).bind (fun q1 => (if (0 ≤ ((R_towns v0) (Int32.toNatClampNeg 6))) then ((f_R_worthAt N (R_facts_s v0 q1) ((R_towns v0) (Int32.toNatClampNeg 6))).bind (fun q3 => (some (q3.1, q1, q3.2)))) else (some ((((q1 (Int32.toNatClampNeg 0)) - (q1 (Int32.toNatClampNeg 1))) + ((q1 (Int32.toNatClampNeg 2)) * 5)), q1, (R_pile v0))))))
set_option maxRecDepth 20000 in
set_option maxHeartbeats 4000000 in
theorem c_R_wishOf (N : Nat) (v0 : VR) (a1 : Int32) (a2 : Int32) (R : Int32 × (Nat → Int32) × (Nat → Int32)) (hf : f_R_wishOf N v0 a1 a2 = some R) : Ct zMX12_wishOf 3 0 0 0 [.ref 0, .int a1, .int a2] ([kR 0 v0] : List (List zE)).flatten (fun v cc => v = some (.int R.1) ∧ cc = ([kR 0 (R_s_facts_pile v0 R.2.1 R.2.2)] : List (List zE)).flatten) := by
  refine Ct.of zMX12_wishOf_ok (by decide) (Nat.le_of_ble_eq_true rfl) ?_
  intro Z hZ hR hN hE
  have hRm : zRoom Z 0 0 := zRoom0 Z
  unfold f_R_wishOf at hf
  show AW Z 0 0 0 [some (.ref 0), some (.int a1), some (.int a2)] [] ([kR 0 v0] : List (List zE)).flatten
  refine AW.run hZ hRm [5] 400 ?_
  show AW Z 0 0 5 [some (.ref 0), some (.int a1), some (.int a2)] [.int 0, .int a1, .int a2, .int 0, .ref 0] ([kR 0 v0] : List (List zE)).flatten
  obtain ⟨q1, h5, hf⟩ := zbind hf
  refine AW.callVc hZ hR hN (c_R_laysFacts N v0 0 a2 a1 0 q1 h5) zMX12_laysFacts_ok rfl rfl zK_BorrowedLivesModel_327 zV_X12_laysFacts rfl [25] [0] [0, 1, 2, 3, 4, 5, 6, 7, 8, 9, 10, 11, 12, 13, 14, 15, 16, 17, 18, 19, 20, 21, 22, 23, 24] rfl rfl rfl (by decide) (by decide) (by omega) (by decide) (Nat.zero_le _) (Nat.zero_le _) rfl rfl rfl rfl rfl ?_
  rintro v cc ⟨rfl, rfl⟩
  refine ⟨_, rfl, rfl, ?_⟩
  show AW Z 0 0 8 [some (.ref 0), some (.int a1), some (.int a2)] [] ([kR 0 (R_facts_s v0 q1)] : List (List zE)).flatten
  refine AW.run hZ hRm [51, 54] 400 ?_
  show (¬ ((6 : Int32) < 0 ∨ 160 ≤ Int32.toNatClampNeg 6) ∧ (((0 ≤ ((R_towns v0) (Int32.toNatClampNeg 6))) → (¬ ((6 : Int32) < 0 ∨ 160 ≤ Int32.toNatClampNeg 6) ∧ AW Z 0 0 51 [some (.ref 0), some (.int a1), some (.int a2)] [.int ((R_towns v0) (Int32.toNatClampNeg 6)), .ref 0] ([kR 0 (R_facts_s v0 q1)] : List (List zE)).flatten)) ∧ (¬ (0 ≤ ((R_towns v0) (Int32.toNatClampNeg 6))) → (¬ ((0 : Int32) < 0 ∨ 5 ≤ Int32.toNatClampNeg 0) ∧ (¬ ((1 : Int32) < 0 ∨ 5 ≤ Int32.toNatClampNeg 1) ∧ (¬ ((2 : Int32) < 0 ∨ 5 ≤ Int32.toNatClampNeg 2) ∧ AW Z 0 0 54 [some (.ref 0), some (.int a1), some (.int a2)] [.int (((q1 (Int32.toNatClampNeg 0)) - (q1 (Int32.toNatClampNeg 1))) + ((q1 (Int32.toNatClampNeg 2)) * 5))] ([kR 0 (R_facts_s v0 q1)] : List (List zE)).flatten))))))
  refine ⟨(by decide), ?_⟩
  refine ⟨fun c2 => ?_, fun c2 => ?_⟩
  · rw [if_pos c2] at hf
    refine ⟨(by decide), ?_⟩
    obtain ⟨q3, h4, hf⟩ := zbind hf
    refine AW.callVc hZ hR hN (c_R_worthAt N (R_facts_s v0 q1) ((R_towns v0) (Int32.toNatClampNeg 6)) q3 h4) zMX12_worthAt_ok rfl rfl zK_BorrowedLivesModel_331 zV_X12_worthAt rfl [25] [0] [0, 1, 2, 3, 4, 5, 6, 7, 8, 9, 10, 11, 12, 13, 14, 15, 16, 17, 18, 19, 20, 21, 22, 23, 24] rfl rfl rfl (by decide) (by decide) (by omega) (by decide) (Nat.zero_le _) (Nat.zero_le _) rfl rfl rfl rfl rfl ?_
    rintro v cc ⟨rfl, rfl⟩
    refine ⟨_, rfl, rfl, ?_⟩
    show AW Z 0 0 54 [some (.ref 0), some (.int a1), some (.int a2)] [.int q3.1] ([kR 0 (R_s_facts_pile v0 q1 q3.2)] : List (List zE)).flatten
    cases hf
    exact AW.iret hZ hE rfl rfl rfl rfl (Nat.le_refl 0) (Nat.le_refl 0) rfl ⟨rfl, rfl⟩
  · rw [if_neg c2] at hf
    refine ⟨(by decide), ?_⟩
    refine ⟨(by decide), ?_⟩
    refine ⟨(by decide), ?_⟩
    cases hf
    exact AW.iret hZ hE rfl rfl rfl rfl (Nat.le_refl 0) (Nat.le_refl 0) rfl ⟨rfl, rfl⟩
