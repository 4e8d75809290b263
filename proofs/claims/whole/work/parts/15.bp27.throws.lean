/-! ===== DEEDS asked for ===== -/
theorem m_deeds {N : Nat} (hN : 10000 ≤ N) {v0 : VBl} {v1 : VTape} {v2 : VTown} {v3 : VLaws} {v4 : VReader} {v5 : VTown} {v6 : VLaws} {v7 : VYear} {v8 : VYear} {v9 : VLots} {v10 : VLives} {v11 : VLives} {v13 : VTales} {v17 : VForecast} {v18 : VLives} {v19 : VDeeds} {v20 : VPairs} {und mls : Nat → VLives} {mts : Nat → VTales} {w : VR} {P L g : Nat} (h : RELx P L g v0 v1 v2 v3 v7 v9 v10 v13 v17 und mls mts w) (a1 a2 a3 a4 : Int32) : Ev (f_Bl_deeds N v0 v1 v2 v3 v4 v5 v6 v7 v8 v9 v10 v11 v13 v17 v18 v19 v20 und mls mts a1 a2 a3 a4) (fun s => Ev (f_R_deeds N w a1 a2 a3 a4) (fun q => Sum.elim (fun _ => q.2.1 = 1 ∧ RELx P L g v0 v1 v2 v3 v7 v9 v10 v13 v17 und mls mts (R_s_thrown_facts_pile_deed_bestDeeds_mostGood_isFound_deedsMany w q.2.1 q.2.2.1 q.2.2.2.1 q.2.2.2.2.1 q.2.2.2.2.2.1 q.2.2.2.2.2.2.1 q.2.2.2.2.2.2.2.1 q.2.2.2.2.2.2.2.2)) (fun r => q.2.1 = 0 ∧ r.1 = q.1 ∧ RELx P L g v0 v1 v2 (Laws_s_facts_stack v3 r.2.1 r.2.2.1) v7 v9 v10 v13 v17 und mls mts (R_s_thrown_facts_pile_deed_bestDeeds_mostGood_isFound_deedsMany w q.2.1 q.2.2.1 q.2.2.2.1 q.2.2.2.2.1 q.2.2.2.2.2.1 q.2.2.2.2.2.2.1 q.2.2.2.2.2.2.2.1 q.2.2.2.2.2.2.2.2)) s)) := by
  have hh := h
  obtain ⟨⟨hT, hB, hG, hD, hnm⟩, hl, ⟨hR, hI⟩, b4, ht, b6, b7, hpl, hf⟩ := h
  have h6 := hT.1.2
  have h2 := (hT.2.2.2 2 (by decide)).1
  have rel0 : ∀ (fa sk f2 pl de bd : Nat → Int32) (th mg fo dm : Int32), RELx P L g v0 v1 v2 (Laws_s_facts_stack v3 fa sk) v7 v9 v10 v13 v17 und mls mts (R_s_thrown_facts_pile_deed_bestDeeds_mostGood_isFound_deedsMany w th f2 pl de bd mg fo dm) := fun fa sk f2 pl de bd th mg fo dm => hh.trial ⟨rfl, rfl, rfl, rfl, rfl, rfl, rfl, rfl, rfl, rfl, rfl, rfl, rfl⟩ rfl (fun _ _ => rfl) ⟨fa, sk, rfl⟩
  have rel1 : ∀ (f2 pl de bd : Nat → Int32) (th mg fo dm : Int32), RELx P L g v0 v1 v2 v3 v7 v9 v10 v13 v17 und mls mts (R_s_thrown_facts_pile_deed_bestDeeds_mostGood_isFound_deedsMany w th f2 pl de bd mg fo dm) := fun f2 pl de bd th mg fo dm => hh.same ⟨rfl, rfl, rfl, rfl, rfl, rfl, rfl, rfl, rfl, rfl, rfl, rfl, rfl⟩ rfl rfl
  unfold f_Bl_deeds f_R_deeds
  rcases isPerson_both (N := N) hT a1 with ⟨e1, e2⟩ | ⟨p, hp, rfl, e1, e2⟩
  · refine Ev.bnd e1 ?_
    refine Ev.ifp rfl ?_
    refine Ev.ret ?_
    refine Ev.bnd e2 ?_
    refine Ev.ifp rfl ?_
    exact Ev.ret ⟨rfl, rel1 _ _ _ _ _ _ _ _⟩
  rcases isPerson_both (N := N) hT a2 with ⟨g1, g2⟩ | ⟨l, hl2, rfl, g1, g2⟩
  · refine Ev.bnd e1 ?_
    refine Ev.ifn (by decide) ?_
    refine Ev.bnd g1 ?_
    refine Ev.ifp rfl ?_
    refine Ev.ret ?_
    refine Ev.bnd e2 ?_
    refine Ev.ifn (by decide) ?_
    refine Ev.bnd g2 ?_
    refine Ev.ifp rfl ?_
    exact Ev.ret ⟨rfl, rel1 _ _ _ _ _ _ _ _⟩
  refine Ev.bnd e1 ?_
  refine Ev.ifn (by decide) ?_
  refine Ev.bnd g1 ?_
  refine Ev.ifn (by decide) ?_
  by_cases w1 : a3 < 1 ∨ 7 < a3
  · have k : (if a3 < 1 then (some (Sum.inl ()) : Option (Unit ⊕ (Int32 × (Nat → Int32) × (Nat → Int32) × Int32 × Int32))) else if a3 ≤ 7 then (if a4 < (-1) then some (Sum.inl ()) else if a4 < a3 then (f_Deeds_seek N v19 v10 v2 v3 (nI p) (nI l) a3).bind (fun q3 => if a4 = (-1) then some (Sum.inr (q3.1, q3.2.2.1, q3.2.2.2, q3.1, q3.2.1)) else (f_Deeds_deedOf N (q3.1, q3.2.1) a3 a4).bind (fun q4 => some (Sum.inr (q4, q3.2.2.1, q3.2.2.2, q3.1, q3.2.1)))) else some (Sum.inl ())) else some (Sum.inl ())) = some (Sum.inl ()) := by
      rcases w1 with w1 | w1
      · rw [if_pos w1]
      · rw [if_neg (show ¬ a3 < 1 by grind), if_neg (show ¬ a3 ≤ 7 by grind)]
    refine Ev.of k ?_
    refine Ev.bnd e2 ?_
    refine Ev.ifn (by decide) ?_
    refine Ev.bnd g2 ?_
    refine Ev.ifn (by decide) ?_
    refine Ev.bnd (within_no w1) ?_
    refine Ev.ifp rfl ?_
    exact Ev.ret ⟨rfl, rel1 _ _ _ _ _ _ _ _⟩
  obtain ⟨w2, w3⟩ := not_or.mp w1
  obtain ⟨D, hDb, rfl⟩ := nI_of (x := a3) (by grind)
  have hD1 : 1 ≤ D := by
    rw [show (1 : Int32) = nI 1 from rfl, nI_ltI (by omega) (by omega)] at w2
    omega
  have hD7 : D ≤ 7 := by
    rw [show (7 : Int32) = nI 7 from rfl, nI_ltI (by omega) (by omega)] at w3
    omega
  refine Ev.ifn w2 ?_
  refine Ev.ifp (nI_le (b := 7) hD7 (by decide)) ?_
  by_cases w4 : a4 < (-1) ∨ nI D - 1 < a4
  · have k : (if a4 < (-1) then (some (Sum.inl ()) : Option (Unit ⊕ (Int32 × (Nat → Int32) × (Nat → Int32) × Int32 × Int32))) else if a4 < nI D then (f_Deeds_seek N v19 v10 v2 v3 (nI p) (nI l) (nI D)).bind (fun q3 => if a4 = (-1) then some (Sum.inr (q3.1, q3.2.2.1, q3.2.2.2, q3.1, q3.2.1)) else (f_Deeds_deedOf N (q3.1, q3.2.1) (nI D) a4).bind (fun q4 => some (Sum.inr (q4, q3.2.2.1, q3.2.2.2, q3.1, q3.2.1)))) else some (Sum.inl ())) = some (Sum.inl ()) := by
      rcases w4 with w4 | w4
      · rw [if_pos w4]
      · rw [show nI D - 1 = nI (D - 1) from pk_sub (b := 1) hD1] at w4
        have h1 : ¬ a4 < (-1) := fun x => by
          have h0 : (-1 : Int32) < nI (D - 1) := by
            have := nI_pos (n := D - 1) (by omega)
            grind
          grind
        have h2 : ¬ a4 < nI D := fun x => by
          obtain ⟨y, hy, rfl⟩ := nI_of (x := a4) (fun z => by
            have := nI_pos (n := D - 1) (by omega)
            grind)
          rw [nI_ltI (by omega) (by omega)] at x w4
          omega
        rw [if_neg h1, if_neg h2]
    refine Ev.of k ?_
    refine Ev.bnd e2 ?_
    refine Ev.ifn (by decide) ?_
    refine Ev.bnd g2 ?_
    refine Ev.ifn (by decide) ?_
    refine Ev.bnd (within_yes w2 w3) ?_
    refine Ev.ifn (by decide) ?_
    refine Ev.bnd (within_no w4) ?_
    refine Ev.ifn (by decide) ?_
    exact Ev.ret ⟨rfl, rel1 _ _ _ _ _ _ _ _⟩
  obtain ⟨w5, w6⟩ := not_or.mp w4
  have w7 : a4 < nI D := by
    rw [show nI D - 1 = nI (D - 1) from pk_sub (b := 1) hD1] at w6
    by_cases hneg : a4 < 0
    · have := nI_pos (n := D) (by omega)
      grind
    · obtain ⟨y, hy, rfl⟩ := nI_of hneg
      rw [nI_ltI (by omega) (by omega)] at w6 ⊢
      omega
  refine Ev.ifn w5 ?_
  refine Ev.ifp w7 ?_
  obtain ⟨⟨⟨pu, hpu, ep⟩, ⟨de, hde, ed⟩⟩, ⟨hd, hhd, eh⟩, ⟨ho, hho, eo⟩⟩ := (⟨hI.1 l hl2, hI.2.1 l hl2, hI.2.2.2.2.2.2.1 l hl2⟩ : _ ∧ _ ∧ _)
  have ep : Lives_purse v10 l = nI pu := ep
  have ed : Lives_debt v10 l = nI de := ed
  obtain ⟨ab, hab, ea⟩ := (hD p hp).2.2.2
  obtain ⟨q, e3, d1, d2⟩ := seekDeeds_ev hN (v19 := v19) (v10 := v10) (D := D) hT.1 h2 hp hl2 hD7
  obtain ⟨-, -, -, s3, -⟩ := hR.1 l hl2
  obtain ⟨s1, s2, s2b, -, -⟩ := hR.1 l hl2
  have s1 : R_state w (4 + l) = Lives_purse v10 l := by rw [← show 0 + 4 + l = 4 + l by omega]; exact s1
  have s2 : R_state w (10 + l) = Lives_debt v10 l := by rw [← show 0 + 10 + l = 10 + l by omega]; exact s2
  have s2b : R_state w (16 + l) = Lives_home v10 l := by rw [← show 0 + 16 + l = 16 + l by omega]; exact s2b
  have s3 : R_state w (22 + l) = Lives_hidden v10 l := by rw [← show 0 + 22 + l = 22 + l by omega]; exact s3
  have h7 := pow3_7 hD7
  have h0 := pow3_0 D
  have hbr := bestR_le (valD v3 (Lives_hidden v10 l) (Town_skills v2 p) (Lives_purse v10 l, Lives_debt v10 l, Lives_home v10 l) D) (3 ^ D - 1)
  obtain ⟨y, e4, d3, -⟩ := deeds_rec hN (v2 := v2) (v3 := v3) (P := P) (D := D) (a := ab) (hd := hd) (s0 := (Lives_purse v10 l, Lives_debt v10 l, Lives_home v10 l)) hD7 hab hhd ⟨pu, de, ho, hpu, hde, hho, ep, ed, eo⟩ rfl D 0 0 (63 - D) (R_s_thrown_isFound_deedsMany w 0 0 (nI D)) (by omega) (by decide) hT rfl (Or.inl ⟨by rw [Nat.zero_mul], rfl⟩) (fun i hi => absurd hi (Nat.not_lt_zero _))
  rw [show D + 1 + (63 - D) = 64 by omega] at e4
  have e4 : f_R_deedsFrom 64 N (R_s_thrown_isFound_deedsMany w 0 0 (nI D)) 0 (nI ab) (Lives_purse v10 l) (nI hd) (Lives_debt v10 l) (Lives_home v10 l) = some y := e4
  rw [← ea, ← eh] at e4 d3
  rw [show (0 + 1) * 3 ^ D = 3 ^ D by omega] at d3
  obtain ⟨-, d4, d5, d6⟩ := d3.resolve_left (fun z => by omega)
  have i1 : ¬ (nI (4 + l) < 0 ∨ 1656 ≤ 4 + l) := fun x => x.elim (nI_pos (by omega)) (fun y => by omega)
  have i2 : ¬ (nI (22 + l) < 0 ∨ 1656 ≤ 22 + l) := fun x => x.elim (nI_pos (by omega)) (fun y => by omega)
  have i3 : ¬ (nI (10 + l) < 0 ∨ 1656 ≤ 10 + l) := fun x => x.elim (nI_pos (by omega)) (fun y => by omega)
  have i4 : ¬ (nI (16 + l) < 0 ∨ 1656 ≤ 16 + l) := fun x => x.elim (nI_pos (by omega)) (fun y => by omega)
  refine Ev.bnd e3 ?_
  by_cases k1 : a4 = (-1)
  · refine Ev.ifp k1 ?_
    refine Ev.ret ?_
    rw [show (4 : Int32) + nI l = nI (4 + l) from nI_add 4 l, show (22 : Int32) + nI l = nI (22 + l) from nI_add 22 l, show (10 : Int32) + nI l = nI (10 + l) from nI_add 10 l, show (16 : Int32) + nI l = nI (16 + l) from nI_add 16 l, nI_clamp (n := 4 + l) (by omega), nI_clamp (n := 22 + l) (by omega), nI_clamp (n := 10 + l) (by omega), nI_clamp (n := 16 + l) (by omega), s1, s2, s2b, s3]
    refine Ev.bnd e2 ?_
    refine Ev.ifn (by decide) ?_
    refine Ev.bnd g2 ?_
    refine Ev.ifn (by decide) ?_
    refine Ev.bnd (within_yes w2 w3) ?_
    refine Ev.ifn (by decide) ?_
    refine Ev.bnd (within_yes w5 w6) ?_
    refine Ev.ifp (by decide) ?_
    refine Ev.bnd (person_at (w := R_s_thrown_isFound_deedsMany w 0 0 (nI D)) hT hp).2.1 ?_
    refine Ev.ifn i1 ?_
    refine Ev.ifn i2 ?_
    refine Ev.ifn i3 ?_
    refine Ev.ifn i4 ?_
    refine Ev.bnd e4 ?_
    refine Ev.ifn (by rw [k1]; decide) ?_
    exact Ev.ret ⟨rfl, d1.trans d5.symm, rel0 _ _ _ _ _ _ _ _ _ _⟩
  · obtain ⟨i, hi, rfl⟩ := nI_of (x := a4) (by grind)
    have hiD : i < D := by
      rw [nI_ltI (by omega) (by omega)] at w7
      exact w7
    have ii : ¬ (nI i < 0 ∨ 7 ≤ i) := fun x => x.elim (nI_pos (by omega)) (fun y => by omega)
    have hdo : f_Deeds_deedOf N (q.1, q.2.1) (nI D) (nI i) = some (nI (bestR (valD v3 (Lives_hidden v10 l) (Town_skills v2 p) (Lives_purse v10 l, Lives_debt v10 l, Lives_home v10 l) D) (3 ^ D - 1) / 3 ^ (D - 1 - i) % 3)) := by
      unfold f_Deeds_deedOf
      refine bnd ?_ rfl
      show f_Deeds_deedIn N q.2.1 (nI D) (nI i) = _
      rw [d2]
      exact deedIn_ok hN hD7 (by omega) hiD
    refine Ev.ifn k1 ?_
    refine Ev.bnd hdo ?_
    refine Ev.ret ?_
    rw [show (4 : Int32) + nI l = nI (4 + l) from nI_add 4 l, show (22 : Int32) + nI l = nI (22 + l) from nI_add 22 l, show (10 : Int32) + nI l = nI (10 + l) from nI_add 10 l, show (16 : Int32) + nI l = nI (16 + l) from nI_add 16 l, nI_clamp (n := 4 + l) (by omega), nI_clamp (n := 22 + l) (by omega), nI_clamp (n := 10 + l) (by omega), nI_clamp (n := 16 + l) (by omega), nI_clamp (n := i) (by omega), s1, s2, s2b, s3]
    refine Ev.bnd e2 ?_
    refine Ev.ifn (by decide) ?_
    refine Ev.bnd g2 ?_
    refine Ev.ifn (by decide) ?_
    refine Ev.bnd (within_yes w2 w3) ?_
    refine Ev.ifn (by decide) ?_
    refine Ev.bnd (within_yes w5 w6) ?_
    refine Ev.ifp (by decide) ?_
    refine Ev.bnd (person_at (w := R_s_thrown_isFound_deedsMany w 0 0 (nI D)) hT hp).2.1 ?_
    refine Ev.ifn i1 ?_
    refine Ev.ifn i2 ?_
    refine Ev.ifn i3 ?_
    refine Ev.ifn i4 ?_
    refine Ev.bnd e4 ?_
    refine Ev.ifp (nI_pos' (by omega)) ?_
    refine Ev.ifn ii ?_
    exact Ev.ret ⟨rfl, (d6 i hiD).symm, rel0 _ _ _ _ _ _ _ _ _ _⟩
/-! ===== RESTS of CARE ===== -/
def payC (g b l : Int32) (own other : Nat) : Int32 := ((g * nI other) + (b * nI (min own other))) - ((l * nI own) * nI own)
def bestC (g b l : Int32) (c o : Nat) : Bool := allF (fun e => decide (payC g b l e o ≤ payC g b l c o)) 6 0
theorem minC {x y : Nat} (hx : x < 2 ^ 31) (hy : y < 2 ^ 31) : (if nI y < nI x then nI y else nI x) = nI (min x y) ∧ (if nI y ≤ nI x then nI y else nI x) = nI (min x y) := by
  constructor
  · by_cases c : y < x
    · rw [if_pos (nI_lt c hx)]; congr 1; omega
    · rw [if_neg (nI_nlt (by omega) hy)]; congr 1; omega
  · by_cases c : y ≤ x
    · rw [if_pos (nI_le c hx)]; congr 1; omega
    · rw [if_neg (nI_ge (by omega) hy)]; congr 1; omega
theorem care_loop (N : Nat) {g b l y5 : Int32} {o : Nat} (ho : o ≤ 5) : ∀ (r k fuel : Nat), k + r = 6 → r < fuel → f_Bl_isBestCare_L24 N fuel g b l (nI o) y5 (nI k) = some (if allF (fun e => decide (payC g b l e o ≤ y5)) r k = true then Sum.inr () else Sum.inl ())
  | _, _, 0, _, h => absurd h (Nat.not_lt_zero _)
  | 0, k, fuel + 1, hk, hf => by
    have hk : k = 6 := hk
    subst hk
    rw [f_Bl_isBestCare_L24]
    exact zifp (by decide) rfl
  | r + 1, k, fuel + 1, hk, hf => by
    have ih := care_loop N (g := g) (b := b) (l := l) (y5 := y5) ho r (k + 1) fuel (by omega) (by omega)
    rw [f_Bl_isBestCare_L24, (minC (x := k) (y := o) (by omega) (by omega)).1, show nI k + 1 = nI (k + 1) from nI_1 k, ih]
    refine zifn (nI_nlt (a := 5) (by omega) (by decide)) ?_
    show (if payC g b l k o ≤ y5 then _ else _) = some (if (decide (payC g b l k o ≤ y5) && allF (fun e => decide (payC g b l e o ≤ y5)) r (k + 1)) = true then _ else _)
    by_cases c : payC g b l k o ≤ y5
    · rw [if_pos c, decide_eq_true c, Bool.true_and]
    · rw [if_neg c, decide_eq_false c, Bool.false_and]
      rfl
theorem bestCare_ok {N : Nat} (hN : 10000 ≤ N) {g b l : Int32} {c o : Nat} (hc : c ≤ 5) (ho : o ≤ 5) : f_Bl_isBestCare N g b l (nI c) (nI o) = some (bI (bestC g b l c o)) := by
  have h := care_loop N (g := g) (b := b) (l := l) (y5 := payC g b l c o) ho 6 0 N (by omega) (by omega)
  unfold f_Bl_isBestCare
  rw [(minC (x := c) (y := o) (by omega) (by omega)).1]
  show (f_Bl_isBestCare_L24 N N g b l (nI o) (payC g b l c o) (nI 0)).bind _ = _
  rw [h]
  show _ = some (bI (allF (fun e => decide (payC g b l e o ≤ payC g b l c o)) 6 0))
  cases allF (fun e => decide (payC g b l e o ≤ payC g b l c o)) 6 0 <;> rfl
theorem cares_ok {N : Nat} {g b l : Int32} {c o : Nat} (hc : c ≤ 5) (ho : o ≤ 5) : f_R_caresFor N g b l (nI c) (nI o) = some (payC g b l c o) := by
  unfold f_R_caresFor
  rw [(minC (x := c) (y := o) (by omega) (by omega)).2]
  rfl
theorem rcare_loop (N : Nat) {w : VR} {g b l y4 y5 y6 y7 y8 : Int32} {c o : Nat} (hc : c ≤ 5) (ho : o ≤ 5) : ∀ (r k fuel : Nat) (x : Bool), k + r = 6 → r < fuel → f_R_rests_L84 N fuel w g b l y4 y5 y6 y7 y8 (nI c) (nI o) (bI x) (nI k) = some (bI (x && allF (fun e => decide (payC g b l e o ≤ payC g b l c o) && decide (payC g b l e c ≤ payC g b l o c)) r k))
  | _, _, 0, _, _, h => absurd h (Nat.not_lt_zero _)
  | 0, k, fuel + 1, x, hk, hf => by
    have hk : k = 6 := hk
    subst hk
    rw [f_R_rests_L84]
    refine zifp (by decide) ?_
    show _ = some (bI (x && true))
    rw [Bool.and_true]
  | r + 1, k, fuel + 1, x, hk, hf => by
    have ih := fun x => rcare_loop N (w := w) (g := g) (b := b) (l := l) (y4 := y4) (y5 := y5) (y6 := y6) (y7 := y7) (y8 := y8) hc ho r (k + 1) fuel x (by omega) (by omega)
    rw [f_R_rests_L84, show nI k + 1 = nI (k + 1) from nI_1 k]
    refine zifn (nI_ge (b := 6) (by omega) (by decide)) ?_
    show _ = some (bI (x && ((decide (payC g b l k o ≤ payC g b l c o) && decide (payC g b l k c ≤ payC g b l o c)) && allF (fun e => decide (payC g b l e o ≤ payC g b l c o) && decide (payC g b l e c ≤ payC g b l o c)) r (k + 1))))
    cases x with
    | false =>
      refine zifp rfl ?_
      rw [show (0 : Int32) = bI false from rfl, ih, Bool.false_and, Bool.false_and]
    | true =>
      refine zifn (by decide) ?_
      refine bnd (cares_ok (by omega) ho) ?_
      refine bnd (cares_ok hc ho) ?_
      by_cases c1 : payC g b l c o < payC g b l k o
      · refine zifp c1 ?_
        rw [show (0 : Int32) = bI false from rfl, ih, decide_eq_false (show ¬ payC g b l k o ≤ payC g b l c o by grind), Bool.false_and, Bool.false_and, Bool.false_and, Bool.and_false]
      · refine zifn c1 ?_
        refine bnd (cares_ok (by omega) hc) ?_
        refine bnd (cares_ok ho hc) ?_
        rw [decide_eq_true (show payC g b l k o ≤ payC g b l c o by grind), Bool.true_and, Bool.true_and]
        by_cases c2 : payC g b l o c < payC g b l k c
        · rw [if_pos c2, show (0 : Int32) = bI false from rfl, ih, decide_eq_false (show ¬ payC g b l k c ≤ payC g b l o c by grind)]
        · rw [if_neg c2, show (1 : Int32) = bI true from rfl, ih, decide_eq_true (show payC g b l k c ≤ payC g b l o c by grind)]
theorem allF_and (A B : Nat → Bool) : ∀ (r k : Nat), allF (fun e => A e && B e) r k = (allF A r k && allF B r k)
  | 0, _ => rfl
  | r + 1, k => by
    show ((A k && B k) && allF (fun e => A e && B e) r (k + 1)) = ((A k && allF A r (k + 1)) && (B k && allF B r (k + 1)))
    rw [allF_and A B r (k + 1)]
    cases A k <;> cases B k <;> cases allF A r (k + 1) <;> cases allF B r (k + 1) <;> rfl
def restB (g b l : Int32) (k : Nat) : Bool := bestC g b l (k / 6) (k % 6) && bestC g b l (k % 6) (k / 6)
def fndS (F : Nat → Bool) (x : Int32) : Nat → Int32
  | 0 => -1
  | k + 1 => if F k = true then (if nI (cntB F k) = x then nI (10 * (k / 6) + k % 6) else fndS F x k) else fndS F x k
theorem fndS_stay {F : Nat → Bool} {x : Int32} {k : Nat} (hF : F k = true) (hx : nI (cntB F k) = x) : ∀ m, k < m → m ≤ 36 → fndS F x m = nI (10 * (k / 6) + k % 6)
  | 0, h, _ => absurd h (Nat.not_lt_zero _)
  | m + 1, h, hm => by
    rw [fndS]
    by_cases e : m = k
    · subst e
      rw [if_pos hF, if_pos hx]
    · have ih := fndS_stay hF hx m (by omega) (by omega)
      have h1 : cntB F (k + 1) = cntB F k + 1 := by rw [cntB, if_pos hF]
      have h2 := cntB_mono F (show k + 1 ≤ m by omega)
      have h3 := cntB_le F m
      have hne : ¬ nI (cntB F m) = x := fun q => by
        have := (nI_eq (by omega) (by omega)).mp (q.trans hx.symm)
        omega
      rw [if_neg hne, ih]
      split <;> rfl
theorem fndS_rng {F : Nat → Bool} {x : Int32} : ∀ m, m ≤ 36 → (fndS F x m = (-1) ∨ ∃ j, j ≤ 55 ∧ fndS F x m = nI j ∧ ¬ x < 0)
  | 0, _ => Or.inl rfl
  | m + 1, hm => by
    have ih := fndS_rng (F := F) (x := x) m (by omega)
    rw [fndS]
    by_cases c : F m = true
    · rw [if_pos c]
      by_cases c2 : nI (cntB F m) = x
      · rw [if_pos c2]
        have := cntB_le F m
        exact Or.inr ⟨_, by omega, rfl, by rw [← c2]; exact nI_pos (by omega)⟩
      · rw [if_neg c2]; exact ih
    · rw [if_neg c]; exact ih
theorem rrest_loop {N : Nat} (hN : 10000 ≤ N) {w : VR} {g b l y4 : Int32} : ∀ (r k fuel : Nat), k + r = 36 → r < fuel → f_R_rests_L52 N fuel w g b l y4 1 (nI (cntB (restB g b l) k)) (fndS (restB g b l) y4 k) (nI k) = some (nI (cntB (restB g b l) 36), fndS (restB g b l) y4 36)
  | _, _, 0, _, h => absurd h (Nat.not_lt_zero _)
  | 0, k, fuel + 1, hk, hf => by
    have hk : k = 36 := hk
    subst hk
    rw [f_R_rests_L52]
    exact zifp (by decide) rfl
  | r + 1, k, fuel + 1, hk, hf => by
    have ih := rrest_loop hN (w := w) (g := g) (b := b) (l := l) (y4 := y4) r (k + 1) fuel (by omega) (by omega)
    have e1 : nI k / 6 = nI (k / 6) := pk_div (d := 6) (by omega) (by decide) (by decide)
    have e2 : nI k - nI (k / 6) * 6 = nI (k % 6) := by rw [← e1]; exact pk_rem (d := 6) (by omega) (by decide) (by decide)
    have hin := rcare_loop N (w := w) (g := g) (b := b) (l := l) (y4 := y4) (y5 := 1) (y6 := nI (cntB (restB g b l) k)) (y7 := fndS (restB g b l) y4 k) (y8 := nI k) (c := k / 6) (o := k % 6) (by omega) (by omega) 6 0 N true (by omega) (by omega)
    have hin : f_R_rests_L84 N N w g b l y4 1 (nI (cntB (restB g b l) k)) (fndS (restB g b l) y4 k) (nI k) (nI (k / 6)) (nI (k % 6)) 1 0 = some (bI (restB g b l k)) := by
      refine Eq.trans hin ?_
      rw [Bool.true_and, allF_and]
      rfl
    rw [f_R_rests_L52, e1, e2, show nI k + 1 = nI (k + 1) from nI_1 k]
    refine zifn (nI_ge (b := 36) (by omega) (by decide)) ?_
    refine zifn (by decide) ?_
    refine bnd hin ?_
    have z1 : (if bI (restB g b l k) = 0 then fndS (restB g b l) y4 k else (if nI (cntB (restB g b l) k) = y4 then (10 * nI (k / 6)) + nI (k % 6) else fndS (restB g b l) y4 k)) = fndS (restB g b l) y4 (k + 1) := by
      rw [fndS, show (10 : Int32) * nI (k / 6) + nI (k % 6) = nI (10 * (k / 6) + k % 6) by simp (maxSteps := 2000000) (disch := omega) only [zlit, nI_add, pk_mul, nI_clamp]]
      cases restB g b l k <;> rfl
    refine zletG z1 ?_
    have z2 : nI (cntB (restB g b l) k) + (if bI (restB g b l k) = 0 then (0 : Int32) else 1) = nI (cntB (restB g b l) (k + 1)) := by
      rw [cntB]
      cases restB g b l k with
      | false => exact nI_add _ 0
      | true => exact nI_1 _
    rw [z2]
    exact ih
theorem rrest_not (N : Nat) {w : VR} {g b l y4 : Int32} (hN : 10000 ≤ N) : f_R_rests_L52 N N w g b l y4 0 0 (-1) 0 = some (0, -1) := by
  obtain ⟨M, rfl⟩ : ∃ M, N = M + 1 := ⟨N - 1, by omega⟩
  rw [f_R_rests_L52]
  refine zifn (by decide) ?_
  exact zifp rfl rfl
theorem crest_in {N : Nat} (hN : 10000 ≤ N) {g b l y4 : Int32} {c : Nat} (hc : c ≤ 5) : ∀ (r o fuel : Nat), o + r = 6 → r < fuel → (∀ j, j < 6 * c + o → ¬ (restB g b l j = true ∧ nI (cntB (restB g b l) j) = y4)) → Ev (f_Bl_rests_L53 N fuel g b l y4 (nI c) (nI (cntB (restB g b l) (6 * c + o))) (nI o)) (fun s => (∃ k, k < 36 ∧ restB g b l k = true ∧ nI (cntB (restB g b l) k) = y4 ∧ s = Sum.inl (nI (10 * (k / 6) + k % 6))) ∨ (s = Sum.inr (nI (cntB (restB g b l) (6 * c + 6))) ∧ ∀ j, j < 6 * c + 6 → ¬ (restB g b l j = true ∧ nI (cntB (restB g b l) j) = y4)))
  | _, _, 0, _, h, _ => absurd h (Nat.not_lt_zero _)
  | 0, o, fuel + 1, hk, hf, hno => by
    have hk : o = 6 := hk
    subst hk
    rw [f_Bl_rests_L53]
    refine Ev.ifp (by decide) ?_
    exact Ev.ret (Or.inr ⟨rfl, hno⟩)
  | r + 1, o, fuel + 1, hk, hf, hno => by
    have ih := crest_in hN (g := g) (b := b) (l := l) (y4 := y4) hc r (o + 1) fuel (by omega) (by omega)
    have ec : cntB (restB g b l) (6 * c + (o + 1)) = cntB (restB g b l) (6 * c + o) + (if restB g b l (6 * c + o) = true then 1 else 0) := rfl
    have er : restB g b l (6 * c + o) = (bestC g b l c o && bestC g b l o c) := by
      unfold restB
      rw [show (6 * c + o) / 6 = c by omega, show (6 * c + o) % 6 = o by omega]
    have skip : restB g b l (6 * c + o) = false → Ev (f_Bl_rests_L53 N fuel g b l y4 (nI c) (nI (cntB (restB g b l) (6 * c + o))) (nI (o + 1))) (fun s => (∃ k, k < 36 ∧ restB g b l k = true ∧ nI (cntB (restB g b l) k) = y4 ∧ s = Sum.inl (nI (10 * (k / 6) + k % 6))) ∨ (s = Sum.inr (nI (cntB (restB g b l) (6 * c + 6))) ∧ ∀ j, j < 6 * c + 6 → ¬ (restB g b l j = true ∧ nI (cntB (restB g b l) j) = y4))) := fun hz => by
      rw [ec, hz] at ih
      refine ih (fun j hj => ?_)
      by_cases e : j = 6 * c + o
      · subst e
        rw [hz]
        exact fun q => absurd q.1 (by decide)
      · exact hno j (by omega)
    rw [f_Bl_rests_L53, show nI o + 1 = nI (o + 1) from nI_1 o]
    refine Ev.ifn (nI_nlt (a := 5) (by omega) (by decide)) ?_
    refine Ev.bnd (bestCare_ok hN hc (by omega)) ?_
    cases h1 : bestC g b l c o with
    | false =>
      refine Ev.ifp rfl ?_
      exact skip (by rw [er, h1, Bool.false_and])
    | true =>
      refine Ev.ifn (by decide) ?_
      refine Ev.bnd (bestCare_ok hN (by omega) hc) ?_
      cases h2 : bestC g b l o c with
      | false =>
        refine Ev.ifp rfl ?_
        exact skip (by rw [er, h2, Bool.and_false])
      | true =>
        have hy : restB g b l (6 * c + o) = true := by rw [er, h1, h2]; rfl
        refine Ev.ifn (by decide) ?_
        by_cases k : nI (cntB (restB g b l) (6 * c + o)) = y4
        · refine Ev.ifp k ?_
          refine Ev.ret (Or.inl ⟨6 * c + o, by omega, hy, k, ?_⟩)
          rw [show (10 : Int32) * nI c + nI o = nI (10 * c + o) by simp (maxSteps := 2000000) (disch := omega) only [zlit, nI_add, pk_mul, nI_clamp], show (6 * c + o) / 6 = c by omega, show (6 * c + o) % 6 = o by omega]
        · refine Ev.ifn k ?_
          rw [ec, hy, if_pos rfl] at ih
          rw [nI_1]
          refine ih (fun j hj => ?_)
          by_cases e : j = 6 * c + o
          · subst e
            exact fun q => k q.2
          · exact hno j (by omega)
theorem crest_out {N : Nat} (hN : 10000 ≤ N) {g b l y4 : Int32} : ∀ (r c fuel : Nat), c + r = 6 → r < fuel → (∀ j, j < 6 * c → ¬ (restB g b l j = true ∧ nI (cntB (restB g b l) j) = y4)) → Ev (f_Bl_rests_L44 N fuel g b l y4 (nI (cntB (restB g b l) (6 * c))) (nI c)) (fun s => (∃ k, k < 36 ∧ restB g b l k = true ∧ nI (cntB (restB g b l) k) = y4 ∧ s = Sum.inl (nI (10 * (k / 6) + k % 6))) ∨ (s = Sum.inr (nI (cntB (restB g b l) 36)) ∧ ∀ j, j < 36 → ¬ (restB g b l j = true ∧ nI (cntB (restB g b l) j) = y4)))
  | _, _, 0, _, h, _ => absurd h (Nat.not_lt_zero _)
  | 0, c, fuel + 1, hk, hf, hno => by
    have hk : c = 6 := hk
    subst hk
    rw [f_Bl_rests_L44]
    refine Ev.ifp (by decide) ?_
    exact Ev.ret (Or.inr ⟨rfl, hno⟩)
  | r + 1, c, fuel + 1, hk, hf, hno => by
    rw [f_Bl_rests_L44, show nI c + 1 = nI (c + 1) from nI_1 c]
    refine Ev.ifn (nI_nlt (a := 5) (by omega) (by decide)) ?_
    refine Ev.bnx (crest_in hN (g := g) (b := b) (l := l) (y4 := y4) (c := c) (by omega) 6 0 N (by omega) (by omega) hno) ?_
    rintro s (⟨k, k1, k2, k3, rfl⟩ | ⟨rfl, k2⟩)
    · exact Ev.ret (Or.inl ⟨k, k1, k2, k3, rfl⟩)
    · exact crest_out hN r (c + 1) fuel (by omega) (by omega) k2
theorem fndS_none {F : Nat → Bool} {x : Int32} : ∀ m, (∀ j, j < m → ¬ (F j = true ∧ nI (cntB F j) = x)) → fndS F x m = (-1)
  | 0, _ => rfl
  | m + 1, h => by
    have ih := fndS_none (F := F) (x := x) m (fun j hj => h j (by omega))
    rw [fndS]
    by_cases c : F m = true
    · rw [if_pos c, if_neg (fun q => h m (by omega) ⟨c, q⟩)]; exact ih
    · rw [if_neg c]; exact ih
theorem gain_no2 {N : Nat} {x : Int32} (h : x < 0 ∨ 9 < x) : f_Bl_isGain N x = some 0 := by
  unfold f_Bl_isGain
  rcases h with h | h
  · rw [if_pos h]
  · by_cases c : x < 0
    · rw [if_pos c]
    · rw [if_neg c, if_pos h]
theorem gain_yes2 {N : Nat} {x : Int32} (h : ¬ x < 0) (h2 : ¬ 9 < x) : f_Bl_isGain N x = some 1 := by
  unfold f_Bl_isGain
  rw [if_neg h, if_neg h2]
theorem m_rests {N : Nat} (hN : 10000 ≤ N) (w : VR) (a1 a2 a3 a4 : Int32) : Ev (f_Bl_rests N a1 a2 a3 a4) (fun s => Ev (f_R_rests N w a1 a2 a3 a4) (fun q => Sum.elim (fun _ => q.2 = 1) (fun r => q.2 = 0 ∧ r = q.1) s)) := by
  unfold f_Bl_rests f_R_rests
  by_cases w1 : a1 < 0 ∨ 9 < a1
  · refine Ev.bnd (gain_no2 w1) ?_
    refine Ev.ifp rfl ?_
    refine Ev.ret ?_
    refine Ev.bnd (within_no w1) ?_
    refine Ev.ifp rfl ?_
    refine Ev.bnd (rrest_not N hN) ?_
    exact Ev.ret rfl
  obtain ⟨w2, w3⟩ := not_or.mp w1
  refine Ev.bnd (gain_yes2 w2 w3) ?_
  refine Ev.ifn (by decide) ?_
  by_cases w4 : a2 < 0 ∨ 9 < a2
  · refine Ev.bnd (gain_no2 w4) ?_
    refine Ev.ifp rfl ?_
    refine Ev.ret ?_
    refine Ev.bnd (within_yes w2 w3) ?_
    refine Ev.ifn (by decide) ?_
    refine Ev.bnd (within_no w4) ?_
    refine Ev.ifp rfl ?_
    refine Ev.bnd (rrest_not N hN) ?_
    exact Ev.ret rfl
  obtain ⟨w5, w6⟩ := not_or.mp w4
  refine Ev.bnd (gain_yes2 w5 w6) ?_
  refine Ev.ifn (by decide) ?_
  by_cases w7 : a3 < 0 ∨ 9 < a3
  · refine Ev.bnd (gain_no2 w7) ?_
    refine Ev.ifp rfl ?_
    refine Ev.ret ?_
    refine Ev.bnd (within_yes w2 w3) ?_
    refine Ev.ifn (by decide) ?_
    refine Ev.bnd (within_yes w5 w6) ?_
    refine Ev.ifn (by decide) ?_
    refine Ev.bnd (within_no w7) ?_
    refine Ev.bnd (rrest_not N hN) ?_
    refine Ev.letG (y := 1) rfl ?_
    refine Ev.ifn (by decide) ?_
    exact Ev.ret rfl
  obtain ⟨w8, w9⟩ := not_or.mp w7
  refine Ev.bnd (gain_yes2 w8 w9) ?_
  refine Ev.ifn (by decide) ?_
  by_cases w10 : a4 < (-1)
  · have hr := rrest_not N (w := w) (g := a1) (b := a2) (l := a3) (y4 := a4) hN
    refine Ev.ifp w10 ?_
    refine Ev.ret ?_
    refine Ev.bnd (within_yes w2 w3) ?_
    refine Ev.ifn (by decide) ?_
    refine Ev.bnd (within_yes w5 w6) ?_
    refine Ev.ifn (by decide) ?_
    refine Ev.bnd (within_yes w8 w9) ?_
    have k : (if (1 : Int32) = 0 then (0 : Int32) else (if a4 < (-1) then 0 else 1)) = 0 := by rw [if_neg (by decide), if_pos w10]
    rw [k]
    refine Ev.bnd hr ?_
    refine Ev.letG (y := 1) (if_pos rfl) ?_
    refine Ev.ifn (by decide) ?_
    exact Ev.ret rfl
  refine Ev.ifn w10 ?_
  have hrr := rrest_loop hN (w := w) (g := a1) (b := a2) (l := a3) (y4 := a4) 36 0 N (by omega) (by omega)
  have hrr : f_R_rests_L52 N N w a1 a2 a3 a4 1 0 (-1) 0 = some (nI (cntB (restB a1 a2 a3) 36), fndS (restB a1 a2 a3) a4 36) := hrr
  have k : (if (1 : Int32) = 0 then (0 : Int32) else (if a4 < (-1) then 0 else 1)) = 1 := by rw [if_neg (by decide), if_neg w10]
  have hcnt := cntB_le (restB a1 a2 a3) 36
  obtain ⟨s, e1, d1⟩ := crest_out hN (g := a1) (b := a2) (l := a3) (y4 := a4) 6 0 N (by omega) (by omega) (fun j hj => absurd hj (Nat.not_lt_zero _))
  have e1 : f_Bl_rests_L44 N N a1 a2 a3 a4 0 0 = some s := e1
  refine Ev.bnd e1 ?_
  have rest : ∀ (z : Int32) (Q : Int32 × Int32 → Prop), (if a4 < 0 then (0 : Int32) else (if fndS (restB a1 a2 a3) a4 36 < 0 then 1 else 0)) = z → Ev (if z ≤ 0 then (if 0 ≤ a4 then some (fndS (restB a1 a2 a3) a4 36, z) else some (nI (cntB (restB a1 a2 a3) 36), z)) else some (0, z)) Q → Ev (f_R_rests N w a1 a2 a3 a4) Q := fun z Q hz hev => by
    unfold f_R_rests
    refine Ev.bnd (within_yes w2 w3) ?_
    refine Ev.ifn (by decide) ?_
    refine Ev.bnd (within_yes w5 w6) ?_
    refine Ev.ifn (by decide) ?_
    refine Ev.bnd (within_yes w8 w9) ?_
    rw [k]
    refine Ev.bnd hrr ?_
    refine Ev.letG (y := z) ((if_neg (by decide)).trans hz) ?_
    exact hev
  rcases d1 with ⟨j, j1, j2, j3, rfl⟩ | ⟨rfl, j2⟩
  · have hfd := fndS_stay j2 j3 36 j1 (by omega)
    have hcj := cntB_le (restB a1 a2 a3) j
    have h40 : ¬ a4 < 0 := by rw [← j3]; exact nI_pos (by omega)
    refine Ev.ret ?_
    refine rest 0 _ (by rw [if_neg h40, hfd, if_neg (nI_pos (by omega))]) ?_
    refine Ev.ifp (by decide) ?_
    refine Ev.ifp (by grind) ?_
    exact Ev.ret ⟨rfl, hfd.symm⟩
  · have hfd := fndS_none 36 j2
    by_cases c : a4 = (-1)
    · refine Ev.ifp c ?_
      refine Ev.ret ?_
      refine rest 0 _ (by rw [c]; rfl) ?_
      refine Ev.ifp (by decide) ?_
      refine Ev.ifn (by rw [c]; decide) ?_
      exact Ev.ret ⟨rfl, rfl⟩
    · refine Ev.ifn c ?_
      refine Ev.ret ?_
      have h40 : ¬ a4 < 0 := by grind
      refine rest 1 _ (by rw [if_neg h40, hfd]; rfl) ?_
      refine Ev.ifn (by decide) ?_
      exact Ev.ret rfl
