/-! ===== a week of the class from lives that are as v ===== -/
theorem cgo_ev {N : Nat} (hN : 10000 ≤ N) {c v : VLives} {v2 : VTown} {v3 : VLaws} {v9 : VLots} {w : VR} {P L g p : Nat} {fa sk : Nat → Int32} (hT : townR w v2 v3 P) (hl : lotsR w v9 P L) (hp : p < L) (hI : LI P v) (hg : g ≤ 999) (hc : AGP 6 c v) : Ev (f_Lives_goAway N c v2 (Laws_s_facts_stack v3 fa sk) v9 (nI p)) (fun r => Ev (f_Lives_passDays N (c.1, c.2.1, c.2.2.1, c.2.2.2.1, r.1, r.2.1, r.2.2.1, r.2.2.2.1, r.2.2.2.2, c.2.2.2.2.2.2.2.2.2.1, c.2.2.2.2.2.2.2.2.2.2) v2 (Laws_s_facts_stack v3 fa sk) (nI 7) (nI g)) (fun q => AGP P (q.1, q.2.1, q.2.2.1, c.2.2.2.1, r.1, r.2.1, r.2.2.1, r.2.2.2.1, q.2.2.2.1, c.2.2.2.2.2.2.2.2.2.1, c.2.2.2.2.2.2.2.2.2.2) (wkV v2 v3 v9 P g v p 7))) := by
  have h6 := hT.1.2
  have h0 := (hT.2.2.2 0 (by decide)).1
  have h1 := (hT.2.2.2 1 (by decide)).1
  obtain ⟨lo1, lo2, -⟩ := hl.2.2.2 p hp
  refine (goAway_ag hN (v := c) (v1 := v2) (v2 := Laws_s_facts_stack v3 fa sk) hl.2.1 hl.2.2.1 hp).mono ?_
  intro r hr
  have ha : AGP P (c.1, c.2.1, c.2.2.1, c.2.2.2.1, r.1, r.2.1, r.2.2.1, r.2.2.2.1, r.2.2.2.2, c.2.2.2.2.2.2.2.2.2.1, c.2.2.2.2.2.2.2.2.2.2) (leaveV v (rowOf v9 p)) := (hr.le h6).trans (leaveV_ag (hc.le h6) (fun _ _ => rfl))
  have hIV : LI P (c.1, c.2.1, c.2.2.1, c.2.2.2.1, r.1, r.2.1, r.2.2.1, r.2.2.2.1, r.2.2.2.2, c.2.2.2.2.2.2.2.2.2.1, c.2.2.2.2.2.2.2.2.2.2) := (LI_leave hI lo1 lo2).ag ha.symm
  refine (passDays_v hN (v := (c.1, c.2.1, c.2.2.1, c.2.2.2.1, r.1, r.2.1, r.2.2.1, r.2.2.2.1, r.2.2.2.2, c.2.2.2.2.2.2.2.2.2.1, c.2.2.2.2.2.2.2.2.2.2)) (v2 := Laws_s_facts_stack v3 fa sk) (sg := nI g) (n := 7) (by omega) hT.1 hIV.2.2.1 h0 h1).mono ?_
  intro q hq
  have e : daysV v2 (Laws_s_facts_stack v3 fa sk) P (nI g) 7 (c.1, c.2.1, c.2.2.1, c.2.2.2.1, r.1, r.2.1, r.2.2.1, r.2.2.2.1, r.2.2.2.2, c.2.2.2.2.2.2.2.2.2.1, c.2.2.2.2.2.2.2.2.2.2) = daysV v2 v3 P (nI g) 7 (c.1, c.2.1, c.2.2.1, c.2.2.2.1, r.1, r.2.1, r.2.2.1, r.2.2.2.1, r.2.2.2.2, c.2.2.2.2.2.2.2.2.2.1, c.2.2.2.2.2.2.2.2.2.2) := by rw [daysV_eq, daysV_eq, daysS_fs]
  rw [e] at hq
  have hq : (q.1, q.2.1, q.2.2.1, c.2.2.2.1, r.1, r.2.1, r.2.2.1, r.2.2.2.1, q.2.2.2.1, c.2.2.2.2.2.2.2.2.2.1, c.2.2.2.2.2.2.2.2.2.2) = daysV v2 v3 P (nI g) 7 (c.1, c.2.1, c.2.2.1, c.2.2.2.1, r.1, r.2.1, r.2.2.1, r.2.2.2.1, r.2.2.2.2, c.2.2.2.2.2.2.2.2.2.1, c.2.2.2.2.2.2.2.2.2.2) := hq
  rw [hq]
  exact wkV_ag (L := L) hT hg ha hIV
/-! ===== law ===== -/
def sumL (f : Nat → Int32) : Nat → Nat → Int64 → Int64
  | 0, _, a => a
  | r + 1, k, a => sumL f r (k + 1) (a + (f k).toInt64)
def hmA (v2 : VTown) (v3 : VLaws) (v9 : VLots) (P g : Nat) (v : VLives) (p : Nat) : Int32 := sumN (hmOf (wkV v2 v3 v9 P g v p 7)) P 0 0
theorem claw_loop {N : Nat} (hN : 10000 ≤ N) {v17 : VForecast} {v2 : VTown} {v3 : VLaws} {v9 : VLots} {v10 u : VLives} {w : VR} {P L s : Nat} (hT : townR w v2 v3 P) (hs : s ≤ 999) (hl : lotsR w v9 P L) (hI : LI P v10) (ha : Lives_away v10 = 0 ∨ Lives_away v10 = 1) : ∀ (r k fuel : Nat) (x : Int64) (fa sk : Nat → Int32) (V : VLives), k + r = L → r < fuel → Ev (f_Forecast_harmBySign_L5 N fuel v17 v2 v3 v9 v10 u (nI s) x (nI k) fa sk (Lives_purse V) (Lives_debt V) (Lives_home V) (Lives_hidden V) (Lives_self V) (Lives_worthThen V) (Lives_homeThen V) (Lives_away V) (Lives_days V) (Lives_homes V) (Lives_harm V)) (fun q => q.1 = sumL (hmA v2 v3 v9 P s v10) r k x)
  | _, _, 0, _, _, _, _, _, h => absurd h (Nat.not_lt_zero _)
  | 0, k, fuel + 1, x, fa, sk, V, hk, hf => by
    have hL := hl.2.2.1
    rw [f_Forecast_harmBySign_L5, hl.2.1]
    repeat (first | (with_reducible refine Ev.letE ?_) | (with_reducible refine Ev.ifn ?_ ?_; · (first | with_reducible assumption | decide | (simp (disch := omega) only [zlit, nI_add, pk_mul, pk_sub, zsubm, nI_clamp, nI_leI, nI_ltI, nI_eq, zeqF, Nat.reduceEqDiff, zleF, zleT, zltF, zltT, zneg1, zneg1L, zneg2, zneg0, eq_self, or_self, false_or, or_false, Nat.not_lt_zero, not_false_eq_true, not_true_eq_false]; done))) | (with_reducible refine Ev.ifp ?_ ?_; · (first | with_reducible assumption | decide | (simp (disch := omega) only [zlit, nI_add, pk_mul, pk_sub, zsubm, nI_clamp, nI_leI, nI_ltI, nI_eq, zeqF, Nat.reduceEqDiff, zleF, zleT, zltF, zltT, zneg1, zneg1L, zneg2, zneg0, eq_self, or_self, false_or, or_false, Nat.not_lt_zero, not_false_eq_true, not_true_eq_false]; done))) | (with_reducible refine Ev.bnd (x := some _) rfl ?_))
    exact Ev.ret rfl
  | r + 1, k, fuel + 1, x, fa, sk, V, hk, hf => by
    have h6 := hT.1.2
    have hL := hl.2.2.1
    rw [f_Forecast_harmBySign_L5, hl.2.1, show nI k + 1 = nI (k + 1) from nI_1 k]
    repeat (first | (with_reducible refine Ev.letE ?_) | (with_reducible refine Ev.ifn ?_ ?_; · (first | with_reducible assumption | decide | (simp (disch := omega) only [zlit, nI_add, pk_mul, pk_sub, zsubm, nI_clamp, nI_leI, nI_ltI, nI_eq, zeqF, Nat.reduceEqDiff, zleF, zleT, zltF, zltT, zneg1, zneg1L, zneg2, zneg0, eq_self, or_self, false_or, or_false, Nat.not_lt_zero, not_false_eq_true, not_true_eq_false]; done))) | (with_reducible refine Ev.ifp ?_ ?_; · (first | with_reducible assumption | decide | (simp (disch := omega) only [zlit, nI_add, pk_mul, pk_sub, zsubm, nI_clamp, nI_leI, nI_ltI, nI_eq, zeqF, Nat.reduceEqDiff, zleF, zleT, zltF, zltT, zneg1, zneg1L, zneg2, zneg0, eq_self, or_self, false_or, or_false, Nat.not_lt_zero, not_false_eq_true, not_true_eq_false]; done))) | (with_reducible refine Ev.bnd (x := some _) rfl ?_))
    refine Ev.bnx (copy_ev (N := N) ha) ?_
    intro c hc
    refine Ev.bnx (cgo_ev hN (c := c) (fa := fa) (sk := sk) hT hl (show k < L by omega) hI hs hc) ?_
    intro q3 h3
    refine Ev.bnx h3 ?_
    intro q4 h4
    refine Ev.bnd (harmAll_ok hN (v := (q4.1, q4.2.1, q4.2.2.1, c.2.2.2.1, q3.1, q3.2.1, q3.2.2.1, q3.2.2.2.1, q4.2.2.2.1, c.2.2.2.2.2.2.2.2.2.1, c.2.2.2.2.2.2.2.2.2.2)) (v2 := Laws_s_facts_stack v3 q4.2.2.2.2.1 q4.2.2.2.2.2) hT.1) ?_
    rw [(sums_ag h4).1]
    exact claw_loop hN hT hs hl hI ha r (k + 1) fuel _ q4.2.2.2.2.1 q4.2.2.2.2.2 (q4.1, q4.2.1, q4.2.2.1, c.2.2.2.1, q3.1, q3.2.1, q3.2.2.1, q3.2.2.2.1, q4.2.2.2.1, c.2.2.2.2.2.2.2.2.2.1, c.2.2.2.2.2.2.2.2.2.2) (by omega) (by omega)
theorem rlaw_loop {N : Nat} (hN : 10000 ≤ N) {w : VR} {v2 : VTown} {v3 : VLaws} {v9 : VLots} {v10 : VLives} {P L s : Nat} (hT : townR w v2 v3 P) (hsg : R_signed w = nI s) (hs : s ≤ 999) (hl : lotsR w v9 P L) (hI : LI P v10) : ∀ (r k fuel : Nat) (x : Int64) (fa pl st : Nat → Int32), k + r = L → r < fuel → LR P 0 st v10 → Ev (f_R_law_L35 N fuel w x (nI k) fa pl st) (fun q => q.1 = sumL (hmA v2 v3 v9 P s v10) r k x ∧ Fr 1584 1630 st q.2.2.2)
  | _, _, 0, _, _, _, _, _, h, _ => absurd h (Nat.not_lt_zero _)
  | 0, k, fuel + 1, x, fa, pl, st, hk, hf, hR => by
    have hL := hl.2.2.1
    rw [f_R_law_L35, hl.1]
    repeat (first | (with_reducible refine Ev.letE ?_) | (with_reducible refine Ev.ifn ?_ ?_; · (first | with_reducible assumption | decide | (simp (disch := omega) only [zlit, nI_add, pk_mul, pk_sub, zsubm, nI_clamp, nI_leI, nI_ltI, nI_eq, zeqF, Nat.reduceEqDiff, zleF, zleT, zltF, zltT, zneg1, zneg1L, zneg2, zneg0, eq_self, or_self, false_or, or_false, Nat.not_lt_zero, not_false_eq_true, not_true_eq_false]; done))) | (with_reducible refine Ev.ifp ?_ ?_; · (first | with_reducible assumption | decide | (simp (disch := omega) only [zlit, nI_add, pk_mul, pk_sub, zsubm, nI_clamp, nI_leI, nI_ltI, nI_eq, zeqF, Nat.reduceEqDiff, zleF, zleT, zltF, zltT, zneg1, zneg1L, zneg2, zneg0, eq_self, or_self, false_or, or_false, Nat.not_lt_zero, not_false_eq_true, not_true_eq_false]; done))) | (with_reducible refine Ev.bnd (x := some _) rfl ?_))
    exact Ev.ret ⟨rfl, Fr.refl _ _ _⟩
  | r + 1, k, fuel + 1, x, fa, pl, st, hk, hf, hR => by
    have h6 := hT.1.2
    have hL := hl.2.2.1
    rw [f_R_law_L35, hl.1, show nI k + 1 = nI (k + 1) from nI_1 k]
    repeat (first | (with_reducible refine Ev.letE ?_) | (with_reducible refine Ev.ifn ?_ ?_; · (first | with_reducible assumption | decide | (simp (disch := omega) only [zlit, nI_add, pk_mul, pk_sub, zsubm, nI_clamp, nI_leI, nI_ltI, nI_eq, zeqF, Nat.reduceEqDiff, zleF, zleT, zltF, zltT, zneg1, zneg1L, zneg2, zneg0, eq_self, or_self, false_or, or_false, Nat.not_lt_zero, not_false_eq_true, not_true_eq_false]; done))) | (with_reducible refine Ev.ifp ?_ ?_; · (first | with_reducible assumption | decide | (simp (disch := omega) only [zlit, nI_add, pk_mul, pk_sub, zsubm, nI_clamp, nI_leI, nI_ltI, nI_eq, zeqF, Nat.reduceEqDiff, zleF, zleT, zltF, zltT, zneg1, zneg1L, zneg2, zneg0, eq_self, or_self, false_or, or_false, Nat.not_lt_zero, not_false_eq_true, not_true_eq_false]; done))) | (with_reducible refine Ev.bnd (x := some _) rfl ?_))
    refine Ev.bnx (weekBy_ev hN (w := R_s_facts_pile_state w fa pl st) hT hsg hs hl (show k < L by omega) hR hI) ?_
    rintro ⟨c1, c2, c3⟩ ⟨d1, d2⟩
    have d2 : Fr 1584 1630 st c3 := d2
    refine Ev.bnd (allHarm_ok hN (w := R_s_facts_pile_state w c1 c2 c3) (b := 1584) (by omega) hT d1).1 ?_
    have hR2 : LR P 0 c3 v10 := hR.keep h6 (fun j a b => d2 j (by omega))
    refine (rlaw_loop hN hT hsg hs hl hI r (k + 1) fuel _ c1 c2 c3 (by omega) (by omega) hR2).mono ?_
    rintro q ⟨q1, q2⟩
    exact ⟨q1, d2.trans q2⟩
theorem lN_ne0 {n : Nat} (h : 0 < n) (h2 : n < 2 ^ 31) : ¬ (nI n).toInt64 = 0 := by
  rw [nI_l h2, show (0 : Int64) = lN 0 from rfl, lN_eq h2 (by decide)]
  omega
theorem mean_ok {N L : Nat} {v9 : VLots} {x : Int64} (hc : Lots_count v9 = nI L) (h0 : 0 < L) (hL : L ≤ 265) : f_Lots_meanInThousandths N v9 x = some (Int64.toInt32 ((x * 1000) / (nI L).toInt64)) := by
  unfold f_Lots_meanInThousandths
  rw [hc, if_neg (nI_nle h0 (by omega)), if_neg (lN_ne0 h0 (by omega))]
theorem m_law {N : Nat} (hN : 10000 ≤ N) {v0 : VBl} {v1 : VTape} {v2 : VTown} {v3 : VLaws} {v4 : VReader} {v5 : VTown} {v6 : VLaws} {v7 : VYear} {v8 : VYear} {v9 : VLots} {v10 : VLives} {v11 : VLives} {v13 : VTales} {v17 : VForecast} {v18 : VLives} {v19 : VDeeds} {v20 : VPairs} {und mls : Nat → VLives} {mts : Nat → VTales} {w : VR} {P L g : Nat} (h : RELx P L g v0 v1 v2 v3 v7 v9 v10 v13 v17 und mls mts w) (a1 : Int32) : Ev (f_Bl_law N v0 v1 v2 v3 v4 v5 v6 v7 v8 v9 v10 v11 v13 v17 v18 v19 v20 und mls mts a1) (fun r => Ev (f_R_law N w a1) (fun q => r.1 = q.1 ∧ q.2.1 = 0 ∧ RELx P L g v0 v1 v2 (Laws_s_facts_stack v3 r.2.1 r.2.2.1) v7 v9 v10 v13 v17 und mls mts (R_s_thrown_facts_pile_state_signed w q.2.1 q.2.2.1 q.2.2.2.1 q.2.2.2.2.1 q.2.2.2.2.2))) := by
  have hh := h
  obtain ⟨⟨hT, hB, hG, hD, hnm⟩, hl, ⟨hR, hI⟩, b4, b5, b6, b7, hpl, hf⟩ := h
  have h6 := hT.1.2
  have hL := hl.2.2.1
  have ha := hR.2.2.2.2.2.1
  have rel0 : ∀ (fa sk f2 pl st : Nat → Int32) (sg : Int32), sg = R_signed w → Fr 1584 1630 (R_state w) st → RELx P L g v0 v1 v2 (Laws_s_facts_stack v3 fa sk) v7 v9 v10 v13 v17 und mls mts (R_s_thrown_facts_pile_state_signed w 0 f2 pl st sg) := fun fa sk f2 pl st sg e hf => hh.trial ⟨rfl, rfl, rfl, e, rfl, rfl, rfl, rfl, rfl, rfl, rfl, rfl, rfl⟩ rfl (fun j hj => hf j (by omega)) ⟨fa, sk, rfl⟩
  have no : f_Bl_law N v0 v1 v2 v3 v4 v5 v6 v7 v8 v9 v10 v11 v13 v17 v18 v19 v20 und mls mts a1 = some (-1, Laws_facts v3, Laws_stack v3, Lives_purse v18, Lives_debt v18, Lives_home v18, Lives_hidden v18, Lives_self v18, Lives_worthThen v18, Lives_homeThen v18, Lives_away v18, Lives_days v18, Lives_homes v18, Lives_harm v18) → f_R_law N w a1 = some (-1, 0, R_facts w, R_pile w, R_state w, R_signed w) → Ev (f_Bl_law N v0 v1 v2 v3 v4 v5 v6 v7 v8 v9 v10 v11 v13 v17 v18 v19 v20 und mls mts a1) (fun r => Ev (f_R_law N w a1) (fun q => r.1 = q.1 ∧ q.2.1 = 0 ∧ RELx P L g v0 v1 v2 (Laws_s_facts_stack v3 r.2.1 r.2.2.1) v7 v9 v10 v13 v17 und mls mts (R_s_thrown_facts_pile_state_signed w q.2.1 q.2.2.1 q.2.2.2.1 q.2.2.2.2.1 q.2.2.2.2.2))) := fun e e2 => Ev.of e (Ev.of e2 ⟨rfl, rfl, rel0 _ _ _ _ _ _ rfl (Fr.refl _ _ _)⟩)
  by_cases w1 : a1 < 0 ∨ 999 < a1
  · refine no ?_ ?_
    · unfold f_Bl_law
      rcases w1 with w1 | w1
      · by_cases c : Lots_count v9 ≤ 0
        · rw [if_pos c]
        · rw [if_neg c, if_pos w1]
      · by_cases c : Lots_count v9 ≤ 0
        · rw [if_pos c]
        · rw [if_neg c, if_neg (show ¬ a1 < 0 by grind), if_neg (show ¬ a1 ≤ 999 by grind)]
    · unfold f_R_law
      repeat (first | (with_reducible refine zletE ?_) | (with_reducible refine zifn ?_ ?_; · (first | with_reducible assumption | decide | (simp (disch := omega) only [zlit, nI_add, pk_mul, pk_sub, zsubm, nI_clamp, nI_leI, nI_ltI, nI_eq, zeqF, Nat.reduceEqDiff, zleF, zleT, zltF, zltT, zneg1, zneg1L, zneg2, zneg0, eq_self, or_self, false_or, or_false, Nat.not_lt_zero, not_false_eq_true, not_true_eq_false]; done))) | (with_reducible refine zifp ?_ ?_; · (first | with_reducible assumption | decide | (simp (disch := omega) only [zlit, nI_add, pk_mul, pk_sub, zsubm, nI_clamp, nI_leI, nI_ltI, nI_eq, zeqF, Nat.reduceEqDiff, zleF, zleT, zltF, zltT, zneg1, zneg1L, zneg2, zneg0, eq_self, or_self, false_or, or_false, Nat.not_lt_zero, not_false_eq_true, not_true_eq_false]; done))) | (with_reducible refine bnd (within_no w1) ?_) | (with_reducible refine bnd (x := some _) rfl ?_))
      rfl
  · obtain ⟨w2, w3⟩ := not_or.mp w1
    obtain ⟨s, hs, rfl⟩ := nI_of w2
    have hs9 : s ≤ 999 := by
      rw [show (999 : Int32) = nI 999 from rfl, nI_ltI (by omega) (by omega)] at w3
      omega
    by_cases hz : L = 0
    · subst hz
      refine no ?_ ?_
      · unfold f_Bl_law
        rw [hl.2.1]
        exact if_pos (by decide)
      · unfold f_R_law
        rw [hl.1]
        repeat (first | (with_reducible refine zletE ?_) | (with_reducible refine zifn ?_ ?_; · (first | with_reducible assumption | decide | (simp (disch := omega) only [zlit, nI_add, pk_mul, pk_sub, zsubm, nI_clamp, nI_leI, nI_ltI, nI_eq, zeqF, Nat.reduceEqDiff, zleF, zleT, zltF, zltT, zneg1, zneg1L, zneg2, zneg0, eq_self, or_self, false_or, or_false, Nat.not_lt_zero, not_false_eq_true, not_true_eq_false]; done))) | (with_reducible refine zifp ?_ ?_; · (first | with_reducible assumption | decide | (simp (disch := omega) only [zlit, nI_add, pk_mul, pk_sub, zsubm, nI_clamp, nI_leI, nI_ltI, nI_eq, zeqF, Nat.reduceEqDiff, zleF, zleT, zltF, zltT, zneg1, zneg1L, zneg2, zneg0, eq_self, or_self, false_or, or_false, Nat.not_lt_zero, not_false_eq_true, not_true_eq_false]; done))) | (with_reducible refine bnd (within_yes w2 w3) ?_) | (with_reducible refine bnd (x := some _) rfl ?_))
        rfl
    · have h0 : 0 < L := by omega
      obtain ⟨c, e1, d1⟩ := claw_loop hN (v17 := v17) (u := v18) hT hs9 hl hI ha L 0 N 0 (Laws_facts v3) (Laws_stack v3) v18 (by omega) (by omega)
      obtain ⟨q, e2, d2, d3⟩ := rlaw_loop hN (w := R_s_thrown_signed w 0 (nI s)) hT rfl hs9 hl hI L 0 N 0 (R_facts w) (R_pile w) (R_state w) (by omega) (by omega) hR
      have e1 : f_Forecast_harmBySign_L5 N N v17 v2 v3 v9 v10 v18 (nI s) 0 0 (Laws_facts v3) (Laws_stack v3) (Lives_purse v18) (Lives_debt v18) (Lives_home v18) (Lives_hidden v18) (Lives_self v18) (Lives_worthThen v18) (Lives_homeThen v18) (Lives_away v18) (Lives_days v18) (Lives_homes v18) (Lives_harm v18) = some c := e1
      have e2 : f_R_law_L35 N N (R_s_thrown_signed w 0 (nI s)) 0 0 (R_facts w) (R_pile w) (R_state w) = some q := e2
      unfold f_Bl_law f_R_law f_Forecast_harmBySign
      rw [hl.2.1, hl.1]
      refine Ev.ifn (nI_nle h0 (by omega)) ?_
      refine Ev.ifn w2 ?_
      refine Ev.ifp (nI_le (a := s) (b := 999) hs9 (by decide)) ?_
      rw [e1]
      refine Ev.bnd rfl ?_
      refine Ev.bnd (mean_ok hl.2.1 h0 hL) ?_
      refine Ev.ret ?_
      refine Ev.bnd (within_yes w2 w3) ?_
      refine Ev.ifn (by decide) ?_
      refine Ev.ifn (nI_ne0 h0 (by omega)) ?_
      refine Ev.bnd e2 ?_
      refine Ev.ifn (lN_ne0 h0 (by omega)) ?_
      refine Ev.ret ⟨?_, rfl, ?_⟩
      · show Int64.toInt32 ((c.1 * 1000) / (nI L).toInt64) = Int64.toInt32 ((q.1 * 1000) / (nI L).toInt64)
        rw [d1, d2]
      · exact rel0 _ _ _ _ _ _ (hG.2.2.1.trans hG.2.2.2.symm) d3
/-! ===== prepare ===== -/
theorem upd_upd (f : Nat → Int32) (k : Nat) (a b : Int32) : upd (upd f k a) k b = upd f k b := by
  funext j
  by_cases e : j = k
  · subst e; rw [pk_us, pk_us]
  · rw [pk_un e, pk_un e, pk_un e]
theorem upd_same (f : Nat → Int32) (k : Nat) : upd f k (f k) = f := by
  funext j
  by_cases e : j = k
  · subst e; rw [pk_us]
  · rw [pk_un e]
theorem hideV_hideV (v : VLives) (l : Nat) (a b : Int32) : hideV (hideV v l a) l b = hideV v l b := by
  show Lives_hidden_s v (upd (upd (Lives_hidden v) l a) l b) = Lives_hidden_s v (upd (Lives_hidden v) l b)
  rw [upd_upd]
theorem hideV_same (v : VLives) (l : Nat) : hideV v l (Lives_hidden v l) = v := by
  show Lives_hidden_s v (upd (Lives_hidden v) l (Lives_hidden v l)) = v
  rw [upd_same]
  rfl
theorem ownH {w : VR} {v2 : VTown} {v3 : VLaws} {v9 : VLots} {P L g p l : Nat} {v : VLives} (h6 : P ≤ 6) (hg : g ≤ 999) (hl : lotsR w v9 P L) (hp : p < L) (hl2 : l < P) (hI : LI P v) : hmOf (wkV v2 v3 v9 P g v p 7) l = nI (hmOf (wkV v2 v3 v9 P g v p 7) l).toNatClampNeg ∧ (hmOf (wkV v2 v3 v9 P g v p 7) l).toNatClampNeg ≤ 20000 := by
  obtain ⟨n, h1, h2⟩ := hm_num (LI_week (v2 := v2) (v3 := v3) (d := 7) h6 hg hl hp hI (by omega)) hl2
  rw [h2, nI_clamp (by omega)]
  exact ⟨rfl, h1⟩
theorem ownN_le {w : VR} {v2 : VTown} {v3 : VLaws} {v9 : VLots} {P L g l : Nat} {v : VLives} (h6 : P ≤ 6) (hg : g ≤ 999) (hl : lotsR w v9 P L) (hl2 : l < P) (hI : LI P v) : ∀ (r k : Nat), k + r = L → ownN v2 v3 v9 P g v l r k ≤ 20000 * r
  | 0, _, _ => Nat.le_refl _
  | r + 1, k, hk => by
    have h1 := (ownH (v2 := v2) (v3 := v3) h6 hg hl (show k < L by omega) hl2 hI).2
    have h2 := ownN_le (v2 := v2) (v3 := v3) h6 hg hl hl2 hI r (k + 1) (by omega)
    show (hmOf (wkV v2 v3 v9 P g v k 7) l).toNatClampNeg + ownN v2 v3 v9 P g v l r (k + 1) ≤ 20000 * (r + 1)
    omega
theorem hide_ag {P l : Nat} {c v : VLives} {x : Int32} (h : AGP P c v) : AGP P (c.1, c.2.1, c.2.2.1, upd c.2.2.2.1 l x, c.2.2.2.2.1, c.2.2.2.2.2.1, c.2.2.2.2.2.2.1, c.2.2.2.2.2.2.2.1, c.2.2.2.2.2.2.2.2.1, c.2.2.2.2.2.2.2.2.2.1, c.2.2.2.2.2.2.2.2.2.2) (hideV v l x) := by
  obtain ⟨h1, h2, h3, h4, h5, h6⟩ := h
  refine ⟨fun k hk => ?_, h2, h3, h4, h5, h6⟩
  obtain ⟨a1, a2, a3, a4, a5⟩ := h1 k hk
  refine ⟨a1, a2, a3, ?_, a5⟩
  show upd (Lives_hidden c) l x k = upd (Lives_hidden v) l x k
  by_cases e : k = l
  · subst e; rw [pk_us, pk_us]
  · rw [pk_un e, pk_un e]; exact a4
theorem cown_loop {N : Nat} (hN : 10000 ≤ N) {v17 : VForecast} {v2 : VTown} {v3 : VLaws} {v9 : VLots} {v10 u : VLives} {w : VR} {P L g l c E : Nat} (hT : townR w v2 v3 P) (hG : signR w v2 g) (hl : lotsR w v9 P L) (hI : LI P v10) (ha : Lives_away v10 = 0 ∨ Lives_away v10 = 1) (hl2 : l < P) (hc9 : c ≤ 9999) (hE : E < 2 ^ 60) : ∀ (r k fuel a : Nat) (fa sk : Nat → Int32) (V : VLives), k + r = L → r < fuel → a ≤ 20000 * k → Ev (f_Forecast_ownHarm_L6 N fuel v17 v2 v3 v9 v10 u (nI l) (nI c) (lN E) (lN a) (nI k) fa sk (Lives_purse V) (Lives_debt V) (Lives_home V) (Lives_hidden V) (Lives_self V) (Lives_worthThen V) (Lives_homeThen V) (Lives_away V) (Lives_days V) (Lives_homes V) (Lives_harm V)) (fun q => ∃ b, b ≤ 20000 * 265 ∧ q.1 = lN b ∧ (a + ownN v2 v3 v9 P g (hideV v10 l (nI c)) l r k < E → b = a + ownN v2 v3 v9 P g (hideV v10 l (nI c)) l r k) ∧ (E ≤ a + ownN v2 v3 v9 P g (hideV v10 l (nI c)) l r k → E ≤ b))
  | _, _, 0, _, _, _, _, _, h, _ => absurd h (Nat.not_lt_zero _)
  | 0, k, fuel + 1, a, fa, sk, V, hk, hf, hak => by
    have hL := hl.2.2.1
    rw [f_Forecast_ownHarm_L6, hl.2.1]
    refine Ev.ifp (nI_le (by omega) (by omega)) ?_
    exact Ev.ret ⟨a, by omega, rfl, fun _ => rfl, fun h => h⟩
  | r + 1, k, fuel + 1, a, fa, sk, V, hk, hf, hak => by
    have h6 := hT.1.2
    have hL := hl.2.2.1
    rw [f_Forecast_ownHarm_L6, hl.2.1, show nI k + 1 = nI (k + 1) from nI_1 k, nI_clamp (n := l) (by omega)]
    refine Ev.ifn (nI_ge (by omega) (by omega)) ?_
    by_cases hEa : E ≤ a
    · refine Ev.ifp ((lg_cmp_ge _ _).mpr ((pk_lLE (by omega) (by omega)).mpr hEa)) ?_
      exact Ev.ret ⟨a, by omega, rfl, fun h => by omega, fun _ => hEa⟩
    · refine Ev.ifn (fun q => hEa ((pk_lLE (by omega) (by omega)).mp ((lg_cmp_ge _ _).mp q))) ?_
      refine Ev.bnx (copy_ev (N := N) ha) ?_
      intro q3 h3
      refine Ev.bnd (has_ok hT.1 hl2) ?_
      refine Ev.ifn (by decide) ?_
      refine Ev.ifn (by first | with_reducible assumption | decide | (simp (disch := omega) only [zlit, nI_add, pk_mul, pk_sub, zsubm, nI_clamp, nI_leI, nI_ltI, nI_eq, zeqF, Nat.reduceEqDiff, zleF, zleT, zltF, zltT, zneg1, zneg1L, zneg2, zneg0, eq_self, or_self, false_or, or_false, Nat.not_lt_zero, not_false_eq_true, not_true_eq_false]; done)) ?_
      have hI2 : LI P (hideV v10 l (nI c)) := LI_hide hI hc9
      refine Ev.bnx (cgo_ev hN (c := (q3.1, q3.2.1, q3.2.2.1, upd q3.2.2.2.1 l (nI c), q3.2.2.2.2.1, q3.2.2.2.2.2.1, q3.2.2.2.2.2.2.1, q3.2.2.2.2.2.2.2.1, q3.2.2.2.2.2.2.2.2.1, q3.2.2.2.2.2.2.2.2.2.1, q3.2.2.2.2.2.2.2.2.2.2)) (fa := fa) (sk := sk) hT hl (show k < L by omega) hI2 hG.1 (hide_ag h3)) ?_
      intro q4 h4
      rw [hG.2.1]
      refine Ev.bnx h4 ?_
      intro q5 h5
      have h5 : AGP P (q5.1, q5.2.1, q5.2.2.1, upd q3.2.2.2.1 l (nI c), q4.1, q4.2.1, q4.2.2.1, q4.2.2.2.1, q5.2.2.2.1, q3.2.2.2.2.2.2.2.2.2.1, q3.2.2.2.2.2.2.2.2.2.2) (wkV v2 v3 v9 P g (hideV v10 l (nI c)) k 7) := h5
      refine Ev.bnd (harmOf_ok (v := (q5.1, q5.2.1, q5.2.2.1, upd q3.2.2.2.1 l (nI c), q4.1, q4.2.1, q4.2.2.1, q4.2.2.2.1, q5.2.2.2.1, q3.2.2.2.2.2.2.2.2.2.1, q3.2.2.2.2.2.2.2.2.2.2)) (v2 := Laws_s_facts_stack v3 q5.2.2.2.2.1 q5.2.2.2.2.2) hT.1 hl2) ?_
      rw [(hmOf_ag h5 hl2).1]
      obtain ⟨e1, e2⟩ := ownH (v2 := v2) (v3 := v3) h6 hG.1 hl (show k < L by omega) hl2 hI2
      have e3 : lN a + (hmOf (wkV v2 v3 v9 P g (hideV v10 l (nI c)) k 7) l).toInt64 = lN (a + (hmOf (wkV v2 v3 v9 P g (hideV v10 l (nI c)) k 7) l).toNatClampNeg) := by
        rw [e1, nI_l (by omega), lN_add, nI_clamp (by omega)]
      rw [e3]
      refine (cown_loop hN hT hG hl hI ha hl2 hc9 hE r (k + 1) fuel _ q5.2.2.2.2.1 q5.2.2.2.2.2 (q5.1, q5.2.1, q5.2.2.1, upd q3.2.2.2.1 l (nI c), q4.1, q4.2.1, q4.2.2.1, q4.2.2.2.1, q5.2.2.2.1, q3.2.2.2.2.2.2.2.2.2.1, q3.2.2.2.2.2.2.2.2.2.2) (by omega) (by omega) (by omega)).mono ?_
      rintro q ⟨b, q1, q2, q3, q4⟩
      refine ⟨b, q1, q2, fun h => ?_, fun h => ?_⟩
      · have h : a + ((hmOf (wkV v2 v3 v9 P g (hideV v10 l (nI c)) k 7) l).toNatClampNeg + ownN v2 v3 v9 P g (hideV v10 l (nI c)) l r (k + 1)) < E := h
        show b = a + ((hmOf (wkV v2 v3 v9 P g (hideV v10 l (nI c)) k 7) l).toNatClampNeg + ownN v2 v3 v9 P g (hideV v10 l (nI c)) l r (k + 1))
        have := q3 (by omega)
        omega
      · have h : E ≤ a + ((hmOf (wkV v2 v3 v9 P g (hideV v10 l (nI c)) k 7) l).toNatClampNeg + ownN v2 v3 v9 P g (hideV v10 l (nI c)) l r (k + 1)) := h
        exact q4 (by omega)
