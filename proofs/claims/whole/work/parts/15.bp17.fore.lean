/-! ===== what would come of a LOT ===== -/
theorem week_start {N : Nat} (hN : 10000 ≤ N) {u v10 : VLives} {v2 : VTown} {v3 v3' : VLaws} {v9 : VLots} {w : VR} {P L p : Nat} (h6 : P ≤ 6) (hl : lotsR w v9 P L) (hp : p < L) (hI : LI P v10) (ha : Lives_away v10 = 0 ∨ Lives_away v10 = 1) : Ev (f_Lives_copyFrom N u v2 v3 v10) (fun q => Ev (f_Lives_goAway N (Lives_s_purse_debt_home_hidden_self_worthThen_homeThen_away_days_homes_harm u q.1 q.2.1 q.2.2.1 q.2.2.2.1 q.2.2.2.2.1 q.2.2.2.2.2.1 q.2.2.2.2.2.2.1 q.2.2.2.2.2.2.2.1 q.2.2.2.2.2.2.2.2.1 q.2.2.2.2.2.2.2.2.2.1 q.2.2.2.2.2.2.2.2.2.2) v2 v3' v9 (nI p)) (fun r => AGP P (q.1, q.2.1, q.2.2.1, q.2.2.2.1, r.1, r.2.1, r.2.2.1, r.2.2.2.1, r.2.2.2.2, q.2.2.2.2.2.2.2.2.2.1, q.2.2.2.2.2.2.2.2.2.2) (leaveV v10 (rowOf v9 p)) ∧ LI P (q.1, q.2.1, q.2.2.1, q.2.2.2.1, r.1, r.2.1, r.2.2.1, r.2.2.2.1, r.2.2.2.2, q.2.2.2.2.2.2.2.2.2.1, q.2.2.2.2.2.2.2.2.2.2))) := by
  refine (copy_ev (N := N) ha).mono ?_
  intro q hq
  refine (goAway_ag hN hl.2.1 hl.2.2.1 hp).mono ?_
  intro r hr
  obtain ⟨lo1, lo2, -⟩ := hl.2.2.2 p hp
  have h1 : AGP P (q.1, q.2.1, q.2.2.1, q.2.2.2.1, r.1, r.2.1, r.2.2.1, r.2.2.2.1, r.2.2.2.2, q.2.2.2.2.2.2.2.2.2.1, q.2.2.2.2.2.2.2.2.2.2) (leaveV v10 (rowOf v9 p)) := (hr.le h6).trans (leaveV_ag (hq.le h6) (fun _ _ => rfl))
  exact ⟨h1, (LI_leave hI lo1 lo2).ag h1.symm⟩
theorem wkV_ag {w : VR} {v2 : VTown} {v3 : VLaws} {v9 : VLots} {P L g p d : Nat} {v10 V : VLives} (hT : townR w v2 v3 P) (hg : g ≤ 999) (h : AGP P V (leaveV v10 (rowOf v9 p))) (hI : LI P V) : AGP P (daysV v2 v3 P (nI g) d V) (wkV v2 v3 v9 P g v10 p d) := daysV_ag hT hg d hI.1 hI.2.1 hI.2.2.1 h
theorem LI_week {w : VR} {v2 : VTown} {v3 : VLaws} {v9 : VLots} {P L g p d : Nat} {v10 : VLives} (h6 : P ≤ 6) (hg : g ≤ 999) (hl : lotsR w v9 P L) (hp : p < L) (hI : LI P v10) (hd : d ≤ 7) : LI P (wkV v2 v3 v9 P g v10 p d) := by
  obtain ⟨lo1, lo2, -⟩ := hl.2.2.2 p hp
  exact LI_days h6 hg d 0 _ (LI_leave hI lo1 lo2) rfl (by omega)
theorem daysV_succ (v1 : VTown) (v2 : VLaws) (P : Nat) (sg : Int32) : ∀ (n : Nat) (v : VLives), daysV v1 v2 P sg (n + 1) v = dayV v1 v2 P sg (daysV v1 v2 P sg n v)
  | 0, _ => rfl
  | n + 1, v => daysV_succ v1 v2 P sg n (dayV v1 v2 P sg v)
theorem zcpyD_yes {b : Nat} (h : b + 6 ≤ 11130) : zcpyD 0 (nI b) 6 6 11130 = true := by
  simp only [zcpyD, Bool.and_eq_true, decide_eq_true_eq]
  refine ⟨⟨⟨⟨by decide, nI_pos (by omega)⟩, by decide⟩, by decide⟩, ?_⟩
  rw [nI_clamp (by omega)]
  exact h
theorem held_loop {N : Nat} (hN : 10000 ≤ N) {v17 : VForecast} {v2 : VTown} {v3 : VLaws} {v9 : VLots} {v10 u : VLives} {P p g : Nat} (hP : tpl v2 P) (hg : Town_sign v2 = nI g) (h0 : lawOk v3 0) (h1 : lawOk v3 1) (hp : p < 265) : ∀ (r k fuel : Nat) (held fa sk : Nat → Int32) (V : VLives), k + r = 7 → r < fuel → selfOk P (Lives_self V) → (Lives_hidden V = Lives_hidden u ∧ Lives_self V = Lives_self u ∧ Lives_worthThen V = Lives_worthThen u ∧ Lives_homeThen V = Lives_homeThen u ∧ Lives_away V = Lives_away u ∧ Lives_homes V = Lives_homes u ∧ Lives_harm V = Lives_harm u) → Ev (f_Forecast_foresee_L53 N fuel v17 v2 v3 v9 v10 u (nI p) (nI k) held fa sk (Lives_purse V) (Lives_debt V) (Lives_home V) (Lives_days V)) (fun q => (q.2.2.2.1, q.2.2.2.2.1, q.2.2.2.2.2.1, Lives_hidden V, Lives_self V, Lives_worthThen V, Lives_homeThen V, Lives_away V, q.2.2.2.2.2.2, Lives_homes V, Lives_harm V) = daysV v2 v3 P (nI g) r V ∧ (∀ d l, d < r → l < 6 → q.1 (p * 42 + (k + d) * 6 + l) = Lives_purse (daysV v2 v3 P (nI g) (d + 1) V) l) ∧ (∀ j, ¬ (p * 42 + k * 6 ≤ j ∧ j < p * 42 + 42) → q.1 j = held j))
  | _, _, 0, _, _, _, _, _, h, _, _ => absurd h (Nat.not_lt_zero _)
  | 0, k, fuel + 1, held, fa, sk, V, hk, hf, hs, hu => by
    rw [f_Forecast_foresee_L53]
    repeat (first | (with_reducible refine Ev.letE ?_) | (with_reducible refine Ev.ifn ?_ ?_; · (first | with_reducible assumption | decide | (simp (disch := omega) only [zlit, nI_add, pk_mul, pk_sub, zsubm, nI_clamp, nI_leI, nI_ltI, nI_eq, zeqF, Nat.reduceEqDiff, zleF, zleT, zltF, zltT, zneg1, zneg1L, zneg2, zneg0, eq_self, or_self, false_or, or_false, Nat.not_lt_zero, not_false_eq_true, not_true_eq_false]; done))) | (with_reducible refine Ev.ifp ?_ ?_; · (first | with_reducible assumption | decide | (simp (disch := omega) only [zlit, nI_add, pk_mul, pk_sub, zsubm, nI_clamp, nI_leI, nI_ltI, nI_eq, zeqF, Nat.reduceEqDiff, zleF, zleT, zltF, zltT, zneg1, zneg1L, zneg2, zneg0, eq_self, or_self, false_or, or_false, Nat.not_lt_zero, not_false_eq_true, not_true_eq_false]; done))) | (with_reducible refine Ev.bnd (x := some _) rfl ?_))
    exact Ev.ret ⟨rfl, fun d l hd => absurd hd (Nat.not_lt_zero _), fun j _ => rfl⟩
  | r + 1, k, fuel + 1, held, fa, sk, V, hk, hf, hs, hu => by
    obtain ⟨u1, u2, u3, u4, u5, u6, u7⟩ := hu
    have eV : Lives_s_purse_debt_home_days u (Lives_purse V) (Lives_debt V) (Lives_home V) (Lives_days V) = V := by
      show (Lives_purse V, Lives_debt V, Lives_home V, Lives_hidden u, Lives_self u, Lives_worthThen u, Lives_homeThen u, Lives_away u, Lives_days V, Lives_homes u, Lives_harm u) = V
      rw [← u1, ← u2, ← u3, ← u4, ← u5, ← u6, ← u7]
      rfl
    rw [f_Forecast_foresee_L53, eV, hg, show (nI p * 42 + nI k * 6) = nI (p * 42 + k * 6) by simp (maxSteps := 2000000) (disch := omega) only [zlit, nI_add, pk_mul, nI_clamp], nI_clamp (n := p * 42 + k * 6) (by omega), show nI k + 1 = nI (k + 1) from nI_1 k]
    repeat (first | (with_reducible refine Ev.letE ?_) | (with_reducible refine Ev.ifn ?_ ?_; · (first | with_reducible assumption | decide | (simp (disch := omega) only [zlit, nI_add, pk_mul, pk_sub, zsubm, nI_clamp, nI_leI, nI_ltI, nI_eq, zeqF, Nat.reduceEqDiff, zleF, zleT, zltF, zltT, zneg1, zneg1L, zneg2, zneg0, eq_self, or_self, false_or, or_false, Nat.not_lt_zero, not_false_eq_true, not_true_eq_false]; done))) | (with_reducible refine Ev.ifp ?_ ?_; · (first | with_reducible assumption | decide | (simp (disch := omega) only [zlit, nI_add, pk_mul, pk_sub, zsubm, nI_clamp, nI_leI, nI_ltI, nI_eq, zeqF, Nat.reduceEqDiff, zleF, zleT, zltF, zltT, zneg1, zneg1L, zneg2, zneg0, eq_self, or_self, false_or, or_false, Nat.not_lt_zero, not_false_eq_true, not_true_eq_false]; done))) | (with_reducible refine Ev.bnd (x := some _) rfl ?_))
    refine Ev.bnx (passDays_v hN (n := 1) (v2 := Laws_s_facts_stack v3 fa sk) (sg := nI g) (by omega) hP hs h0 h1) ?_
    rintro ⟨c1, c2, c3, c4, c5, c6⟩ hq
    have hq : (c1, c2, c3, Lives_hidden V, Lives_self V, Lives_worthThen V, Lives_homeThen V, Lives_away V, c4, Lives_homes V, Lives_harm V) = dayV v2 (Laws_s_facts_stack v3 fa sk) P (nI g) V := hq
    have hq : (c1, c2, c3, Lives_hidden V, Lives_self V, Lives_worthThen V, Lives_homeThen V, Lives_away V, c4, Lives_homes V, Lives_harm V) = dayV v2 v3 P (nI g) V := by
      rw [hq]
      unfold dayV
      rw [dayS_fs]
    have hz := zcpyD_yes (b := p * 42 + k * 6) (by omega)
    repeat (first | (with_reducible refine Ev.letE ?_) | (with_reducible refine Ev.ifn ?_ ?_; · (first | with_reducible assumption | decide | (simp (disch := omega) only [zlit, nI_add, pk_mul, pk_sub, zsubm, nI_clamp, nI_leI, nI_ltI, nI_eq, zeqF, Nat.reduceEqDiff, zleF, zleT, zltF, zltT, zneg1, zneg1L, zneg2, zneg0, eq_self, or_self, false_or, or_false, Nat.not_lt_zero, not_false_eq_true, not_true_eq_false]; done))) | (with_reducible refine Ev.ifp ?_ ?_; · (first | with_reducible assumption | decide | (simp (disch := omega) only [zlit, nI_add, pk_mul, pk_sub, zsubm, nI_clamp, nI_leI, nI_ltI, nI_eq, zeqF, Nat.reduceEqDiff, zleF, zleT, zltF, zltT, zneg1, zneg1L, zneg2, zneg0, eq_self, or_self, false_or, or_false, Nat.not_lt_zero, not_false_eq_true, not_true_eq_false]; done))) | (with_reducible refine Ev.bnd (x := some _) rfl ?_))
    have ih := held_loop hN (v17 := v17) (v9 := v9) (v10 := v10) (u := u) hP hg h0 h1 hp r (k + 1) fuel (va_cpy c1 held (Int32.toNatClampNeg 0) (p * 42 + k * 6) (Int32.toNatClampNeg 6)) c5 c6 (c1, c2, c3, Lives_hidden V, Lives_self V, Lives_worthThen V, Lives_homeThen V, Lives_away V, c4, Lives_homes V, Lives_harm V) (by omega) (by omega) hs ⟨u1, u2, u3, u4, u5, u6, u7⟩
    refine ih.mono ?_
    rintro q ⟨q1, q2, q3⟩
    have q1 : (q.2.2.2.1, q.2.2.2.2.1, q.2.2.2.2.2.1, Lives_hidden V, Lives_self V, Lives_worthThen V, Lives_homeThen V, Lives_away V, q.2.2.2.2.2.2, Lives_homes V, Lives_harm V) = daysV v2 v3 P (nI g) r (c1, c2, c3, Lives_hidden V, Lives_self V, Lives_worthThen V, Lives_homeThen V, Lives_away V, c4, Lives_homes V, Lives_harm V) := q1
    rw [hq] at q1
    simp only [hq] at q2
    refine ⟨q1, fun d l hd hl => ?_, fun j hj => ?_⟩
    · by_cases e : d = 0
      · subst e
        rw [q3 _ (by omega)]
        show va_cpy c1 held 0 (p * 42 + k * 6) 6 (p * 42 + (k + 0) * 6 + l) = Lives_purse (dayV v2 v3 P (nI g) V) l
        rw [← hq]
        show (if p * 42 + k * 6 ≤ p * 42 + (k + 0) * 6 + l ∧ p * 42 + (k + 0) * 6 + l < p * 42 + k * 6 + 6 then c1 (0 + (p * 42 + (k + 0) * 6 + l - (p * 42 + k * 6))) else held (p * 42 + (k + 0) * 6 + l)) = c1 l
        rw [if_pos ⟨by omega, by omega⟩, show 0 + (p * 42 + (k + 0) * 6 + l - (p * 42 + k * 6)) = l by omega]
      · have := q2 (d - 1) l (by omega) hl
        rw [show k + 1 + (d - 1) = k + d by omega, show d - 1 + 1 = d by omega] at this
        rw [this]
        rfl
    · rw [q3 j (by omega)]
      show (if p * 42 + k * 6 ≤ j ∧ j < p * 42 + k * 6 + 6 then c1 (0 + (j - (p * 42 + k * 6))) else held j) = held j
      rw [if_neg (by omega)]
theorem foresee_loop {N : Nat} (hN : 10000 ≤ N) {v17 : VForecast} {v2 : VTown} {v3 : VLaws} {v9 : VLots} {v10 u : VLives} {w : VR} {P L g : Nat} (hT : townR w v2 v3 P) (hG : signR w v2 g) (hl : lotsR w v9 P L) (hI : LI P v10) (ha : Lives_away v10 = 0 ∨ Lives_away v10 = 1) : ∀ (r k fuel : Nat) (held harms fa sk : Nat → Int32) (V : VLives), k + r = L → r < fuel → Ev (f_Forecast_foresee_L10 N fuel v17 v2 v3 v9 v10 u (nI k) held harms fa sk (Lives_purse V) (Lives_debt V) (Lives_home V) (Lives_hidden V) (Lives_self V) (Lives_worthThen V) (Lives_homeThen V) (Lives_away V) (Lives_days V) (Lives_homes V) (Lives_harm V)) (fun q => (∀ p, k ≤ p → p < L → (∀ d l, d < 7 → l < P → q.1 (p * 42 + d * 6 + l) = Lives_purse (wkV v2 v3 v9 P g v10 p (d + 1)) l) ∧ q.2.1 p = sumN (hmOf (wkV v2 v3 v9 P g v10 p 7)) P 0 0) ∧ (∀ j, j < k * 42 → q.1 j = held j) ∧ (∀ j, j < k → q.2.1 j = harms j))
  | _, _, 0, _, _, _, _, _, _, h => absurd h (Nat.not_lt_zero _)
  | 0, k, fuel + 1, held, harms, fa, sk, V, hk, hf => by
    have hL := hl.2.2.1
    rw [f_Forecast_foresee_L10, hl.2.1]
    repeat (first | (with_reducible refine Ev.letE ?_) | (with_reducible refine Ev.ifn ?_ ?_; · (first | with_reducible assumption | decide | (simp (disch := omega) only [zlit, nI_add, pk_mul, pk_sub, zsubm, nI_clamp, nI_leI, nI_ltI, nI_eq, zeqF, Nat.reduceEqDiff, zleF, zleT, zltF, zltT, zneg1, zneg1L, zneg2, zneg0, eq_self, or_self, false_or, or_false, Nat.not_lt_zero, not_false_eq_true, not_true_eq_false]; done))) | (with_reducible refine Ev.ifp ?_ ?_; · (first | with_reducible assumption | decide | (simp (disch := omega) only [zlit, nI_add, pk_mul, pk_sub, zsubm, nI_clamp, nI_leI, nI_ltI, nI_eq, zeqF, Nat.reduceEqDiff, zleF, zleT, zltF, zltT, zneg1, zneg1L, zneg2, zneg0, eq_self, or_self, false_or, or_false, Nat.not_lt_zero, not_false_eq_true, not_true_eq_false]; done))) | (with_reducible refine Ev.bnd (x := some _) rfl ?_))
    exact Ev.ret ⟨fun p h1 h2 => absurd h2 (by omega), fun j _ => rfl, fun j _ => rfl⟩
  | r + 1, k, fuel + 1, held, harms, fa, sk, V, hk, hf => by
    have hP := hT.1
    have h6 := hT.1.2
    have hL := hl.2.2.1
    have h0 := (hT.2.2.2 0 (by decide)).1
    have h1 := (hT.2.2.2 1 (by decide)).1
    rw [f_Forecast_foresee_L10, hl.2.1, nI_clamp (n := k) (by omega), show nI k + 1 = nI (k + 1) from nI_1 k]
    repeat (first | (with_reducible refine Ev.letE ?_) | (with_reducible refine Ev.ifn ?_ ?_; · (first | with_reducible assumption | decide | (simp (disch := omega) only [zlit, nI_add, pk_mul, pk_sub, zsubm, nI_clamp, nI_leI, nI_ltI, nI_eq, zeqF, Nat.reduceEqDiff, zleF, zleT, zltF, zltT, zneg1, zneg1L, zneg2, zneg0, eq_self, or_self, false_or, or_false, Nat.not_lt_zero, not_false_eq_true, not_true_eq_false]; done))) | (with_reducible refine Ev.ifp ?_ ?_; · (first | with_reducible assumption | decide | (simp (disch := omega) only [zlit, nI_add, pk_mul, pk_sub, zsubm, nI_clamp, nI_leI, nI_ltI, nI_eq, zeqF, Nat.reduceEqDiff, zleF, zleT, zltF, zltT, zneg1, zneg1L, zneg2, zneg0, eq_self, or_self, false_or, or_false, Nat.not_lt_zero, not_false_eq_true, not_true_eq_false]; done))) | (with_reducible refine Ev.bnd (x := some _) rfl ?_))
    obtain ⟨q4, e4, r5, e5, hag, hIV⟩ := week_start hN (u := Lives_s_purse_debt_home_hidden_self_worthThen_homeThen_away_days_homes_harm u (Lives_purse V) (Lives_debt V) (Lives_home V) (Lives_hidden V) (Lives_self V) (Lives_worthThen V) (Lives_homeThen V) (Lives_away V) (Lives_days V) (Lives_homes V) (Lives_harm V)) (v2 := v2) (v3 := Laws_s_facts_stack v3 fa sk) (v3' := Laws_s_facts_stack v3 fa sk) h6 hl (show k < L by omega) hI ha
    refine Ev.bnd e4 ?_
    refine Ev.bnd e5 ?_
    refine Ev.bnx (held_loop hN (v17 := Forecast_s_held_harms v17 held harms) (v3 := Laws_s_facts_stack v3 fa sk) (v9 := v9) (v10 := v10) (u := Lives_s_purse_debt_home_hidden_self_worthThen_homeThen_away_days_homes_harm u q4.1 q4.2.1 q4.2.2.1 q4.2.2.2.1 r5.1 r5.2.1 r5.2.2.1 r5.2.2.2.1 r5.2.2.2.2 q4.2.2.2.2.2.2.2.2.2.1 q4.2.2.2.2.2.2.2.2.2.2) (g := g) hP hG.2.1 h0 h1 (show k < 265 by omega) 7 0 N held fa sk (q4.1, q4.2.1, q4.2.2.1, q4.2.2.2.1, r5.1, r5.2.1, r5.2.2.1, r5.2.2.2.1, r5.2.2.2.2, q4.2.2.2.2.2.2.2.2.2.1, q4.2.2.2.2.2.2.2.2.2.2) (by omega) (by omega) hIV.2.2.1 ⟨rfl, rfl, rfl, rfl, rfl, rfl, rfl⟩) ?_
    rintro ⟨c1, c2, c3, c4, c5, c6, c7⟩ ⟨d1, d2, d3⟩
    have fs : ∀ d x, daysV v2 (Laws_s_facts_stack v3 fa sk) P (nI g) d x = daysV v2 v3 P (nI g) d x := fun d x => by rw [daysV_eq, daysV_eq, daysS_fs]
    rw [fs] at d1
    simp only [fs] at d2
    have wk : ∀ d, AGP P (daysV v2 v3 P (nI g) d (q4.1, q4.2.1, q4.2.2.1, q4.2.2.2.1, r5.1, r5.2.1, r5.2.2.1, r5.2.2.2.1, r5.2.2.2.2, q4.2.2.2.2.2.2.2.2.2.1, q4.2.2.2.2.2.2.2.2.2.2)) (wkV v2 v3 v9 P g v10 k d) := fun d => wkV_ag (L := L) hT hG.1 hag hIV
    refine Ev.bnd (harmAll_ok hN (v2 := Laws_s_facts_stack v3 c2 c3) hP) ?_
    have hsum : sumN (hmOf (Lives_s_purse_debt_home_hidden_self_worthThen_homeThen_away_days_homes_harm u c4 c5 c6 q4.2.2.2.1 r5.1 r5.2.1 r5.2.2.1 r5.2.2.2.1 c7 q4.2.2.2.2.2.2.2.2.2.1 q4.2.2.2.2.2.2.2.2.2.2)) P 0 0 = sumN (hmOf (wkV v2 v3 v9 P g v10 k 7)) P 0 0 := by
      have e : (Lives_s_purse_debt_home_hidden_self_worthThen_homeThen_away_days_homes_harm u c4 c5 c6 q4.2.2.2.1 r5.1 r5.2.1 r5.2.2.1 r5.2.2.2.1 c7 q4.2.2.2.2.2.2.2.2.2.1 q4.2.2.2.2.2.2.2.2.2.2) = daysV v2 v3 P (nI g) 7 (q4.1, q4.2.1, q4.2.2.1, q4.2.2.2.1, r5.1, r5.2.1, r5.2.2.1, r5.2.2.2.1, r5.2.2.2.2, q4.2.2.2.2.2.2.2.2.2.1, q4.2.2.2.2.2.2.2.2.2.2) := d1
      rw [e]
      exact (sums_ag (wk 7)).1
    repeat (first | (with_reducible refine Ev.letE ?_) | (with_reducible refine Ev.ifn ?_ ?_; · (first | with_reducible assumption | decide | (simp (disch := omega) only [zlit, nI_add, pk_mul, pk_sub, zsubm, nI_clamp, nI_leI, nI_ltI, nI_eq, zeqF, Nat.reduceEqDiff, zleF, zleT, zltF, zltT, zneg1, zneg1L, zneg2, zneg0, eq_self, or_self, false_or, or_false, Nat.not_lt_zero, not_false_eq_true, not_true_eq_false]; done))) | (with_reducible refine Ev.ifp ?_ ?_; · (first | with_reducible assumption | decide | (simp (disch := omega) only [zlit, nI_add, pk_mul, pk_sub, zsubm, nI_clamp, nI_leI, nI_ltI, nI_eq, zeqF, Nat.reduceEqDiff, zleF, zleT, zltF, zltT, zneg1, zneg1L, zneg2, zneg0, eq_self, or_self, false_or, or_false, Nat.not_lt_zero, not_false_eq_true, not_true_eq_false]; done))) | (with_reducible refine Ev.bnd (x := some _) rfl ?_))
    refine (foresee_loop hN hT hG hl hI ha (v17 := v17) (u := u) r (k + 1) fuel c1 (upd harms k _) c2 c3 (c4, c5, c6, q4.2.2.2.1, r5.1, r5.2.1, r5.2.2.1, r5.2.2.2.1, c7, q4.2.2.2.2.2.2.2.2.2.1, q4.2.2.2.2.2.2.2.2.2.2) (by omega) (by omega)).mono ?_
    rintro q ⟨g1, g2, g3⟩
    refine ⟨fun p hp1 hp2 => ?_, fun j hj => ?_, fun j hj => ?_⟩
    · by_cases e : p = k
      · subst e
        refine ⟨fun d l hd hl2 => ?_, ?_⟩
        · rw [g2 _ (by omega)]
          have := d2 d l hd (by omega)
          rw [show 0 + d = d by omega] at this
          rw [this]
          exact ((wk (d + 1)).1 l hl2).1
        · rw [g3 p (by omega), pk_us]
          exact hsum
      · exact g1 p (by omega) hp2
    · rw [g2 j (by omega)]
      exact d3 j (by omega)
    · rw [g3 j (by omega), pk_un (by omega)]
