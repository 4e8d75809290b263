/-! ===== the class has foreseen ===== -/
theorem foresee_ev {N : Nat} (hN : 10000 ≤ N) {v17 : VForecast} {v2 : VTown} {v3 : VLaws} {v9 : VLots} {v10 u : VLives} {w : VR} {P L g : Nat} (hT : townR w v2 v3 P) (hG : signR w v2 g) (hl : lotsR w v9 P L) (hR : LR P 0 (R_state w) v10) (hI : LI P v10) (hf : foreR P L g v2 v3 v9 v10 v17) : Ev (f_Forecast_foresee N v17 v2 v3 v9 v10 u) (fun q => q.1 = 1 ∧ heldR P L g v2 v3 v9 v10 q.2.1 q.2.2.1) := by
  have hL := hl.2.2.1
  unfold f_Forecast_foresee
  rcases hf.1 with h0 | ⟨h1, h2⟩
  · rw [h0]
    refine Ev.ifp rfl ?_
    refine Ev.bnx (foresee_loop hN (v17 := v17) (u := u) hT hG hl hI hR.2.2.2.2.2.1 L 0 N (Forecast_held v17) (Forecast_harms v17) (Laws_facts v3) (Laws_stack v3) u (by omega) (by omega)) ?_
    rintro q ⟨q1, -, -⟩
    exact Ev.ret ⟨rfl, fun p hp => q1 p (Nat.zero_le _) hp⟩
  · rw [h1]
    refine Ev.ifn (by decide) ?_
    exact Ev.ret ⟨rfl, h2⟩
/-! ===== the reference's week ===== -/
theorem start_ev {N : Nat} (hN : 10000 ≤ N) {w : VR} {v2 : VTown} {v3 : VLaws} {v9 : VLots} {v10 : VLives} {P L p : Nat} (hT : townR w v2 v3 P) (hl : lotsR w v9 P L) (hp : p < L) (hR : LR P 0 (R_state w) v10) : Ev (f_R_copies N w 0 1584 46) (fun s => Ev (f_R_leaves N (R_state_s w s) 1584 (nI p)) (fun q => LR P 1584 q (leaveV v10 (rowOf v9 p)) ∧ Fr 1584 1630 (R_state w) q)) := by
  have h6 := hT.1.2
  refine (copies_ev hN (w := w) (a := 0) (b := 1584) (n := 46) (by omega) (by omega) (by omega)).mono ?_
  rintro s ⟨d1, d2⟩
  have hR2 : LR P 1584 s v10 := hR.moved (b := 1584) h6 (fun j hj => d1 j hj)
  refine (leaves_v hN (w := R_state_s w s) (b := 1584) (by omega) hT hl hp hR2).mono ?_
  rintro q ⟨q1, q2⟩
  exact ⟨q1, fun j hj => (q2 j hj).trans (d2 j (by omega))⟩
theorem week_loop {N : Nat} (hN : 10000 ≤ N) {w : VR} {v2 : VTown} {v3 : VLaws} {P g : Nat} (hT : townR w v2 v3 P) (hsg : R_signed w = nI g) (hg : g ≤ 999) : ∀ (r k fuel : Nat) (fa pl st : Nat → Int32) (V : VLives), k + r = 7 → r < fuel → LI P V → Lives_days V = nI k → LR P 1584 st V → Ev (f_R_weekBy_L20 N fuel w (nI k) fa pl st) (fun q => LR P 1584 q.2.2 (daysV v2 v3 P (nI g) r V) ∧ Fr 1584 1630 st q.2.2)
  | _, _, 0, _, _, _, _, _, h, _, _, _ => absurd h (Nat.not_lt_zero _)
  | 0, k, fuel + 1, fa, pl, st, V, hk, hf, hI, hd, hR => by
    rw [f_R_weekBy_L20]
    repeat (first | (with_reducible refine Ev.letE ?_) | (with_reducible refine Ev.ifn ?_ ?_; · (first | with_reducible assumption | decide | (simp (disch := omega) only [zlit, nI_add, pk_mul, pk_sub, zsubm, nI_clamp, nI_leI, nI_ltI, nI_eq, zeqF, Nat.reduceEqDiff, zleF, zleT, zltF, zltT, zneg1, zneg1L, zneg2, zneg0, eq_self, or_self, false_or, or_false, Nat.not_lt_zero, not_false_eq_true, not_true_eq_false]; done))) | (with_reducible refine Ev.ifp ?_ ?_; · (first | with_reducible assumption | decide | (simp (disch := omega) only [zlit, nI_add, pk_mul, pk_sub, zsubm, nI_clamp, nI_leI, nI_ltI, nI_eq, zeqF, Nat.reduceEqDiff, zleF, zleT, zltF, zltT, zneg1, zneg1L, zneg2, zneg0, eq_self, or_self, false_or, or_false, Nat.not_lt_zero, not_false_eq_true, not_true_eq_false]; done))) | (with_reducible refine Ev.bnd (x := some _) rfl ?_))
    exact Ev.ret ⟨hR, Fr.refl _ _ _⟩
  | r + 1, k, fuel + 1, fa, pl, st, V, hk, hf, hI, hd, hR => by
    have h6 := hT.1.2
    rw [f_R_weekBy_L20, show nI k + 1 = nI (k + 1) from nI_1 k]
    repeat (first | (with_reducible refine Ev.letE ?_) | (with_reducible refine Ev.ifn ?_ ?_; · (first | with_reducible assumption | decide | (simp (disch := omega) only [zlit, nI_add, pk_mul, pk_sub, zsubm, nI_clamp, nI_leI, nI_ltI, nI_eq, zeqF, Nat.reduceEqDiff, zleF, zleT, zltF, zltT, zneg1, zneg1L, zneg2, zneg0, eq_self, or_self, false_or, or_false, Nat.not_lt_zero, not_false_eq_true, not_true_eq_false]; done))) | (with_reducible refine Ev.ifp ?_ ?_; · (first | with_reducible assumption | decide | (simp (disch := omega) only [zlit, nI_add, pk_mul, pk_sub, zsubm, nI_clamp, nI_leI, nI_ltI, nI_eq, zeqF, Nat.reduceEqDiff, zleF, zleT, zltF, zltT, zneg1, zneg1L, zneg2, zneg0, eq_self, or_self, false_or, or_false, Nat.not_lt_zero, not_false_eq_true, not_true_eq_false]; done))) | (with_reducible refine Ev.bnd (x := some _) rfl ?_))
    refine Ev.bnx (passes_v hN (w := R_s_facts_pile_state w fa pl st) (b := 1584) (by omega) hT hI.2.2.1 hI.2.1 hI.1 hsg hg hR) ?_
    rintro ⟨c1, c2, c3⟩ ⟨d1, d2⟩
    refine (week_loop hN hT hsg hg r (k + 1) fuel c1 c2 c3 (dayV v2 v3 P (nI g) V) (by omega) (by omega) (LI_day h6 hg hI ⟨k, by omega, hd⟩) (by show Lives_days V + 1 = nI (k + 1); rw [hd]; exact nI_1 k) d1).mono ?_
    rintro q ⟨q1, q2⟩
    exact ⟨q1, d2.trans q2⟩
theorem weekBy_ev {N : Nat} (hN : 10000 ≤ N) {w : VR} {v2 : VTown} {v3 : VLaws} {v9 : VLots} {v10 : VLives} {P L g p : Nat} (hT : townR w v2 v3 P) (hsg : R_signed w = nI g) (hg : g ≤ 999) (hl : lotsR w v9 P L) (hp : p < L) (hR : LR P 0 (R_state w) v10) (hI : LI P v10) : Ev (f_R_weekBy N w (nI p)) (fun q => LR P 1584 q.2.2 (wkV v2 v3 v9 P g v10 p 7) ∧ Fr 1584 1630 (R_state w) q.2.2) := by
  obtain ⟨lo1, lo2, -⟩ := hl.2.2.2 p hp
  unfold f_R_weekBy
  refine Ev.bnx (start_ev hN hT hl hp hR) ?_
  intro s hs
  refine Ev.bnx hs ?_
  rintro t ⟨t1, t2⟩
  refine Ev.bnx (week_loop hN (w := R_state_s w t) hT hsg hg 7 0 N (R_facts w) (R_pile w) t (leaveV v10 (rowOf v9 p)) (by omega) (by omega) (LI_leave hI lo1 lo2) rfl t1) ?_
  rintro ⟨q1, q2, q3⟩ ⟨d1, d2⟩
  exact Ev.ret ⟨d1, t2.trans d2⟩
/-! ===== the least ===== -/
theorem bestN_le (f : Nat → Nat) : ∀ n, bestN f n ≤ n
  | 0 => Nat.le_refl _
  | n + 1 => by
    have := bestN_le f n
    rw [bestN]
    split <;> omega
theorem bestN_cong {f h : Nat → Nat} : ∀ {n : Nat}, (∀ k, k ≤ n → f k = h k) → bestN f n = bestN h n
  | 0, _ => rfl
  | n + 1, e => by
    have ih := bestN_cong (n := n) (fun k hk => e k (by omega))
    have hb := bestN_le h n
    rw [bestN, bestN, ih, e (n + 1) (Nat.le_refl _), e (bestN h n) (by omega)]
def hmW (v2 : VTown) (v3 : VLaws) (v9 : VLots) (P g : Nat) (v : VLives) (p : Nat) : Nat := (sumN (hmOf (wkV v2 v3 v9 P g v p 7)) P 0 0).toNatClampNeg
theorem hmW_ok {w : VR} {v2 : VTown} {v3 : VLaws} {v9 : VLots} {P L g p : Nat} {v : VLives} (h6 : P ≤ 6) (hg : g ≤ 999) (hl : lotsR w v9 P L) (hp : p < L) (hI : LI P v) : sumN (hmOf (wkV v2 v3 v9 P g v p 7)) P 0 0 = nI (hmW v2 v3 v9 P g v p) ∧ hmW v2 v3 v9 P g v p ≤ 120000 := by
  obtain ⟨s, h1, h2⟩ := hmAll_num h6 (LI_week (v2 := v2) (v3 := v3) (d := 7) h6 hg hl hp hI (by omega))
  unfold hmW
  rw [h2, nI_clamp (by omega)]
  exact ⟨rfl, h1⟩
theorem harmBy_ok {N : Nat} {v17 : VForecast} {v2 : VTown} {v3 : VLaws} {v9 : VLots} {v10 u : VLives} {p : Nat} (hp : p < 265) : f_Forecast_harmBy N v17 v2 v3 v9 v10 u (nI p) = some (Forecast_harms v17 p) := by
  unfold f_Forecast_harmBy
  rw [nI_clamp (n := p) (by omega)]
  repeat (first | (with_reducible refine zletE ?_) | (with_reducible refine zifn ?_ ?_; · (first | with_reducible assumption | decide | (simp (disch := omega) only [zlit, nI_add, pk_mul, pk_sub, zsubm, nI_clamp, nI_leI, nI_ltI, nI_eq, zeqF, Nat.reduceEqDiff, zleF, zleT, zltF, zltT, zneg1, zneg1L, zneg2, zneg0, eq_self, or_self, false_or, or_false, Nat.not_lt_zero, not_false_eq_true, not_true_eq_false]; done))) | (with_reducible refine zifp ?_ ?_; · (first | with_reducible assumption | decide | (simp (disch := omega) only [zlit, nI_add, pk_mul, pk_sub, zsubm, nI_clamp, nI_leI, nI_ltI, nI_eq, zeqF, Nat.reduceEqDiff, zleF, zleT, zltF, zltT, zneg1, zneg1L, zneg2, zneg0, eq_self, or_self, false_or, or_false, Nat.not_lt_zero, not_false_eq_true, not_true_eq_false]; done))) | (with_reducible refine bnd (x := some _) rfl ?_))
  rfl
theorem cleast_loop (N : Nat) {v17 : VForecast} {v2 : VTown} {v3 : VLaws} {v9 : VLots} {v10 u : VLives} {L : Nat} {H : Nat → Nat} (hc : Lots_count v9 = nI L) (hL : L ≤ 265) (hh : ∀ p, p < L → Forecast_harms v17 p = nI (H p) ∧ H p ≤ 120000) : ∀ (r k fuel : Nat), k + 1 + r = L → r < fuel → f_Forecast_leastHarmful_L8 N fuel v17 v2 v3 v9 v10 u (nI (bestN H k)) (nI (k + 1)) = some (nI (bestN H (L - 1)))
  | _, _, 0, _, h => absurd h (Nat.not_lt_zero _)
  | 0, k, fuel + 1, hk, hf => by
    have e : L - 1 = k := by omega
    rw [f_Forecast_leastHarmful_L8, hc, e]
    repeat (first | (with_reducible refine zletE ?_) | (with_reducible refine zifn ?_ ?_; · (first | with_reducible assumption | decide | (simp (disch := omega) only [zlit, nI_add, pk_mul, pk_sub, zsubm, nI_clamp, nI_leI, nI_ltI, nI_eq, zeqF, Nat.reduceEqDiff, zleF, zleT, zltF, zltT, zneg1, zneg1L, zneg2, zneg0, eq_self, or_self, false_or, or_false, Nat.not_lt_zero, not_false_eq_true, not_true_eq_false]; done))) | (with_reducible refine zifp ?_ ?_; · (first | with_reducible assumption | decide | (simp (disch := omega) only [zlit, nI_add, pk_mul, pk_sub, zsubm, nI_clamp, nI_leI, nI_ltI, nI_eq, zeqF, Nat.reduceEqDiff, zleF, zleT, zltF, zltT, zneg1, zneg1L, zneg2, zneg0, eq_self, or_self, false_or, or_false, Nat.not_lt_zero, not_false_eq_true, not_true_eq_false]; done))) | (with_reducible refine bnd (x := some _) rfl ?_))
    rfl
  | r + 1, k, fuel + 1, hk, hf => by
    have hb := bestN_le H k
    obtain ⟨a1, a2⟩ := hh (k + 1) (by omega)
    obtain ⟨b1, b2⟩ := hh (bestN H k) (by omega)
    rw [f_Forecast_leastHarmful_L8, hc, nI_clamp (n := k + 1) (by omega), show nI (k + 1) + 1 = nI (k + 1 + 1) from nI_1 (k + 1), a1]
    have e : (if nI (H (bestN H k)) ≤ nI (H (k + 1)) then nI (bestN H k) else nI (k + 1)) = nI (bestN H (k + 1)) := by
      rw [bestN]
      by_cases c : H (k + 1) < H (bestN H k)
      · rw [if_pos c, if_neg (fun q => by have := (nI_leI (by omega) (by omega)).mp q; omega)]
      · rw [if_neg c, if_pos (nI_le (by omega) (by omega))]
    have hbk : bestN H k < 265 := by omega
    repeat (first | (with_reducible refine zletE ?_) | (with_reducible refine zifn ?_ ?_; · (first | with_reducible assumption | decide | (simp (disch := omega) only [zlit, nI_add, pk_mul, pk_sub, zsubm, nI_clamp, nI_leI, nI_ltI, nI_eq, zeqF, Nat.reduceEqDiff, zleF, zleT, zltF, zltT, zneg1, zneg1L, zneg2, zneg0, eq_self, or_self, false_or, or_false, Nat.not_lt_zero, not_false_eq_true, not_true_eq_false]; done))) | (with_reducible refine zifp ?_ ?_; · (first | with_reducible assumption | decide | (simp (disch := omega) only [zlit, nI_add, pk_mul, pk_sub, zsubm, nI_clamp, nI_leI, nI_ltI, nI_eq, zeqF, Nat.reduceEqDiff, zleF, zleT, zltF, zltT, zneg1, zneg1L, zneg2, zneg0, eq_self, or_self, false_or, or_false, Nat.not_lt_zero, not_false_eq_true, not_true_eq_false]; done))) | (with_reducible refine bnd (harmBy_ok hbk) ?_) | (with_reducible refine bnd (x := some _) rfl ?_))
    rw [b1, e]
    exact cleast_loop N hc hL hh r (k + 1) fuel (by omega) (by omega)
theorem leastHarmful_ev {N : Nat} (hN : 10000 ≤ N) {v17 : VForecast} {v2 : VTown} {v3 : VLaws} {v9 : VLots} {v10 u : VLives} {w : VR} {P L g : Nat} (h0 : 0 < L) (hT : townR w v2 v3 P) (hG : signR w v2 g) (hl : lotsR w v9 P L) (hR : LR P 0 (R_state w) v10) (hI : LI P v10) (hf : foreR P L g v2 v3 v9 v10 v17) : Ev (f_Forecast_leastHarmful N v17 v2 v3 v9 v10 u) (fun q => q.1 = nI (bestN (hmW v2 v3 v9 P g v10) (L - 1)) ∧ q.2.1 = 1 ∧ heldR P L g v2 v3 v9 v10 q.2.2.1 q.2.2.2.1) := by
  have hL := hl.2.2.1
  have h6 := hT.1.2
  unfold f_Forecast_leastHarmful
  refine Ev.bnx (foresee_ev hN hT hG hl hR hI hf) ?_
  rintro ⟨c1, c2, c3, c4⟩ ⟨d1, d2⟩
  have d2 : heldR P L g v2 v3 v9 v10 c2 c3 := d2
  refine Ev.bnd (cleast_loop N (v17 := Forecast_s_ready_held_harms v17 c1 c2 c3) (H := hmW v2 v3 v9 P g v10) hl.2.1 hL (fun p hp => ?_) (L - 1) 0 N (by omega) (by omega)) ?_
  · obtain ⟨e1, e2⟩ := hmW_ok (v2 := v2) (v3 := v3) h6 hG.1 hl hp hI
    exact ⟨(d2 p hp).2.trans e1, e2⟩
  · exact Ev.ret ⟨rfl, d1, d2⟩
theorem rleast_loop {N : Nat} (hN : 10000 ≤ N) {w : VR} {v2 : VTown} {v3 : VLaws} {v9 : VLots} {v10 : VLives} {P L g : Nat} {y1 : Int32} (h0 : 0 < L) (hT : townR w v2 v3 P) (hsg : R_signed w = nI g) (hg : g ≤ 999) (hl : lotsR w v9 P L) (hI : LI P v10) : ∀ (r k fuel : Nat) (x2 x3 : Int32) (fa pl st : Nat → Int32), k + r = L → r < fuel → ((k = 0 ∧ x2 = 0 ∧ x3 = (-1)) ∨ ∃ j, k = j + 1 ∧ x2 = nI (bestN (hmW v2 v3 v9 P g v10) j) ∧ x3 = nI (hmW v2 v3 v9 P g v10 (bestN (hmW v2 v3 v9 P g v10) j))) → LR P 0 st v10 → Ev (f_R_least_L35 N fuel w y1 x2 x3 (nI k) fa pl st) (fun q => q.1 = nI (bestN (hmW v2 v3 v9 P g v10) (L - 1)) ∧ q.2.1 = nI (hmW v2 v3 v9 P g v10 (bestN (hmW v2 v3 v9 P g v10) (L - 1))) ∧ Fr 1584 1630 st q.2.2.2.2)
  | _, _, 0, _, _, _, _, _, _, h, _, _ => absurd h (Nat.not_lt_zero _)
  | 0, k, fuel + 1, x2, x3, fa, pl, st, hk, hf, hx, hR => by
    have hL := hl.2.2.1
    obtain ⟨j, rfl, rfl, rfl⟩ := hx.resolve_left (fun q => by omega)
    have e : L - 1 = j := by omega
    rw [f_R_least_L35, hl.1, e]
    repeat (first | (with_reducible refine Ev.letE ?_) | (with_reducible refine Ev.ifn ?_ ?_; · (first | with_reducible assumption | decide | (simp (disch := omega) only [zlit, nI_add, pk_mul, pk_sub, zsubm, nI_clamp, nI_leI, nI_ltI, nI_eq, zeqF, Nat.reduceEqDiff, zleF, zleT, zltF, zltT, zneg1, zneg1L, zneg2, zneg0, eq_self, or_self, false_or, or_false, Nat.not_lt_zero, not_false_eq_true, not_true_eq_false]; done))) | (with_reducible refine Ev.ifp ?_ ?_; · (first | with_reducible assumption | decide | (simp (disch := omega) only [zlit, nI_add, pk_mul, pk_sub, zsubm, nI_clamp, nI_leI, nI_ltI, nI_eq, zeqF, Nat.reduceEqDiff, zleF, zleT, zltF, zltT, zneg1, zneg1L, zneg2, zneg0, eq_self, or_self, false_or, or_false, Nat.not_lt_zero, not_false_eq_true, not_true_eq_false]; done))) | (with_reducible refine Ev.bnd (x := some _) rfl ?_))
    exact Ev.ret ⟨rfl, rfl, Fr.refl _ _ _⟩
  | r + 1, k, fuel + 1, x2, x3, fa, pl, st, hk, hf, hx, hR => by
    have hL := hl.2.2.1
    have h6 := hT.1.2
    rw [f_R_least_L35, hl.1, show nI k + 1 = nI (k + 1) from nI_1 k]
    repeat (first | (with_reducible refine Ev.letE ?_) | (with_reducible refine Ev.ifn ?_ ?_; · (first | with_reducible assumption | decide | (simp (disch := omega) only [zlit, nI_add, pk_mul, pk_sub, zsubm, nI_clamp, nI_leI, nI_ltI, nI_eq, zeqF, Nat.reduceEqDiff, zleF, zleT, zltF, zltT, zneg1, zneg1L, zneg2, zneg0, eq_self, or_self, false_or, or_false, Nat.not_lt_zero, not_false_eq_true, not_true_eq_false]; done))) | (with_reducible refine Ev.ifp ?_ ?_; · (first | with_reducible assumption | decide | (simp (disch := omega) only [zlit, nI_add, pk_mul, pk_sub, zsubm, nI_clamp, nI_leI, nI_ltI, nI_eq, zeqF, Nat.reduceEqDiff, zleF, zleT, zltF, zltT, zneg1, zneg1L, zneg2, zneg0, eq_self, or_self, false_or, or_false, Nat.not_lt_zero, not_false_eq_true, not_true_eq_false]; done))) | (with_reducible refine Ev.bnd (x := some _) rfl ?_))
    refine Ev.bnx (weekBy_ev hN (w := R_s_facts_pile_state w fa pl st) hT hsg hg hl (show k < L by omega) hR hI) ?_
    rintro ⟨c1, c2, c3⟩ ⟨d1, d2⟩
    have d2 : Fr 1584 1630 st c3 := d2
    refine Ev.bnd (allHarm_ok hN (w := R_s_facts_pile_state w c1 c2 c3) (b := 1584) (by omega) hT d1).1 ?_
    obtain ⟨e1, e2⟩ := hmW_ok (v2 := v2) (v3 := v3) h6 hg hl (show k < L by omega) hI
    rw [e1]
    have hR2 : LR P 0 c3 v10 := hR.keep h6 (fun j a b => d2 j (by omega))
    have hnx : ∃ j, k + 1 = j + 1 ∧ (if x3 < 0 then nI k else (if x3 ≤ nI (hmW v2 v3 v9 P g v10 k) then x2 else nI k)) = nI (bestN (hmW v2 v3 v9 P g v10) j) ∧ (if x3 < 0 then nI (hmW v2 v3 v9 P g v10 k) else (if x3 ≤ nI (hmW v2 v3 v9 P g v10 k) then x3 else nI (hmW v2 v3 v9 P g v10 k))) = nI (hmW v2 v3 v9 P g v10 (bestN (hmW v2 v3 v9 P g v10) j)) := by
      refine ⟨k, rfl, ?_⟩
      rcases hx with ⟨rfl, rfl, rfl⟩ | ⟨j, rfl, rfl, rfl⟩
      · rw [if_pos (by decide), if_pos (by decide)]
        exact ⟨rfl, rfl⟩
      · have hb := bestN_le (hmW v2 v3 v9 P g v10) j
        obtain ⟨-, e4⟩ := hmW_ok (v2 := v2) (v3 := v3) h6 hg hl (show bestN (hmW v2 v3 v9 P g v10) j < L by omega) hI
        rw [if_neg (nI_pos (by omega)), if_neg (nI_pos (by omega)), bestN]
        by_cases c : hmW v2 v3 v9 P g v10 (j + 1) < hmW v2 v3 v9 P g v10 (bestN (hmW v2 v3 v9 P g v10) j)
        · rw [if_pos c, if_neg (fun q => by have := (nI_leI (by omega) (by omega)).mp q; omega), if_neg (fun q => by have := (nI_leI (by omega) (by omega)).mp q; omega)]
          exact ⟨rfl, rfl⟩
        · rw [if_neg c, if_pos (nI_le (by omega) (by omega)), if_pos (nI_le (by omega) (by omega))]
          exact ⟨rfl, rfl⟩
    refine (rleast_loop hN h0 hT hsg hg hl hI r (k + 1) fuel _ _ c1 c2 c3 (by omega) (by omega) (Or.inr hnx) hR2).mono ?_
    rintro q ⟨q1, q2, q3⟩
    exact ⟨q1, q2, d2.trans q3⟩
theorem m_least {N : Nat} (hN : 10000 ≤ N) {v0 : VBl} {v1 : VTape} {v2 : VTown} {v3 : VLaws} {v4 : VReader} {v5 : VTown} {v6 : VLaws} {v7 : VYear} {v8 : VYear} {v9 : VLots} {v10 : VLives} {v11 : VLives} {v13 : VTales} {v17 : VForecast} {v18 : VLives} {v19 : VDeeds} {v20 : VPairs} {und mls : Nat → VLives} {mts : Nat → VTales} {w : VR} {P L g : Nat} (h : RELx P L g v0 v1 v2 v3 v7 v9 v10 v13 v17 und mls mts w) (a1 : Int32) : Ev (f_Bl_least N v0 v1 v2 v3 v4 v5 v6 v7 v8 v9 v10 v11 v13 v17 v18 v19 v20 und mls mts a1) (fun r => Ev (f_R_least N w a1) (fun q => r.1 = q.1 ∧ q.2.1 = 0 ∧ RELx P L g v0 v1 v2 (Laws_s_facts_stack v3 r.2.1 r.2.2.1) v7 v9 v10 v13 (Forecast_s_ready_held_harms v17 r.2.2.2.1 r.2.2.2.2.1 r.2.2.2.2.2.1) und mls mts (R_s_thrown_facts_pile_state w q.2.1 q.2.2.1 q.2.2.2.1 q.2.2.2.2))) := by
  have hh := h
  obtain ⟨⟨hT, hB, hG, hD, hnm⟩, hl, ⟨hR, hI⟩, b4, b5, b6, b7, hpl, hf⟩ := h
  have h6 := hT.1.2
  have hL := hl.2.2.1
  have hT' : townR (R_thrown_s w 0) v2 v3 P := hT
  have rel0 : ∀ (fa sk f2 pl st : Nat → Int32), Fr 1584 1630 (R_state w) st → RELx P L g v0 v1 v2 (Laws_s_facts_stack v3 fa sk) v7 v9 v10 v13 v17 und mls mts (R_s_thrown_facts_pile_state w 0 f2 pl st) := fun fa sk f2 pl st hf => hh.trial ⟨rfl, rfl, rfl, rfl, rfl, rfl, rfl, rfl, rfl, rfl, rfl, rfl, rfl⟩ rfl (fun j hj => hf j (by omega)) ⟨fa, sk, rfl⟩
  have rel1 : ∀ (fa sk f2 pl st held harms : Nat → Int32), Fr 1584 1630 (R_state w) st → heldR P L g v2 v3 v9 v10 held harms → RELx P L g v0 v1 v2 (Laws_s_facts_stack v3 fa sk) v7 v9 v10 v13 (Forecast_s_ready_held_harms v17 1 held harms) und mls mts (R_s_thrown_facts_pile_state w 0 f2 pl st) := fun fa sk f2 pl st held harms hf2 hh2 => by
    obtain ⟨x1, x2, x3, x4, x5, x6, x7, x8, -⟩ := rel0 fa sk f2 pl st hf2
    have hfn : foreR P L g v2 v3 v9 v10 (Forecast_s_ready_held_harms v17 1 held harms) := ⟨Or.inr ⟨rfl, hh2⟩, hf.2.1, hf.2.2⟩
    exact ⟨x1, x2, x3, x4, x5, x6, x7, x8, foreR_fs hfn⟩
  by_cases hz : L = 0
  · subst hz
    have e : f_Bl_least N v0 v1 v2 v3 v4 v5 v6 v7 v8 v9 v10 v11 v13 v17 v18 v19 v20 und mls mts a1 = some (-2, Laws_facts v3, Laws_stack v3, Forecast_ready v17, Forecast_held v17, Forecast_harms v17, Lives_purse v18, Lives_debt v18, Lives_home v18, Lives_hidden v18, Lives_self v18, Lives_worthThen v18, Lives_homeThen v18, Lives_away v18, Lives_days v18, Lives_homes v18, Lives_harm v18) := by
      unfold f_Bl_least
      rw [hl.2.1]
      exact if_pos (by decide)
    refine Ev.of e ?_
    have e2 : f_R_least N w a1 = some (-2, 0, R_facts w, R_pile w, R_state w) := by
      unfold f_R_least
      rw [hl.1]
      by_cases c : a1 = (-1)
      · rw [if_pos c]; rfl
      · rw [if_neg c]
        rcases isPerson_both (N := N) hT' a1 with ⟨-, g2⟩ | ⟨l, -, -, -, g2⟩
        · repeat (first | (with_reducible refine zletE ?_) | (with_reducible refine zifn ?_ ?_; · (first | with_reducible assumption | decide | (simp (disch := omega) only [zlit, nI_add, pk_mul, pk_sub, zsubm, nI_clamp, nI_leI, nI_ltI, nI_eq, zeqF, Nat.reduceEqDiff, zleF, zleT, zltF, zltT, zneg1, zneg1L, zneg2, zneg0, eq_self, or_self, false_or, or_false, Nat.not_lt_zero, not_false_eq_true, not_true_eq_false]; done))) | (with_reducible refine zifp ?_ ?_; · (first | with_reducible assumption | decide | (simp (disch := omega) only [zlit, nI_add, pk_mul, pk_sub, zsubm, nI_clamp, nI_leI, nI_ltI, nI_eq, zeqF, Nat.reduceEqDiff, zleF, zleT, zltF, zltT, zneg1, zneg1L, zneg2, zneg0, eq_self, or_self, false_or, or_false, Nat.not_lt_zero, not_false_eq_true, not_true_eq_false]; done))) | (with_reducible refine bnd (g2) ?_) | (with_reducible refine bnd (x := some _) rfl ?_))
          rfl
        · repeat (first | (with_reducible refine zletE ?_) | (with_reducible refine zifn ?_ ?_; · (first | with_reducible assumption | decide | (simp (disch := omega) only [zlit, nI_add, pk_mul, pk_sub, zsubm, nI_clamp, nI_leI, nI_ltI, nI_eq, zeqF, Nat.reduceEqDiff, zleF, zleT, zltF, zltT, zneg1, zneg1L, zneg2, zneg0, eq_self, or_self, false_or, or_false, Nat.not_lt_zero, not_false_eq_true, not_true_eq_false]; done))) | (with_reducible refine zifp ?_ ?_; · (first | with_reducible assumption | decide | (simp (disch := omega) only [zlit, nI_add, pk_mul, pk_sub, zsubm, nI_clamp, nI_leI, nI_ltI, nI_eq, zeqF, Nat.reduceEqDiff, zleF, zleT, zltF, zltT, zneg1, zneg1L, zneg2, zneg0, eq_self, or_self, false_or, or_false, Nat.not_lt_zero, not_false_eq_true, not_true_eq_false]; done))) | (with_reducible refine bnd (g2) ?_) | (with_reducible refine bnd (x := some _) rfl ?_))
          rfl
    exact Ev.of e2 ⟨rfl, rfl, rel0 _ _ _ _ _ (Fr.refl _ _ _)⟩
  · have h0 : 0 < L := by omega
    obtain ⟨c, e1, d1, d2, d3⟩ := leastHarmful_ev hN (u := v18) h0 hT hG hl hR hI hf
    obtain ⟨q, e2, d4, d5, d6⟩ := rleast_loop hN (w := R_thrown_s w 0) (y1 := a1) h0 hT hG.2.2.2 hG.1 hl hI L 0 N 0 (-1) (R_facts w) (R_pile w) (R_state w) (by omega) (by omega) (Or.inl ⟨rfl, rfl, rfl⟩) hR
    have e2 : f_R_least_L35 N N (R_thrown_s w 0) a1 0 (-1) 0 (R_facts w) (R_pile w) (R_state w) = some q := e2
    have d6 : Fr 1584 1630 (R_state w) q.2.2.2.2 := d6
    have hb := bestN_le (hmW v2 v3 v9 P g v10) (L - 1)
    have hb2 : bestN (hmW v2 v3 v9 P g v10) (L - 1) < 265 := by omega
    have hb3 : bestN (hmW v2 v3 v9 P g v10) (L - 1) < L := by omega
    obtain ⟨e5, e6⟩ := hmW_ok (v2 := v2) (v3 := v3) h6 hG.1 hl hb3 hI
    have hrel := rel1 c.2.2.2.2.1 c.2.2.2.2.2.1 q.2.2.1 q.2.2.2.1 q.2.2.2.2 c.2.2.1 c.2.2.2.1 d6 d3
    rw [← d2] at hrel
    unfold f_Bl_least f_R_least
    rw [hl.2.1]
    by_cases c1 : a1 = (-1)
    · have hlt : ¬ 0 ≤ a1 := by rw [c1]; decide
      refine Ev.ifn (nI_nle h0 (by omega)) ?_
      refine Ev.ifp c1 ?_
      refine Ev.bnd e1 ?_
      refine Ev.ifp c1 ?_
      rw [d1]
      refine Ev.bnd (harmBy_ok hb2) ?_
      refine Ev.ret ?_
      refine Ev.ifp c1 ?_
      refine Ev.ifn (by rw [hl.1]; exact nI_ne0 h0 (by omega)) ?_
      refine Ev.bnd e2 ?_
      refine Ev.ifn hlt ?_
      refine Ev.ret ⟨?_, rfl, hrel⟩
      show c.2.2.2.1 _ = q.2.1
      rw [(d3 _ hb3).2, d5, e5]
    · refine Ev.ifn (nI_nle h0 (by omega)) ?_
      refine Ev.ifn c1 ?_
      rcases isPerson_both (N := N) hT' a1 with ⟨g1, g2⟩ | ⟨l, hl2, rfl, g1, g2⟩
      · refine Ev.bnd g1 ?_
        refine Ev.ifp rfl ?_
        refine Ev.ret ?_
        refine Ev.ifn c1 ?_
        refine Ev.bnd g2 ?_
        refine Ev.ifp rfl ?_
        exact Ev.ret ⟨rfl, rfl, rel0 _ _ _ _ _ (Fr.refl _ _ _)⟩
      · refine Ev.bnd g1 ?_
        refine Ev.ifn (by decide) ?_
        refine Ev.bnd e1 ?_
        refine Ev.ifn c1 ?_
        rw [d1]
        refine Ev.bnd (selfIn_ok hl.2.1 hL hb3 (show l < 6 by omega)) ?_
        refine Ev.ret ?_
        refine Ev.ifn c1 ?_
        refine Ev.bnd g2 ?_
        refine Ev.ifn (by decide) ?_
        refine Ev.ifn (by rw [hl.1]; exact nI_ne0 h0 (by omega)) ?_
        refine Ev.bnd e2 ?_
        refine Ev.ifp (nI_pos' (by omega)) ?_
        rw [d4]
        refine Ev.bnd (rselfOf_ok (w := R_s_thrown_facts_pile_state w 0 q.2.2.1 q.2.2.2.1 q.2.2.2.2) hl hb3 hl2) ?_
        exact Ev.ret ⟨rfl, rfl, hrel⟩
