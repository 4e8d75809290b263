/-! ===== by hand ===== -/
theorem wkV_fs (v2 : VTown) (v3 : VLaws) (v9 : VLots) (P g : Nat) (v : VLives) (p d : Nat) (fa sk : Nat → Int32) : wkV v2 (Laws_s_facts_stack v3 fa sk) v9 P g v p d = wkV v2 v3 v9 P g v p d := by
  unfold wkV
  rw [daysV_eq, daysV_eq, daysS_fs]
theorem ownN_fs (v2 : VTown) (v3 : VLaws) (v9 : VLots) (P g : Nat) (v : VLives) (l : Nat) (fa sk : Nat → Int32) : ∀ (r p : Nat), ownN v2 (Laws_s_facts_stack v3 fa sk) v9 P g v l r p = ownN v2 v3 v9 P g v l r p
  | 0, _ => rfl
  | r + 1, p => by
    show (hmOf (wkV v2 (Laws_s_facts_stack v3 fa sk) v9 P g v p 7) l).toNatClampNeg + ownN v2 (Laws_s_facts_stack v3 fa sk) v9 P g v l r (p + 1) = (hmOf (wkV v2 v3 v9 P g v p 7) l).toNatClampNeg + ownN v2 v3 v9 P g v l r (p + 1)
    rw [wkV_fs, ownN_fs]
theorem foreR_fs {P L g : Nat} {v2 : VTown} {v3 : VLaws} {v9 : VLots} {v10 : VLives} {v17 : VForecast} {fa sk : Nat → Int32} (h : foreR P L g v2 v3 v9 v10 v17) : foreR P L g v2 (Laws_s_facts_stack v3 fa sk) v9 v10 v17 := by
  obtain ⟨h1, h2, h3⟩ := h
  refine ⟨?_, ?_, h3⟩
  · rcases h1 with h1 | ⟨h1, h4⟩
    · exact Or.inl h1
    · refine Or.inr ⟨h1, fun p hp => ?_⟩
      obtain ⟨a1, a2⟩ := h4 p hp
      refine ⟨fun d l hd hl => ?_, ?_⟩
      · rw [wkV_fs]; exact a1 d l hd hl
      · rw [wkV_fs]; exact a2
  · rcases h2 with h2 | ⟨l, n, a1, a2, a3, a4, a5, a6⟩
    · exact Or.inl h2
    · refine Or.inr ⟨l, n, a1, a2, a3, a4, ?_, ?_⟩
      · simp only [ownN_fs]; exact a5
      · simp only [ownN_fs]; exact a6
theorem foreR_new {P L g : Nat} {v2 : VTown} {v3 : VLaws} {v9 : VLots} {v10 v10' : VLives} {v17 : VForecast} (h : foreR P L g v2 v3 v9 v10 v17) (v3' : VLaws) : foreR P L g v2 v3' v9 v10' (Forecast_s_ready_prepared v17 0 (-1)) := ⟨Or.inl rfl, Or.inl rfl, h.2.2⟩
theorem keepForUndo_ev {N : Nat} {v0 : VBl} {v1 : VTape} {v2 : VTown} {v3 : VLaws} {v4 : VReader} {v5 : VTown} {v6 : VLaws} {v7 : VYear} {v8 : VYear} {v9 : VLots} {v10 : VLives} {v11 : VLives} {v13 : VTales} {v17 : VForecast} {v18 : VLives} {v19 : VDeeds} {v20 : VPairs} {und mls : Nat → VLives} {mts : Nat → VTales} {q : Nat} (hq : q < 17) (h : Bl_nextUndo v0 = nI q) (ha : Lives_away v10 = 0 ∨ Lives_away v10 = 1) : Ev (f_Bl_keepForUndo N v0 v1 v2 v3 v4 v5 v6 v7 v8 v9 v10 v11 v13 v17 v18 v19 v20 und mls mts) (fun un => AGP 6 (un q) v10 ∧ ∀ i, ¬ i = q → un i = und i) := by
  unfold f_Bl_keepForUndo
  rw [h, nI_clamp (n := q) (by omega)]
  repeat (first | (with_reducible refine Ev.letE ?_) | (with_reducible refine Ev.ifn ?_ ?_; · (first | with_reducible assumption | decide | (simp (disch := omega) only [zlit, nI_add, pk_mul, pk_sub, zsubm, nI_clamp, nI_leI, nI_ltI, nI_eq, zeqF, Nat.reduceEqDiff, zleF, zleT, zltF, zltT, zneg1, zneg1L, zneg2, zneg0, eq_self, or_self, false_or, or_false, Nat.not_lt_zero, not_false_eq_true, not_true_eq_false]; done))) | (with_reducible refine Ev.ifp ?_ ?_; · (first | with_reducible assumption | decide | (simp (disch := omega) only [zlit, nI_add, pk_mul, pk_sub, zsubm, nI_clamp, nI_leI, nI_ltI, nI_eq, zeqF, Nat.reduceEqDiff, zleF, zleT, zltF, zltT, zneg1, zneg1L, zneg2, zneg0, eq_self, or_self, false_or, or_false, Nat.not_lt_zero, not_false_eq_true, not_true_eq_false]; done))) | (with_reducible refine Ev.bnd (x := some _) rfl ?_))
  refine Ev.bnx (copy_ev (N := N) ha) ?_
  intro c hc
  refine Ev.ret ⟨?_, fun i hi => va_up_ne _ _ hi⟩
  show AGP 6 (va_up und q _ q) v10
  rw [va_up_self]
  exact hc
theorem byHand_yes {N : Nat} {v0 : VBl} {v1 : VTape} {v2 : VTown} {v3 : VLaws} {v4 : VReader} {v5 : VTown} {v6 : VLaws} {v7 : VYear} {v8 : VYear} {v9 : VLots} {v10 : VLives} {v11 : VLives} {v13 : VTales} {v17 : VForecast} {v18 : VLives} {v19 : VDeeds} {v20 : VPairs} {und mls : Nat → VLives} {mts : Nat → VTales} {q u : Nat} (hq : q < 17) (hu : u ≤ 16) (h : Bl_nextUndo v0 = nI q) (h2 : Bl_undoable v0 = nI u) : f_Bl_byHand N v0 v1 v2 v3 v4 v5 v6 v7 v8 v9 v10 v11 v13 v17 v18 v19 v20 und mls mts 1 = some (1, nI (if q + 1 < 17 then q + 1 else 0), nI (if u + 1 ≤ 16 then u + 1 else 16), 0, -1) := by
  unfold f_Bl_byHand f_Forecast_forget
  rw [h, h2, show nI q + 1 = nI (q + 1) from nI_1 q, show nI u + 1 = nI (u + 1) from nI_1 u]
  have e1 : (if 17 ≤ nI (q + 1) then (0 : Int32) else nI (q + 1)) = nI (if q + 1 < 17 then q + 1 else 0) := by
    by_cases c : q + 1 < 17
    · rw [if_pos c]; exact if_neg (nI_ge (b := 17) c (by decide))
    · rw [if_neg c]; exact if_pos (nI_le (a := 17) (by omega) (by omega))
  have e2 : (if 16 < nI (u + 1) then (16 : Int32) else nI (u + 1)) = nI (if u + 1 ≤ 16 then u + 1 else 16) := by
    by_cases c : u + 1 ≤ 16
    · rw [if_pos c]; exact if_neg (nI_nlt (a := 16) c (by decide))
    · rw [if_neg c]; exact if_pos (nI_lt (a := 16) (by omega) (by omega))
  repeat (first | (with_reducible refine zletG (e1) ?_) | (with_reducible refine zletG (e2) ?_) | (with_reducible refine zletE ?_) | (with_reducible refine zifn ?_ ?_; · (first | with_reducible assumption | decide | (simp (disch := omega) only [zlit, nI_add, pk_mul, pk_sub, zsubm, nI_clamp, nI_leI, nI_ltI, nI_eq, zeqF, Nat.reduceEqDiff, zleF, zleT, zltF, zltT, zneg1, zneg1L, zneg2, zneg0, eq_self, or_self, false_or, or_false, Nat.not_lt_zero, not_false_eq_true, not_true_eq_false]; done))) | (with_reducible refine zifp ?_ ?_; · (first | with_reducible assumption | decide | (simp (disch := omega) only [zlit, nI_add, pk_mul, pk_sub, zsubm, nI_clamp, nI_leI, nI_ltI, nI_eq, zeqF, Nat.reduceEqDiff, zleF, zleT, zltF, zltT, zneg1, zneg1L, zneg2, zneg0, eq_self, or_self, false_or, or_false, Nat.not_lt_zero, not_false_eq_true, not_true_eq_false]; done))) | (with_reducible refine bnd (x := some _) rfl ?_))
  rfl
theorem byHand_no {N : Nat} {v0 : VBl} {v1 : VTape} {v2 : VTown} {v3 : VLaws} {v4 : VReader} {v5 : VTown} {v6 : VLaws} {v7 : VYear} {v8 : VYear} {v9 : VLots} {v10 : VLives} {v11 : VLives} {v13 : VTales} {v17 : VForecast} {v18 : VLives} {v19 : VDeeds} {v20 : VPairs} {und mls : Nat → VLives} {mts : Nat → VTales} : f_Bl_byHand N v0 v1 v2 v3 v4 v5 v6 v7 v8 v9 v10 v11 v13 v17 v18 v19 v20 und mls mts 0 = some (0, Bl_nextUndo v0, Bl_undoable v0, Forecast_ready v17, Forecast_prepared v17) := by
  unfold f_Bl_byHand
  repeat (first | (with_reducible refine zletE ?_) | (with_reducible refine zifn ?_ ?_; · (first | with_reducible assumption | decide | (simp (disch := omega) only [zlit, nI_add, pk_mul, pk_sub, zsubm, nI_clamp, nI_leI, nI_ltI, nI_eq, zeqF, Nat.reduceEqDiff, zleF, zleT, zltF, zltT, zneg1, zneg1L, zneg2, zneg0, eq_self, or_self, false_or, or_false, Nat.not_lt_zero, not_false_eq_true, not_true_eq_false]; done))) | (with_reducible refine zifp ?_ ?_; · (first | with_reducible assumption | decide | (simp (disch := omega) only [zlit, nI_add, pk_mul, pk_sub, zsubm, nI_clamp, nI_leI, nI_ltI, nI_eq, zeqF, Nat.reduceEqDiff, zleF, zleT, zltF, zltT, zneg1, zneg1L, zneg2, zneg0, eq_self, or_self, false_or, or_false, Nat.not_lt_zero, not_false_eq_true, not_true_eq_false]; done))) | (with_reducible refine bnd (x := some _) rfl ?_))
  rfl
theorem keeps_loop {N : Nat} (hN : 10000 ≤ N) {w : VR} : ∀ (r k fuel : Nat) (st : Nat → Int32), k + r = 16 → r < fuel → 1 ≤ k → Ev (f_R_keeps_L11 N fuel w (nI k) st) (fun q => (∀ i j, k ≤ i → i < 16 → j < 46 → q (72 * (5 + (i - 1)) + j) = st (72 * (5 + i) + j)) ∧ (∀ j, (j < 72 * (5 + (k - 1)) ∨ 72 * 20 ≤ j) → q j = st j))
  | _, _, 0, _, _, h, _ => absurd h (Nat.not_lt_zero _)
  | 0, k, fuel + 1, st, h1, h2, h3 => by
    rw [f_R_keeps_L11]
    repeat (first | (with_reducible refine Ev.letE ?_) | (with_reducible refine Ev.ifn ?_ ?_; · (first | with_reducible assumption | decide | (simp (disch := omega) only [zlit, nI_add, pk_mul, pk_sub, zsubm, nI_clamp, nI_leI, nI_ltI, nI_eq, zeqF, Nat.reduceEqDiff, zleF, zleT, zltF, zltT, zneg1, zneg1L, zneg2, zneg0, eq_self, or_self, false_or, or_false, Nat.not_lt_zero, not_false_eq_true, not_true_eq_false]; done))) | (with_reducible refine Ev.ifp ?_ ?_; · (first | with_reducible assumption | decide | (simp (disch := omega) only [zlit, nI_add, pk_mul, pk_sub, zsubm, nI_clamp, nI_leI, nI_ltI, nI_eq, zeqF, Nat.reduceEqDiff, zleF, zleT, zltF, zltT, zneg1, zneg1L, zneg2, zneg0, eq_self, or_self, false_or, or_false, Nat.not_lt_zero, not_false_eq_true, not_true_eq_false]; done))) | (with_reducible refine Ev.bnd (x := some _) rfl ?_))
    exact Ev.ret ⟨fun i j a b c => absurd b (by omega), fun j hj => rfl⟩
  | r + 1, k, fuel + 1, st, h1, h2, h3 => by
    rw [f_R_keeps_L11, show (72 : Int32) * (5 + nI k) = nI (72 * (5 + k)) by simp (maxSteps := 2000000) (disch := omega) only [zlit, nI_add, pk_mul, nI_clamp], show (72 : Int32) * ((5 + nI k) - 1) = nI (72 * (5 + (k - 1))) by
      rw [show (5 : Int32) + nI k = nI (5 + k) from nI_add 5 k, show nI (5 + k) - 1 = nI (5 + (k - 1)) by rw [show 5 + k = (5 + (k - 1)) + 1 by omega]; exact nI_pred _]
      exact pk_mul 72 _, show nI k + 1 = nI (k + 1) from nI_1 k]
    repeat (first | (with_reducible refine Ev.letE ?_) | (with_reducible refine Ev.ifn ?_ ?_; · (first | with_reducible assumption | decide | (simp (disch := omega) only [zlit, nI_add, pk_mul, pk_sub, zsubm, nI_clamp, nI_leI, nI_ltI, nI_eq, zeqF, Nat.reduceEqDiff, zleF, zleT, zltF, zltT, zneg1, zneg1L, zneg2, zneg0, eq_self, or_self, false_or, or_false, Nat.not_lt_zero, not_false_eq_true, not_true_eq_false]; done))) | (with_reducible refine Ev.ifp ?_ ?_; · (first | with_reducible assumption | decide | (simp (disch := omega) only [zlit, nI_add, pk_mul, pk_sub, zsubm, nI_clamp, nI_leI, nI_ltI, nI_eq, zeqF, Nat.reduceEqDiff, zleF, zleT, zltF, zltT, zneg1, zneg1L, zneg2, zneg0, eq_self, or_self, false_or, or_false, Nat.not_lt_zero, not_false_eq_true, not_true_eq_false]; done))) | (with_reducible refine Ev.bnd (x := some _) rfl ?_))
    refine Ev.bnx (copies_ev hN (w := R_state_s w st) (a := 72 * (5 + k)) (b := 72 * (5 + (k - 1))) (n := 46) (by omega) (by omega) (by omega)) ?_
    rintro s1 ⟨c1, c2⟩
    have c1 : ∀ j, j < 46 → s1 (72 * (5 + (k - 1)) + j) = st (72 * (5 + k) + j) := c1
    have c2 : ∀ j, ¬ (72 * (5 + (k - 1)) ≤ j ∧ j < 72 * (5 + (k - 1)) + 46) → s1 j = st j := c2
    refine (keeps_loop hN r (k + 1) fuel s1 (by omega) (by omega) (by omega)).mono ?_
    rintro q ⟨q1, q2⟩
    refine ⟨fun i j a b c => ?_, fun j hj => ?_⟩
    · by_cases e : i = k
      · subst e
        rw [q2 _ (by omega), c1 j c]
      · rw [q1 i j (by omega) b c, c2 _ (by omega)]
    · rw [q2 j (by omega), c2 j (by omega)]
theorem keeps_ev {N : Nat} (hN : 10000 ≤ N) {w : VR} {u : Nat} (hu : u ≤ 16) (h : R_undos w = nI u) : Ev (f_R_keeps N w) (fun r => r.2 = nI (if u + 1 ≤ 16 then u + 1 else 16) ∧ (∀ j, (j < 360 ∨ 1512 ≤ j) → r.1 j = R_state w j) ∧ (∀ j, j < 46 → r.1 (72 * (5 + (if u + 1 ≤ 16 then u else 15)) + j) = R_state w j) ∧ (∀ i j, i < (if u + 1 ≤ 16 then u else 15) → j < 46 → r.1 (72 * (5 + i) + j) = R_state w (72 * (5 + (if u + 1 ≤ 16 then i else i + 1)) + j))) := by
  unfold f_R_keeps
  rw [h]
  by_cases c : u = 16
  · subst c
    repeat (first | (with_reducible refine Ev.letE ?_) | (with_reducible refine Ev.ifn ?_ ?_; · (first | with_reducible assumption | decide | (simp (disch := omega) only [zlit, nI_add, pk_mul, pk_sub, zsubm, nI_clamp, nI_leI, nI_ltI, nI_eq, zeqF, Nat.reduceEqDiff, zleF, zleT, zltF, zltT, zneg1, zneg1L, zneg2, zneg0, eq_self, or_self, false_or, or_false, Nat.not_lt_zero, not_false_eq_true, not_true_eq_false]; done))) | (with_reducible refine Ev.ifp ?_ ?_; · (first | with_reducible assumption | decide | (simp (disch := omega) only [zlit, nI_add, pk_mul, pk_sub, zsubm, nI_clamp, nI_leI, nI_ltI, nI_eq, zeqF, Nat.reduceEqDiff, zleF, zleT, zltF, zltT, zneg1, zneg1L, zneg2, zneg0, eq_self, or_self, false_or, or_false, Nat.not_lt_zero, not_false_eq_true, not_true_eq_false]; done))) | (with_reducible refine Ev.bnd (x := some _) rfl ?_))
    refine Ev.bnx (keeps_loop hN 15 1 N (R_state w) (by omega) (by omega) (by omega)) ?_
    rintro s1 ⟨c1, c2⟩
    have e9 : nI 16 - 1 = nI 15 := rfl
    rw [e9, show (72 : Int32) * (5 + nI 15) = nI 1440 from rfl]
    refine Ev.bnx (copies_ev hN (w := R_s_state_undos w s1 (nI 15)) (a := 0) (b := 1440) (n := 46) (by omega) (by omega) (by omega)) ?_
    rintro s2 ⟨d1, d2⟩
    have d1 : ∀ j, j < 46 → s2 (1440 + j) = s1 (0 + j) := d1
    have d2 : ∀ j, ¬ (1440 ≤ j ∧ j < 1440 + 46) → s2 j = s1 j := d2
    refine Ev.ret ⟨rfl, fun j hj => ?_, fun j hj => ?_, fun i j hi hj => ?_⟩
    · show s2 j = _
      rw [d2 j (by omega), c2 j (by omega)]
    · show s2 (72 * (5 + (if 16 + 1 ≤ 16 then 16 else 15)) + j) = _
      rw [if_neg (by decide), show 72 * (5 + 15) + j = 1440 + j by omega, d1 j hj, c2 _ (by omega), Nat.zero_add]
    · show s2 (72 * (5 + i) + j) = R_state w (72 * (5 + (if 16 + 1 ≤ 16 then i else i + 1)) + j)
      have hi : i < (if 16 + 1 ≤ 16 then 16 else 15) := hi
      rw [if_neg (by decide)] at hi
      rw [if_neg (by decide), d2 _ (by omega)]
      have := c1 (i + 1) j (by omega) (by omega) hj
      rw [Nat.add_sub_cancel] at this
      exact this
  · have hne : ¬ nI u = 16 := fun e => c ((nI_eq (b := 16) (by omega) (by decide)).mp e)
    repeat (first | (with_reducible refine Ev.letE ?_) | (with_reducible refine Ev.ifn ?_ ?_; · (first | with_reducible assumption | decide | (simp (disch := omega) only [zlit, nI_add, pk_mul, pk_sub, zsubm, nI_clamp, nI_leI, nI_ltI, nI_eq, zeqF, Nat.reduceEqDiff, zleF, zleT, zltF, zltT, zneg1, zneg1L, zneg2, zneg0, eq_self, or_self, false_or, or_false, Nat.not_lt_zero, not_false_eq_true, not_true_eq_false]; done))) | (with_reducible refine Ev.ifp ?_ ?_; · (first | with_reducible assumption | decide | (simp (disch := omega) only [zlit, nI_add, pk_mul, pk_sub, zsubm, nI_clamp, nI_leI, nI_ltI, nI_eq, zeqF, Nat.reduceEqDiff, zleF, zleT, zltF, zltT, zneg1, zneg1L, zneg2, zneg0, eq_self, or_self, false_or, or_false, Nat.not_lt_zero, not_false_eq_true, not_true_eq_false]; done))) | (with_reducible refine Ev.bnd (x := some _) rfl ?_))
    rw [show (72 : Int32) * (5 + nI u) = nI (72 * (5 + u)) by simp (maxSteps := 2000000) (disch := omega) only [zlit, nI_add, pk_mul, nI_clamp]]
    refine Ev.bnx (copies_ev hN (w := w) (a := 0) (b := 72 * (5 + u)) (n := 46) (by omega) (by omega) (by omega)) ?_
    rintro s2 ⟨d1, d2⟩
    have e0 : (if u + 1 ≤ 16 then u + 1 else 16) = u + 1 := if_pos (by omega)
    have e1 : (if u + 1 ≤ 16 then u else 15) = u := if_pos (by omega)
    refine Ev.ret ⟨?_, fun j hj => ?_, fun j hj => ?_, fun i j hi hj => ?_⟩
    · rw [e0]; exact nI_1 u
    · exact d2 j (by omega)
    · rw [e1]
      have := d1 j hj
      rw [Nat.zero_add] at this
      exact this
    · rw [e1] at hi
      rw [if_pos (show u + 1 ≤ 16 by omega)]
      exact d2 _ (by omega)
/-- what was can be undone -/
theorem undR_push {P : Nat} {v10 : VLives} {und un : Nat → VLives} {w : VR} {q u : Nat} {st : Nat → Int32} {w' : VR} (h6 : P ≤ 6) (hu : u ≤ 16) (hq : q < 17) (h : ∀ i, i < u → LR P (72 * (5 + i)) (R_state w) (und ((q + 17 - u + i) % 17)) ∧ LI P (und ((q + 17 - u + i) % 17))) (hR : LR P 0 (R_state w) v10) (hI : LI P v10) (hn1 : AGP 6 (un q) v10) (hn2 : ∀ i, ¬ i = q → un i = und i)
    (hk1 : ∀ j, j < 46 → st (72 * (5 + (if u + 1 ≤ 16 then u else 15)) + j) = R_state w j) (hk2 : ∀ i j, i < (if u + 1 ≤ 16 then u else 15) → j < 46 → st (72 * (5 + i) + j) = R_state w (72 * (5 + (if u + 1 ≤ 16 then i else i + 1)) + j))
    (hw1 : R_undos w' = nI (if u + 1 ≤ 16 then u + 1 else 16)) (hw2 : ∀ j, 360 ≤ j → j < 1512 → R_state w' j = st j) {la : Nat → Int32} : undR P (nI (if q + 1 < 17 then q + 1 else 0), nI (if u + 1 ≤ 16 then u + 1 else 16), la) un w' := by
  have hg : AGP P v10 (un q) := (hn1.le h6).symm
  refine ⟨if u + 1 ≤ 16 then u + 1 else 16, if q + 1 < 17 then q + 1 else 0, by split <;> omega, by split <;> omega, rfl, hw1, rfl, fun i hi => ?_⟩
  by_cases c : u + 1 ≤ 16
  · rw [if_pos c] at hi hk1 ⊢
    have hk2' : ∀ i j, i < u → j < 46 → st (72 * (5 + i) + j) = R_state w (72 * (5 + i) + j) := fun i j hi hj => by
      have := hk2 i j (by rw [if_pos c]; exact hi) hj
      rw [if_pos c] at this
      exact this
    by_cases e : i = u
    · subst e
      have ei : ((if q + 1 < 17 then q + 1 else 0) + 17 - (i + 1) + i) % 17 = q := by split <;> omega
      rw [ei]
      refine ⟨((hR.moved (b := 72 * (5 + i)) h6 (fun j hj => ?_)).keep h6 (fun j a b => hw2 j (by omega) (by omega))).ag hg, hI.ag hg⟩
      rw [hk1 j hj, Nat.zero_add]
    · have ei : ((if q + 1 < 17 then q + 1 else 0) + 17 - (u + 1) + i) % 17 = (q + 17 - u + i) % 17 := by split <;> omega
      rw [ei, hn2 _ (by omega)]
      obtain ⟨a1, a2⟩ := h i (by omega)
      exact ⟨(a1.moved (b := 72 * (5 + i)) h6 (fun j hj => hk2' i j (by omega) hj)).keep h6 (fun j a b => hw2 j (by omega) (by omega)), a2⟩
  · rw [if_neg c] at hi hk1 ⊢
    have hu16 : u = 16 := by omega
    subst hu16
    have hk2' : ∀ i j, i < 15 → j < 46 → st (72 * (5 + i) + j) = R_state w (72 * (5 + (i + 1)) + j) := fun i j hi hj => by
      have := hk2 i j (by rw [if_neg c]; exact hi) hj
      rw [if_neg c] at this
      exact this
    by_cases e : i = 15
    · subst e
      have ei : ((if q + 1 < 17 then q + 1 else 0) + 17 - 16 + 15) % 17 = q := by split <;> omega
      rw [ei]
      refine ⟨((hR.moved (b := 72 * (5 + 15)) h6 (fun j hj => ?_)).keep h6 (fun j a b => hw2 j (by omega) (by omega))).ag hg, hI.ag hg⟩
      rw [hk1 j hj, Nat.zero_add]
    · have ei : ((if q + 1 < 17 then q + 1 else 0) + 17 - 16 + i) % 17 = (q + 17 - 16 + (i + 1)) % 17 := by split <;> omega
      rw [ei, hn2 _ (by omega)]
      obtain ⟨a1, a2⟩ := h (i + 1) (by omega)
      exact ⟨(a1.moved (b := 72 * (5 + i)) h6 (fun j hj => hk2' i j (by omega) hj)).keep h6 (fun j a b => hw2 j (by omega) (by omega)), a2⟩
/-- what was written ahead and doesn't count -/
theorem undR_over {P : Nat} {v0 : VBl} {und un : Nat → VLives} {w : VR} {q : Nat} (h : undR P v0 und w) (hq : q < 17) (hq2 : Bl_nextUndo v0 = nI q) (hn2 : ∀ i, ¬ i = q → un i = und i) : undR P v0 un w := by
  obtain ⟨u, q', h1, h2, h3, h4, h5, h6⟩ := h
  have e : q' = q := (nI_eq (by omega) (by omega)).mp (h5.symm.trans hq2)
  subst e
  refine ⟨u, q', h1, h2, h3, h4, h5, fun i hi => ?_⟩
  rw [hn2 _ (by omega)]
  exact h6 i hi
/-! ===== hide ===== -/
theorem hand_no {v0 : VBl} {v1 : VTape} {v2 : VTown} {v3 : VLaws} {v7 : VYear} {v9 : VLots} {v10 : VLives} {v13 : VTales} {v17 : VForecast} {und mls : Nat → VLives} {mts : Nat → VTales} {w : VR} {P L g : Nat} (h : RELx P L g v0 v1 v2 v3 v7 v9 v10 v13 v17 und mls mts w) {un : Nat → VLives} {q : Nat} (hq : q < 17) (hq2 : Bl_nextUndo v0 = nI q) (hn2 : ∀ i, ¬ i = q → un i = und i) {w' : VR} (s : SameT w w') (s1 : R_state w' = R_state w) (s2 : R_undos w' = R_undos w) : RELx P L g (Bl_nextUndo v0, Bl_undoable v0, Bl_laid v0) v1 v2 v3 v7 v9 v10 v13 (Forecast_s_ready_prepared v17 (Forecast_ready v17) (Forecast_prepared v17)) un mls mts w' := by
  obtain ⟨a1, a2, a3, a4, a5, a6, a7, a8, a9⟩ := h
  have h2 : RELx P L g v0 v1 v2 v3 v7 v9 v10 v13 v17 un mls mts w := ⟨a1, a2, a3, a4, a5, undR_over a6 hq hq2 hn2, a7, a8, a9⟩
  exact h2.same s s1 s2
theorem hand_yes {v0 : VBl} {v1 : VTape} {v2 : VTown} {v3 : VLaws} {v7 : VYear} {v9 : VLots} {v10 : VLives} {v13 : VTales} {v17 : VForecast} {und mls : Nat → VLives} {mts : Nat → VTales} {w : VR} {P L g : Nat} (h : RELx P L g v0 v1 v2 v3 v7 v9 v10 v13 v17 und mls mts w) {un : Nat → VLives} {q u : Nat} (hq : q < 17) (hu : u ≤ 16) (hq2 : Bl_nextUndo v0 = nI q) (hu2 : Bl_undoable v0 = nI u) (hn1 : AGP 6 (un q) v10) (hn2 : ∀ i, ¬ i = q → un i = und i) {k : (Nat → Int32) × Int32}
    (hk : k.2 = nI (if u + 1 ≤ 16 then u + 1 else 16) ∧ (∀ j, (j < 360 ∨ 1512 ≤ j) → k.1 j = R_state w j) ∧ (∀ j, j < 46 → k.1 (72 * (5 + (if u + 1 ≤ 16 then u else 15)) + j) = R_state w j) ∧ (∀ i j, i < (if u + 1 ≤ 16 then u else 15) → j < 46 → k.1 (72 * (5 + i) + j) = R_state w (72 * (5 + (if u + 1 ≤ 16 then i else i + 1)) + j)))
    {v10' : VLives} {w' : VR} (hR : LR P 0 (R_state w') v10') (hI : LI P v10') (hF : ∀ j, 46 ≤ j → R_state w' j = k.1 j) (hw1 : R_undos w' = k.2) (s : SameT w w') (v3' : VLaws) (hT' : townR w' v2 v3' P) : RELx P L g (nI (if q + 1 < 17 then q + 1 else 0), nI (if u + 1 ≤ 16 then u + 1 else 16), Bl_laid v0) v1 v2 v3' v7 v9 v10' v13 (Forecast_s_ready_prepared v17 0 (-1)) un mls mts w' := by
  obtain ⟨a1, a2, ⟨a3, a3'⟩, a4, a5, a6, a7, a8, a9⟩ := h
  have h6 := a1.1.1.2
  obtain ⟨k1, k2, k3, k4⟩ := hk
  obtain ⟨u', q', c1, c2, c3, c4, c5, c6⟩ := a6
  have e : q' = q := (nI_eq (by omega) (by omega)).mp (c5.symm.trans hq2)
  have e2 : u' = u := (nI_eq (by omega) (by omega)).mp (c3.symm.trans hu2)
  subst e
  subst e2
  refine ⟨⟨hT', (s.town a1).2⟩, s.lots a2, ⟨hR, hI⟩, s.tape a4, ?_, ?_, ?_, s.plan a8, foreR_new a9 v3'⟩
  · exact a5.keep (fun j x y => by rw [hF j (by omega), k2 j (by omega)])
  · exact undR_push h6 hu hq c6 a3 a3' hn1 hn2 k3 k4 (hw1.trans k1) (fun j x y => hF j (by omega))
  · exact a7.keep h6 s.2.2.2.2.2.2.2.2.2.2.2.1 (fun j x y => by rw [hF j (by omega), k2 j (by omega)])
theorem LR_hide {P l : Nat} {st : Nat → Int32} {v : VLives} {c : Int32} (h6 : P ≤ 6) (h : LR P 0 st v) (hl : l < P) : LR P 0 (upd st (22 + l) c) (hideV v l c) := by
  obtain ⟨h1, h2, h3, h4, h5, h7, h8⟩ := h
  refine ⟨fun k hk => ?_, ?_, ?_, ?_, ?_, h7, fun ha k hk => ?_⟩
  · obtain ⟨a1, a2, a3, a4, a5⟩ := h1 k hk
    refine ⟨?_, ?_, ?_, ?_, ?_⟩
    · rw [pk_un (by omega)]; exact a1
    · rw [pk_un (by omega)]; exact a2
    · rw [pk_un (by omega)]; exact a3
    · show _ = upd (Lives_hidden v) l c k
      by_cases e : k = l
      · subst e; rw [show 0 + 22 + k = 22 + k by omega, pk_us, pk_us]
      · rw [pk_un (by omega), pk_un e]; exact a4
    · rw [pk_un (by omega)]; exact a5
  · rw [pk_un (by omega)]; exact h2
  · rw [pk_un (by omega)]; exact h3
  · rw [pk_un (by omega)]; exact h4
  · rw [pk_un (by omega)]; exact h5
  · rw [pk_un (by omega), pk_un (by omega)]; exact h8 ha k hk
theorem LI_hide {P l n : Nat} {v : VLives} (h : LI P v) (hn : n ≤ 9999) : LI P (hideV v l (nI n)) := by
  obtain ⟨h1, h2, h3, h4, h5, h6⟩ := h
  refine ⟨h1, fun k hk => ?_, h3, h4, h5, h6.1, h6.2⟩
  show ∃ m, m ≤ 9999 ∧ upd (Lives_hidden v) l (nI n) k = nI m
  by_cases e : k = l
  · subst e; rw [pk_us]; exact ⟨n, hn, rfl⟩
  · rw [pk_un e]; exact h2 k hk
theorem m_hide {N : Nat} (hN : 10000 ≤ N) {v0 : VBl} {v1 : VTape} {v2 : VTown} {v3 : VLaws} {v4 : VReader} {v5 : VTown} {v6 : VLaws} {v7 : VYear} {v8 : VYear} {v9 : VLots} {v10 : VLives} {v11 : VLives} {v13 : VTales} {v17 : VForecast} {v18 : VLives} {v19 : VDeeds} {v20 : VPairs} {und mls : Nat → VLives} {mts : Nat → VTales} {w : VR} {P L g : Nat} (h : RELx P L g v0 v1 v2 v3 v7 v9 v10 v13 v17 und mls mts w) (a1 a2 : Int32) : Ev (f_Bl_hide N v0 v1 v2 v3 v4 v5 v6 v7 v8 v9 v10 v11 v13 v17 v18 v19 v20 und mls mts a1 a2) (fun r => Ev (f_R_hide N w a1 a2) (fun q => r.1 = q.1 ∧ q.2.1 = 0 ∧ RELx P L g (r.2.2.1, r.2.2.2.1, Bl_laid v0) v1 v2 v3 v7 v9 (Lives_hidden_s v10 r.2.2.2.2.1) v13 (Forecast_s_ready_prepared v17 r.2.2.2.2.2.1 r.2.2.2.2.2.2) r.2.1 mls mts (R_s_thrown_state_undos w q.2.1 q.2.2.1 q.2.2.2))) := by
  have hh := h
  obtain ⟨⟨hT, hB, hG, hD⟩, hl, ⟨hR, hI⟩, hta, htl, hu, hm, hpl, hf⟩ := h
  have hP := hT.1
  have h6 := hT.1.2
  have hT' : townR (R_thrown_s w 0) v2 v3 P := hT
  obtain ⟨u, q, hu1, hq1, hu2, hu3, hq2, hu4⟩ := hu
  have ha := hR.2.2.2.2.2.1
  have r0 : R_state w 0 = Lives_away v10 := hR.2.1
  unfold f_Bl_hide
  refine Ev.bnx (keepForUndo_ev hq1 hq2 ha) ?_
  rintro un ⟨hn1, hn2⟩
  have no : f_Lives_hideCoins N v10 v2 v3 a1 a2 = some (0, Lives_hidden v10) → f_R_hide N w a1 a2 = some (0, 0, R_state w, R_undos w) → Ev ((f_Lives_hideCoins N v10 v2 v3 a1 a2).bind fun q2 => (f_Bl_byHand N v0 v1 v2 v3 v4 v5 v6 v7 v8 v9 (Lives_hidden_s v10 q2.2) v11 v13 v17 v18 v19 v20 un mls mts q2.1).bind fun q3 => if q3.1 = 0 ∨ q3.1 = 1 then some (q3.1, un, q3.2.1, q3.2.2.1, q2.2, q3.2.2.2.1, q3.2.2.2.2) else none) (fun r => Ev (f_R_hide N w a1 a2) (fun q => r.1 = q.1 ∧ q.2.1 = 0 ∧ RELx P L g (r.2.2.1, r.2.2.2.1, Bl_laid v0) v1 v2 v3 v7 v9 (Lives_hidden_s v10 r.2.2.2.2.1) v13 (Forecast_s_ready_prepared v17 r.2.2.2.2.2.1 r.2.2.2.2.2.2) r.2.1 mls mts (R_s_thrown_state_undos w q.2.1 q.2.2.1 q.2.2.2))) := by
    intro e e2
    have hb := byHand_no (N := N) (v0 := v0) (v1 := v1) (v2 := v2) (v3 := v3) (v4 := v4) (v5 := v5) (v6 := v6) (v7 := v7) (v8 := v8) (v9 := v9) (v10 := Lives_hidden_s v10 (Lives_hidden v10)) (v11 := v11) (v13 := v13) (v17 := v17) (v18 := v18) (v19 := v19) (v20 := v20) (und := un) (mls := mls) (mts := mts)
    repeat (first | (with_reducible refine Ev.letE ?_) | (with_reducible refine Ev.ifn ?_ ?_; · (first | with_reducible assumption | decide | (simp (disch := omega) only [zlit, nI_add, pk_mul, pk_sub, zsubm, nI_clamp, nI_leI, nI_ltI, nI_eq, zeqF, Nat.reduceEqDiff, zleF, zleT, zltF, zltT, zneg1, zneg1L, zneg2, zneg0, eq_self, or_self, false_or, or_false, Nat.not_lt_zero, not_false_eq_true, not_true_eq_false]; done))) | (with_reducible refine Ev.ifp ?_ ?_; · (first | with_reducible assumption | decide | (simp (disch := omega) only [zlit, nI_add, pk_mul, pk_sub, zsubm, nI_clamp, nI_leI, nI_ltI, nI_eq, zeqF, Nat.reduceEqDiff, zleF, zleT, zltF, zltT, zneg1, zneg1L, zneg2, zneg0, eq_self, or_self, false_or, or_false, Nat.not_lt_zero, not_false_eq_true, not_true_eq_false]; done))) | (with_reducible refine Ev.bnd (e) ?_) | (with_reducible refine Ev.bnd (hb) ?_) | (with_reducible refine Ev.bnd (x := some _) rfl ?_))
    exact Ev.ret (Ev.of e2 ⟨rfl, rfl, hand_no (w' := R_s_thrown_state_undos w 0 (R_state w) (R_undos w)) hh hq1 hq2 hn2 ⟨rfl, rfl, rfl, rfl, rfl, rfl, rfl, rfl, rfl, rfl, rfl, rfl, rfl⟩ rfl rfl⟩)
  rcases isPerson_both (N := N) hT' a1 with ⟨e1, e2⟩ | ⟨l, hl2, rfl, e1, e2⟩
  · refine no ?_ ?_
    · unfold f_Lives_hideCoins
      by_cases hz : Lives_away v10 = 0
      · repeat (first | (with_reducible refine zletE ?_) | (with_reducible refine zifn ?_ ?_; · (first | with_reducible assumption | decide | (simp (disch := omega) only [zlit, nI_add, pk_mul, pk_sub, zsubm, nI_clamp, nI_leI, nI_ltI, nI_eq, zeqF, Nat.reduceEqDiff, zleF, zleT, zltF, zltT, zneg1, zneg1L, zneg2, zneg0, eq_self, or_self, false_or, or_false, Nat.not_lt_zero, not_false_eq_true, not_true_eq_false]; done))) | (with_reducible refine zifp ?_ ?_; · (first | with_reducible assumption | decide | (simp (disch := omega) only [zlit, nI_add, pk_mul, pk_sub, zsubm, nI_clamp, nI_leI, nI_ltI, nI_eq, zeqF, Nat.reduceEqDiff, zleF, zleT, zltF, zltT, zneg1, zneg1L, zneg2, zneg0, eq_self, or_self, false_or, or_false, Nat.not_lt_zero, not_false_eq_true, not_true_eq_false]; done))) | (with_reducible refine bnd (e1) ?_) | (with_reducible refine bnd (x := some _) rfl ?_))
        rfl
      · repeat (first | (with_reducible refine zletE ?_) | (with_reducible refine zifn ?_ ?_; · (first | with_reducible assumption | decide | (simp (disch := omega) only [zlit, nI_add, pk_mul, pk_sub, zsubm, nI_clamp, nI_leI, nI_ltI, nI_eq, zeqF, Nat.reduceEqDiff, zleF, zleT, zltF, zltT, zneg1, zneg1L, zneg2, zneg0, eq_self, or_self, false_or, or_false, Nat.not_lt_zero, not_false_eq_true, not_true_eq_false]; done))) | (with_reducible refine zifp ?_ ?_; · (first | with_reducible assumption | decide | (simp (disch := omega) only [zlit, nI_add, pk_mul, pk_sub, zsubm, nI_clamp, nI_leI, nI_ltI, nI_eq, zeqF, Nat.reduceEqDiff, zleF, zleT, zltF, zltT, zneg1, zneg1L, zneg2, zneg0, eq_self, or_self, false_or, or_false, Nat.not_lt_zero, not_false_eq_true, not_true_eq_false]; done))) | (with_reducible refine bnd (x := some _) rfl ?_))
        rfl
    · unfold f_R_hide
      repeat (first | (with_reducible refine zletE ?_) | (with_reducible refine zifn ?_ ?_; · (first | with_reducible assumption | decide | (simp (disch := omega) only [zlit, nI_add, pk_mul, pk_sub, zsubm, nI_clamp, nI_leI, nI_ltI, nI_eq, zeqF, Nat.reduceEqDiff, zleF, zleT, zltF, zltT, zneg1, zneg1L, zneg2, zneg0, eq_self, or_self, false_or, or_false, Nat.not_lt_zero, not_false_eq_true, not_true_eq_false]; done))) | (with_reducible refine zifp ?_ ?_; · (first | with_reducible assumption | decide | (simp (disch := omega) only [zlit, nI_add, pk_mul, pk_sub, zsubm, nI_clamp, nI_leI, nI_ltI, nI_eq, zeqF, Nat.reduceEqDiff, zleF, zleT, zltF, zltT, zneg1, zneg1L, zneg2, zneg0, eq_self, or_self, false_or, or_false, Nat.not_lt_zero, not_false_eq_true, not_true_eq_false]; done))) | (with_reducible refine bnd (e2) ?_) | (with_reducible refine bnd (x := some _) rfl ?_))
      rfl
  · by_cases w1 : a2 < 0 ∨ 999 < a2
    · refine no ?_ ?_
      · unfold f_Lives_hideCoins
        by_cases hz : Lives_away v10 = 0
        · rcases w1 with w1 | w1
          · repeat (first | (with_reducible refine zletE ?_) | (with_reducible refine zifn ?_ ?_; · (first | with_reducible assumption | decide | (simp (disch := omega) only [zlit, nI_add, pk_mul, pk_sub, zsubm, nI_clamp, nI_leI, nI_ltI, nI_eq, zeqF, Nat.reduceEqDiff, zleF, zleT, zltF, zltT, zneg1, zneg1L, zneg2, zneg0, eq_self, or_self, false_or, or_false, Nat.not_lt_zero, not_false_eq_true, not_true_eq_false]; done))) | (with_reducible refine zifp ?_ ?_; · (first | with_reducible assumption | decide | (simp (disch := omega) only [zlit, nI_add, pk_mul, pk_sub, zsubm, nI_clamp, nI_leI, nI_ltI, nI_eq, zeqF, Nat.reduceEqDiff, zleF, zleT, zltF, zltT, zneg1, zneg1L, zneg2, zneg0, eq_self, or_self, false_or, or_false, Nat.not_lt_zero, not_false_eq_true, not_true_eq_false]; done))) | (with_reducible refine bnd (e1) ?_) | (with_reducible refine bnd (x := some _) rfl ?_))
            rfl
          · have w2 : ¬ a2 < 0 := by grind
            repeat (first | (with_reducible refine zletE ?_) | (with_reducible refine zifn ?_ ?_; · (first | with_reducible assumption | decide | (simp (disch := omega) only [zlit, nI_add, pk_mul, pk_sub, zsubm, nI_clamp, nI_leI, nI_ltI, nI_eq, zeqF, Nat.reduceEqDiff, zleF, zleT, zltF, zltT, zneg1, zneg1L, zneg2, zneg0, eq_self, or_self, false_or, or_false, Nat.not_lt_zero, not_false_eq_true, not_true_eq_false]; done))) | (with_reducible refine zifp ?_ ?_; · (first | with_reducible assumption | decide | (simp (disch := omega) only [zlit, nI_add, pk_mul, pk_sub, zsubm, nI_clamp, nI_leI, nI_ltI, nI_eq, zeqF, Nat.reduceEqDiff, zleF, zleT, zltF, zltT, zneg1, zneg1L, zneg2, zneg0, eq_self, or_self, false_or, or_false, Nat.not_lt_zero, not_false_eq_true, not_true_eq_false]; done))) | (with_reducible refine bnd (e1) ?_) | (with_reducible refine bnd (x := some _) rfl ?_))
            rfl
        · repeat (first | (with_reducible refine zletE ?_) | (with_reducible refine zifn ?_ ?_; · (first | with_reducible assumption | decide | (simp (disch := omega) only [zlit, nI_add, pk_mul, pk_sub, zsubm, nI_clamp, nI_leI, nI_ltI, nI_eq, zeqF, Nat.reduceEqDiff, zleF, zleT, zltF, zltT, zneg1, zneg1L, zneg2, zneg0, eq_self, or_self, false_or, or_false, Nat.not_lt_zero, not_false_eq_true, not_true_eq_false]; done))) | (with_reducible refine zifp ?_ ?_; · (first | with_reducible assumption | decide | (simp (disch := omega) only [zlit, nI_add, pk_mul, pk_sub, zsubm, nI_clamp, nI_leI, nI_ltI, nI_eq, zeqF, Nat.reduceEqDiff, zleF, zleT, zltF, zltT, zneg1, zneg1L, zneg2, zneg0, eq_self, or_self, false_or, or_false, Nat.not_lt_zero, not_false_eq_true, not_true_eq_false]; done))) | (with_reducible refine bnd (x := some _) rfl ?_))
          rfl
      · unfold f_R_hide
        repeat (first | (with_reducible refine zletE ?_) | (with_reducible refine zifn ?_ ?_; · (first | with_reducible assumption | decide | (simp (disch := omega) only [zlit, nI_add, pk_mul, pk_sub, zsubm, nI_clamp, nI_leI, nI_ltI, nI_eq, zeqF, Nat.reduceEqDiff, zleF, zleT, zltF, zltT, zneg1, zneg1L, zneg2, zneg0, eq_self, or_self, false_or, or_false, Nat.not_lt_zero, not_false_eq_true, not_true_eq_false]; done))) | (with_reducible refine zifp ?_ ?_; · (first | with_reducible assumption | decide | (simp (disch := omega) only [zlit, nI_add, pk_mul, pk_sub, zsubm, nI_clamp, nI_leI, nI_ltI, nI_eq, zeqF, Nat.reduceEqDiff, zleF, zleT, zltF, zltT, zneg1, zneg1L, zneg2, zneg0, eq_self, or_self, false_or, or_false, Nat.not_lt_zero, not_false_eq_true, not_true_eq_false]; done))) | (with_reducible refine bnd (e2) ?_) | (with_reducible refine bnd (within_no w1) ?_) | (with_reducible refine bnd (x := some _) rfl ?_))
        rfl
    · obtain ⟨w2, w3⟩ := not_or.mp w1
      obtain ⟨c, hc, rfl⟩ := nI_of w2
      have hc9 : c ≤ 999 := by
        rw [show (999 : Int32) = nI 999 from rfl, nI_ltI (by omega) (by omega)] at w3
        omega
      obtain ⟨⟨pn, hpn, hpe⟩, -⟩ := hI.1 l hl2
      have hpe : Lives_purse v10 l = nI pn := hpe
      have s1 : R_state w (0 + 4 + l) = Lives_purse v10 l := (hR.1 l hl2).1
      have i1 : Int32.toNatClampNeg ((0 + 4) + nI l) = 0 + 4 + l := ix (b := 0) (c := 4) (by omega)
      have hmh : Lives_away v10 = 0 → f_R_mayHide N (R_thrown_s w 0) 0 (nI l) (nI c) = some (if pn < c then 0 else 1) := by
        intro hz
        unfold f_R_mayHide
        rw [show R_state (R_thrown_s w 0) = R_state w from rfl, show Int32.toNatClampNeg (0 + 0) = 0 from rfl, i1, s1, r0, hpe]
        by_cases hlt : pn < c
        · rw [if_pos hlt]
          repeat (first | (with_reducible refine zletE ?_) | (with_reducible refine zifn ?_ ?_; · (first | with_reducible assumption | decide | (simp (disch := omega) only [zlit, nI_add, pk_mul, pk_sub, zsubm, nI_clamp, nI_leI, nI_ltI, nI_eq, zeqF, Nat.reduceEqDiff, zleF, zleT, zltF, zltT, zneg1, zneg1L, zneg2, zneg0, eq_self, or_self, false_or, or_false, Nat.not_lt_zero, not_false_eq_true, not_true_eq_false]; done))) | (with_reducible refine zifp ?_ ?_; · (first | with_reducible assumption | decide | (simp (disch := omega) only [zlit, nI_add, pk_mul, pk_sub, zsubm, nI_clamp, nI_leI, nI_ltI, nI_eq, zeqF, Nat.reduceEqDiff, zleF, zleT, zltF, zltT, zneg1, zneg1L, zneg2, zneg0, eq_self, or_self, false_or, or_false, Nat.not_lt_zero, not_false_eq_true, not_true_eq_false]; done))) | (with_reducible refine bnd (x := some _) rfl ?_))
          rfl
        · rw [if_neg hlt]
          repeat (first | (with_reducible refine zletE ?_) | (with_reducible refine zifn ?_ ?_; · (first | with_reducible assumption | decide | (simp (disch := omega) only [zlit, nI_add, pk_mul, pk_sub, zsubm, nI_clamp, nI_leI, nI_ltI, nI_eq, zeqF, Nat.reduceEqDiff, zleF, zleT, zltF, zltT, zneg1, zneg1L, zneg2, zneg0, eq_self, or_self, false_or, or_false, Nat.not_lt_zero, not_false_eq_true, not_true_eq_false]; done))) | (with_reducible refine zifp ?_ ?_; · (first | with_reducible assumption | decide | (simp (disch := omega) only [zlit, nI_add, pk_mul, pk_sub, zsubm, nI_clamp, nI_leI, nI_ltI, nI_eq, zeqF, Nat.reduceEqDiff, zleF, zleT, zltF, zltT, zneg1, zneg1L, zneg2, zneg0, eq_self, or_self, false_or, or_false, Nat.not_lt_zero, not_false_eq_true, not_true_eq_false]; done))) | (with_reducible refine bnd (x := some _) rfl ?_))
          rfl
      by_cases hz : Lives_away v10 = 0
      · by_cases hlt : pn < c
        · have hmh := hmh hz
          rw [if_pos hlt] at hmh
          refine no ?_ ?_
          · unfold f_Lives_hideCoins
            rw [nI_clamp (n := l) (by omega), hpe]
            repeat (first | (with_reducible refine zletE ?_) | (with_reducible refine zifn ?_ ?_; · (first | with_reducible assumption | decide | (simp (disch := omega) only [zlit, nI_add, pk_mul, pk_sub, zsubm, nI_clamp, nI_leI, nI_ltI, nI_eq, zeqF, Nat.reduceEqDiff, zleF, zleT, zltF, zltT, zneg1, zneg1L, zneg2, zneg0, eq_self, or_self, false_or, or_false, Nat.not_lt_zero, not_false_eq_true, not_true_eq_false]; done))) | (with_reducible refine zifp ?_ ?_; · (first | with_reducible assumption | decide | (simp (disch := omega) only [zlit, nI_add, pk_mul, pk_sub, zsubm, nI_clamp, nI_leI, nI_ltI, nI_eq, zeqF, Nat.reduceEqDiff, zleF, zleT, zltF, zltT, zneg1, zneg1L, zneg2, zneg0, eq_self, or_self, false_or, or_false, Nat.not_lt_zero, not_false_eq_true, not_true_eq_false]; done))) | (with_reducible refine bnd (e1) ?_) | (with_reducible refine bnd (x := some _) rfl ?_))
            rfl
          · unfold f_R_hide
            repeat (first | (with_reducible refine zletE ?_) | (with_reducible refine zifn ?_ ?_; · (first | with_reducible assumption | decide | (simp (disch := omega) only [zlit, nI_add, pk_mul, pk_sub, zsubm, nI_clamp, nI_leI, nI_ltI, nI_eq, zeqF, Nat.reduceEqDiff, zleF, zleT, zltF, zltT, zneg1, zneg1L, zneg2, zneg0, eq_self, or_self, false_or, or_false, Nat.not_lt_zero, not_false_eq_true, not_true_eq_false]; done))) | (with_reducible refine zifp ?_ ?_; · (first | with_reducible assumption | decide | (simp (disch := omega) only [zlit, nI_add, pk_mul, pk_sub, zsubm, nI_clamp, nI_leI, nI_ltI, nI_eq, zeqF, Nat.reduceEqDiff, zleF, zleT, zltF, zltT, zneg1, zneg1L, zneg2, zneg0, eq_self, or_self, false_or, or_false, Nat.not_lt_zero, not_false_eq_true, not_true_eq_false]; done))) | (with_reducible refine bnd (e2) ?_) | (with_reducible refine bnd (within_yes w2 w3) ?_) | (with_reducible refine bnd (hmh) ?_) | (with_reducible refine bnd (x := some _) rfl ?_))
            rfl
        · have hmh := hmh hz
          rw [if_neg hlt] at hmh
          have hhc : f_Lives_hideCoins N v10 v2 v3 (nI l) (nI c) = some (1, upd (Lives_hidden v10) l (nI c)) := by
            unfold f_Lives_hideCoins
            rw [nI_clamp (n := l) (by omega), hpe]
            repeat (first | (with_reducible refine zletE ?_) | (with_reducible refine zifn ?_ ?_; · (first | with_reducible assumption | decide | (simp (disch := omega) only [zlit, nI_add, pk_mul, pk_sub, zsubm, nI_clamp, nI_leI, nI_ltI, nI_eq, zeqF, Nat.reduceEqDiff, zleF, zleT, zltF, zltT, zneg1, zneg1L, zneg2, zneg0, eq_self, or_self, false_or, or_false, Nat.not_lt_zero, not_false_eq_true, not_true_eq_false]; done))) | (with_reducible refine zifp ?_ ?_; · (first | with_reducible assumption | decide | (simp (disch := omega) only [zlit, nI_add, pk_mul, pk_sub, zsubm, nI_clamp, nI_leI, nI_ltI, nI_eq, zeqF, Nat.reduceEqDiff, zleF, zleT, zltF, zltT, zneg1, zneg1L, zneg2, zneg0, eq_self, or_self, false_or, or_false, Nat.not_lt_zero, not_false_eq_true, not_true_eq_false]; done))) | (with_reducible refine bnd (e1) ?_) | (with_reducible refine bnd (x := some _) rfl ?_))
            rfl
          have hb := byHand_yes (N := N) (v0 := v0) (v1 := v1) (v2 := v2) (v3 := v3) (v4 := v4) (v5 := v5) (v6 := v6) (v7 := v7) (v8 := v8) (v9 := v9) (v10 := Lives_hidden_s v10 (upd (Lives_hidden v10) l (nI c))) (v11 := v11) (v13 := v13) (v17 := v17) (v18 := v18) (v19 := v19) (v20 := v20) (und := un) (mls := mls) (mts := mts) hq1 hu1 hq2 hu2
          repeat (first | (with_reducible refine Ev.letE ?_) | (with_reducible refine Ev.ifn ?_ ?_; · (first | with_reducible assumption | decide | (simp (disch := omega) only [zlit, nI_add, pk_mul, pk_sub, zsubm, nI_clamp, nI_leI, nI_ltI, nI_eq, zeqF, Nat.reduceEqDiff, zleF, zleT, zltF, zltT, zneg1, zneg1L, zneg2, zneg0, eq_self, or_self, false_or, or_false, Nat.not_lt_zero, not_false_eq_true, not_true_eq_false]; done))) | (with_reducible refine Ev.ifp ?_ ?_; · (first | with_reducible assumption | decide | (simp (disch := omega) only [zlit, nI_add, pk_mul, pk_sub, zsubm, nI_clamp, nI_leI, nI_ltI, nI_eq, zeqF, Nat.reduceEqDiff, zleF, zleT, zltF, zltT, zneg1, zneg1L, zneg2, zneg0, eq_self, or_self, false_or, or_false, Nat.not_lt_zero, not_false_eq_true, not_true_eq_false]; done))) | (with_reducible refine Ev.bnd (hhc) ?_) | (with_reducible refine Ev.bnd (hb) ?_) | (with_reducible refine Ev.bnd (x := some _) rfl ?_))
          refine Ev.ret ?_
          unfold f_R_hide
          repeat (first | (with_reducible refine Ev.letE ?_) | (with_reducible refine Ev.ifn ?_ ?_; · (first | with_reducible assumption | decide | (simp (disch := omega) only [zlit, nI_add, pk_mul, pk_sub, zsubm, nI_clamp, nI_leI, nI_ltI, nI_eq, zeqF, Nat.reduceEqDiff, zleF, zleT, zltF, zltT, zneg1, zneg1L, zneg2, zneg0, eq_self, or_self, false_or, or_false, Nat.not_lt_zero, not_false_eq_true, not_true_eq_false]; done))) | (with_reducible refine Ev.ifp ?_ ?_; · (first | with_reducible assumption | decide | (simp (disch := omega) only [zlit, nI_add, pk_mul, pk_sub, zsubm, nI_clamp, nI_leI, nI_ltI, nI_eq, zeqF, Nat.reduceEqDiff, zleF, zleT, zltF, zltT, zneg1, zneg1L, zneg2, zneg0, eq_self, or_self, false_or, or_false, Nat.not_lt_zero, not_false_eq_true, not_true_eq_false]; done))) | (with_reducible refine Ev.bnd (e2) ?_) | (with_reducible refine Ev.bnd (within_yes w2 w3) ?_) | (with_reducible refine Ev.bnd (hmh) ?_) | (with_reducible refine Ev.bnd (x := some _) rfl ?_))
          refine Ev.bnx (keeps_ev hN (w := R_thrown_s w 0) hu1 hu3) ?_
          intro k hk
          rw [show (22 : Int32) + nI l = nI (22 + l) from nI_add 22 l, nI_clamp (n := 22 + l) (by omega)]
          repeat (first | (with_reducible refine Ev.letE ?_) | (with_reducible refine Ev.ifn ?_ ?_; · (first | with_reducible assumption | decide | (simp (disch := omega) only [zlit, nI_add, pk_mul, pk_sub, zsubm, nI_clamp, nI_leI, nI_ltI, nI_eq, zeqF, Nat.reduceEqDiff, zleF, zleT, zltF, zltT, zneg1, zneg1L, zneg2, zneg0, eq_self, or_self, false_or, or_false, Nat.not_lt_zero, not_false_eq_true, not_true_eq_false]; done))) | (with_reducible refine Ev.ifp ?_ ?_; · (first | with_reducible assumption | decide | (simp (disch := omega) only [zlit, nI_add, pk_mul, pk_sub, zsubm, nI_clamp, nI_leI, nI_ltI, nI_eq, zeqF, Nat.reduceEqDiff, zleF, zleT, zltF, zltT, zneg1, zneg1L, zneg2, zneg0, eq_self, or_self, false_or, or_false, Nat.not_lt_zero, not_false_eq_true, not_true_eq_false]; done))) | (with_reducible refine Ev.bnd (x := some _) rfl ?_))
          refine Ev.ret ⟨rfl, rfl, ?_⟩
          have hR2 : LR P 0 k.1 v10 := hR.keep h6 (fun j x y => hk.2.1 j (by omega))
          exact hand_yes (w' := R_s_thrown_state_undos w 0 (upd k.1 (22 + l) (nI c)) k.2) hh hq1 hu1 hq2 hu2 hn1 hn2 hk (LR_hide h6 hR2 hl2) (LI_hide hI (by omega)) (fun j hj => by show upd k.1 (22 + l) (nI c) j = _; rw [pk_un (by omega)]) rfl ⟨rfl, rfl, rfl, rfl, rfl, rfl, rfl, rfl, rfl, rfl, rfl, rfl, rfl⟩ v3 hT
      · refine no ?_ ?_
        · unfold f_Lives_hideCoins
          repeat (first | (with_reducible refine zletE ?_) | (with_reducible refine zifn ?_ ?_; · (first | with_reducible assumption | decide | (simp (disch := omega) only [zlit, nI_add, pk_mul, pk_sub, zsubm, nI_clamp, nI_leI, nI_ltI, nI_eq, zeqF, Nat.reduceEqDiff, zleF, zleT, zltF, zltT, zneg1, zneg1L, zneg2, zneg0, eq_self, or_self, false_or, or_false, Nat.not_lt_zero, not_false_eq_true, not_true_eq_false]; done))) | (with_reducible refine zifp ?_ ?_; · (first | with_reducible assumption | decide | (simp (disch := omega) only [zlit, nI_add, pk_mul, pk_sub, zsubm, nI_clamp, nI_leI, nI_ltI, nI_eq, zeqF, Nat.reduceEqDiff, zleF, zleT, zltF, zltT, zneg1, zneg1L, zneg2, zneg0, eq_self, or_self, false_or, or_false, Nat.not_lt_zero, not_false_eq_true, not_true_eq_false]; done))) | (with_reducible refine bnd (x := some _) rfl ?_))
          rfl
        · have hmh : f_R_mayHide N (R_thrown_s w 0) 0 (nI l) (nI c) = some 0 := by
            unfold f_R_mayHide
            rw [show R_state (R_thrown_s w 0) = R_state w from rfl, show Int32.toNatClampNeg (0 + 0) = 0 from rfl, r0]
            repeat (first | (with_reducible refine zletE ?_) | (with_reducible refine zifn ?_ ?_; · (first | with_reducible assumption | decide | (simp (disch := omega) only [zlit, nI_add, pk_mul, pk_sub, zsubm, nI_clamp, nI_leI, nI_ltI, nI_eq, zeqF, Nat.reduceEqDiff, zleF, zleT, zltF, zltT, zneg1, zneg1L, zneg2, zneg0, eq_self, or_self, false_or, or_false, Nat.not_lt_zero, not_false_eq_true, not_true_eq_false]; done))) | (with_reducible refine zifp ?_ ?_; · (first | with_reducible assumption | decide | (simp (disch := omega) only [zlit, nI_add, pk_mul, pk_sub, zsubm, nI_clamp, nI_leI, nI_ltI, nI_eq, zeqF, Nat.reduceEqDiff, zleF, zleT, zltF, zltT, zneg1, zneg1L, zneg2, zneg0, eq_self, or_self, false_or, or_false, Nat.not_lt_zero, not_false_eq_true, not_true_eq_false]; done))) | (with_reducible refine bnd (x := some _) rfl ?_))
            rfl
          unfold f_R_hide
          repeat (first | (with_reducible refine zletE ?_) | (with_reducible refine zifn ?_ ?_; · (first | with_reducible assumption | decide | (simp (disch := omega) only [zlit, nI_add, pk_mul, pk_sub, zsubm, nI_clamp, nI_leI, nI_ltI, nI_eq, zeqF, Nat.reduceEqDiff, zleF, zleT, zltF, zltT, zneg1, zneg1L, zneg2, zneg0, eq_self, or_self, false_or, or_false, Nat.not_lt_zero, not_false_eq_true, not_true_eq_false]; done))) | (with_reducible refine zifp ?_ ?_; · (first | with_reducible assumption | decide | (simp (disch := omega) only [zlit, nI_add, pk_mul, pk_sub, zsubm, nI_clamp, nI_leI, nI_ltI, nI_eq, zeqF, Nat.reduceEqDiff, zleF, zleT, zltF, zltT, zneg1, zneg1L, zneg2, zneg0, eq_self, or_self, false_or, or_false, Nat.not_lt_zero, not_false_eq_true, not_true_eq_false]; done))) | (with_reducible refine bnd (e2) ?_) | (with_reducible refine bnd (within_yes w2 w3) ?_) | (with_reducible refine bnd (hmh) ?_) | (with_reducible refine bnd (x := some _) rfl ?_))
          rfl
