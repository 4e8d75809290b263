/-! ===== draws ===== -/
theorem lN_and (a b : Nat) : lN a &&& lN b = lN (a &&& b) := by
  apply Int64.toBitVec_inj.1
  show BitVec.ofNat 64 a &&& BitVec.ofNat 64 b = BitVec.ofNat 64 (a &&& b)
  apply BitVec.eq_of_getLsbD_eq
  intro i hi
  simp [hi]
def nxt (n : Nat) : Nat := (n * 1103515245 + 12345) % 2147483648
theorem nxt_lt (n : Nat) : nxt n < 2147483648 := Nat.mod_lt _ (by decide)
theorem nextDraw_ok {N n : Nat} : f_Lots_nextDraw N (lN n) = some (lN (nxt n)) := by
  show some ((lN n * lN 1103515245 + lN 12345) &&& lN 2147483647) = _
  rw [lN_mul, lN_add, lN_and]
  have := Nat.and_two_pow_sub_one_eq_mod (n * 1103515245 + 12345) 31
  rw [show (2147483647 : Nat) = 2 ^ 31 - 1 from rfl, this]
  rfl
theorem drawBelow_ok {N n L : Nat} (hn : n < 2147483648) (hL : 0 < L) (hL2 : L ≤ 9999) : f_Lots_drawBelow N (lN n) (nI L) = some (nI (n / 65536 % L)) := by
  unfold f_Lots_drawBelow
  have e1 : ¬ nI L ≤ 0 := nI_nle hL (by omega)
  have e2 : (nI L).toInt64 = lN L := nI_l (by omega)
  have e3 : ¬ lN L = 0 := fun e => by
    have := (pk_lEQ (b := 0) (by omega) (by decide)).mp e
    omega
  rw [if_neg e1, e2, if_neg e3, show (65536 : Int64) = lN 65536 from rfl, pk_lDiv (by omega) (by decide) (by decide), pk_lRem (by omega) hL (by omega), lN_i]
theorem rdraw_ok {N n L : Nat} {w : VR} (hg : R_g w = lN n) (hn : n < 2147483648) (hL : 0 < L) (hL2 : L ≤ 9999) : f_R_draw N w (nI L) = some (nI (nxt n / 65536 % L), lN (nxt n)) := by
  have h9 := nxt_lt n
  unfold f_R_draw
  have e2 : (nI L).toInt64 = lN L := nI_l (by omega)
  have e3 : ¬ lN L = 0 := fun e => by
    have := (pk_lEQ (b := 0) (by omega) (by decide)).mp e
    omega
  have e4 : (lN n * 1103515245 + 12345) - (lN n * 1103515245 + 12345) / 2147483648 * 2147483648 = lN (nxt n) := by
    show (lN n * lN 1103515245 + lN 12345) - (lN n * lN 1103515245 + lN 12345) / lN 2147483648 * lN 2147483648 = lN (nxt n)
    rw [lN_mul, lN_add, pk_lRem (by omega) (by decide) (by decide)]
    rfl
  rw [e2, if_neg e3, hg, e4, show (65536 : Int64) = lN 65536 from rfl, pk_lDiv (by omega) (by decide) (by decide), pk_lRem (by omega) hL (by omega), lN_i]
/-! ===== lot ===== -/
theorem mayLeave_ok {N : Nat} {w : VR} {v : VLives} {v9 : VLots} {P L b : Nat} (hb : b ≤ 1584) (h : LR P b (R_state w) v) (hl : lotsR w v9 P L) : f_R_mayLeave N w (nI b) = some (if Lives_away v = 0 then (if L = 0 then 0 else 1) else 0) := by
  have hL := hl.2.2.1
  unfold f_R_mayLeave
  rw [show nI b + 0 = nI (b + 0) from nI_add b 0, nI_clamp (n := b + 0) (by omega), h.2.1, hl.1]
  by_cases hz : Lives_away v = 0
  · by_cases hL0 : L = 0
    · have e1 : nI L ≤ 0 := by rw [hL0]; decide
      repeat (first | (with_reducible refine zletE ?_) | (with_reducible refine zifn ?_ ?_; · (first | with_reducible assumption | decide | (simp (disch := omega) only [zlit, nI_add, pk_mul, pk_sub, zsubm, nI_clamp, nI_leI, nI_ltI, nI_eq, zeqF, Nat.reduceEqDiff, zleF, zleT, zltF, zltT, zneg1, zneg1L, zneg2, zneg0, eq_self, or_self, false_or, or_false, Nat.not_lt_zero, not_false_eq_true, not_true_eq_false]; done))) | (with_reducible refine zifp ?_ ?_; · (first | with_reducible assumption | decide | (simp (disch := omega) only [zlit, nI_add, pk_mul, pk_sub, zsubm, nI_clamp, nI_leI, nI_ltI, nI_eq, zeqF, Nat.reduceEqDiff, zleF, zleT, zltF, zltT, zneg1, zneg1L, zneg2, zneg0, eq_self, or_self, false_or, or_false, Nat.not_lt_zero, not_false_eq_true, not_true_eq_false]; done))) | (with_reducible refine bnd (x := some _) rfl ?_))
      rw [if_pos hz, if_pos hL0]
    · repeat (first | (with_reducible refine zletE ?_) | (with_reducible refine zifn ?_ ?_; · (first | with_reducible assumption | decide | (simp (disch := omega) only [zlit, nI_add, pk_mul, pk_sub, zsubm, nI_clamp, nI_leI, nI_ltI, nI_eq, zeqF, Nat.reduceEqDiff, zleF, zleT, zltF, zltT, zneg1, zneg1L, zneg2, zneg0, eq_self, or_self, false_or, or_false, Nat.not_lt_zero, not_false_eq_true, not_true_eq_false]; done))) | (with_reducible refine zifp ?_ ?_; · (first | with_reducible assumption | decide | (simp (disch := omega) only [zlit, nI_add, pk_mul, pk_sub, zsubm, nI_clamp, nI_leI, nI_ltI, nI_eq, zeqF, Nat.reduceEqDiff, zleF, zleT, zltF, zltT, zneg1, zneg1L, zneg2, zneg0, eq_self, or_self, false_or, or_false, Nat.not_lt_zero, not_false_eq_true, not_true_eq_false]; done))) | (with_reducible refine bnd (x := some _) rfl ?_))
      rw [if_pos hz, if_neg hL0]
  · repeat (first | (with_reducible refine zletE ?_) | (with_reducible refine zifn ?_ ?_; · (first | with_reducible assumption | decide | (simp (disch := omega) only [zlit, nI_add, pk_mul, pk_sub, zsubm, nI_clamp, nI_leI, nI_ltI, nI_eq, zeqF, Nat.reduceEqDiff, zleF, zleT, zltF, zltT, zneg1, zneg1L, zneg2, zneg0, eq_self, or_self, false_or, or_false, Nat.not_lt_zero, not_false_eq_true, not_true_eq_false]; done))) | (with_reducible refine zifp ?_ ?_; · (first | with_reducible assumption | decide | (simp (disch := omega) only [zlit, nI_add, pk_mul, pk_sub, zsubm, nI_clamp, nI_leI, nI_ltI, nI_eq, zeqF, Nat.reduceEqDiff, zleF, zleT, zltF, zltT, zneg1, zneg1L, zneg2, zneg0, eq_self, or_self, false_or, or_false, Nat.not_lt_zero, not_false_eq_true, not_true_eq_false]; done))) | (with_reducible refine bnd (x := some _) rfl ?_))
    rw [if_neg hz]
theorem m_lot {N : Nat} (hN : 10000 ≤ N) {v0 : VBl} {v1 : VTape} {v2 : VTown} {v3 : VLaws} {v4 : VReader} {v5 : VTown} {v6 : VLaws} {v7 : VYear} {v8 : VYear} {v9 : VLots} {v10 : VLives} {v11 : VLives} {v13 : VTales} {v17 : VForecast} {v18 : VLives} {v19 : VDeeds} {v20 : VPairs} {und mls : Nat → VLives} {mts : Nat → VTales} {w : VR} {P L g : Nat} (h : RELx P L g v0 v1 v2 v3 v7 v9 v10 v13 v17 und mls mts w) (a1 : Int32) : Ev (f_Bl_lot N v0 v1 v2 v3 v4 v5 v6 v7 v8 v9 v10 v11 v13 v17 v18 v19 v20 und mls mts a1) (fun r => Ev (f_R_lot N w a1) (fun q => r.1 = q.1 ∧ q.2.1 = 0 ∧ RELx P L g (r.2.2.1, r.2.2.2.1, Bl_laid v0) v1 v2 v3 v7 v9 (Lives_s_self_worthThen_homeThen_away_days v10 r.2.2.2.2.1 r.2.2.2.2.2.1 r.2.2.2.2.2.2.1 r.2.2.2.2.2.2.2.1 r.2.2.2.2.2.2.2.2.1) v13 (Forecast_s_ready_prepared v17 r.2.2.2.2.2.2.2.2.2.1 r.2.2.2.2.2.2.2.2.2.2) r.2.1 mls mts (R_s_thrown_state_undos_g w q.2.1 q.2.2.1 q.2.2.2.1 q.2.2.2.2))) := by
  have hh := h
  obtain ⟨⟨hT, hB, hG, hD⟩, hl, ⟨hR, hI⟩, hta, htl, hu, hm, hpl, hf⟩ := h
  have hP := hT.1
  have h6 := hT.1.2
  have hL := hl.2.2.1
  have hT' : townR (R_thrown_s w 0) v2 v3 P := hT
  obtain ⟨u, q, hu1, hq1, hu2, hu3, hq2, hu4⟩ := hu
  have ha := hR.2.2.2.2.2.1
  by_cases w1 : a1 < 0 ∨ 9999 < a1
  · unfold f_Bl_lot f_R_lot
    have hw : f_R_within N a1 0 9999 = some 0 := within_no w1
    have hx := hand_no (w' := R_s_thrown_state_undos_g w 0 (R_state w) (R_undos w) (R_g w)) hh hq1 hq2 (un := und) (fun _ _ => rfl) ⟨rfl, rfl, rfl, rfl, rfl, rfl, rfl, rfl, rfl, rfl, rfl, rfl, rfl⟩ rfl rfl
    rcases w1 with w1 | w1
    · repeat (first | (with_reducible refine Ev.letE ?_) | (with_reducible refine Ev.ifn ?_ ?_; · (first | with_reducible assumption | decide | (simp (disch := omega) only [zlit, nI_add, pk_mul, pk_sub, zsubm, nI_clamp, nI_leI, nI_ltI, nI_eq, zeqF, Nat.reduceEqDiff, zleF, zleT, zltF, zltT, zneg1, zneg1L, zneg2, zneg0, eq_self, or_self, false_or, or_false, Nat.not_lt_zero, not_false_eq_true, not_true_eq_false]; done))) | (with_reducible refine Ev.ifp ?_ ?_; · (first | with_reducible assumption | decide | (simp (disch := omega) only [zlit, nI_add, pk_mul, pk_sub, zsubm, nI_clamp, nI_leI, nI_ltI, nI_eq, zeqF, Nat.reduceEqDiff, zleF, zleT, zltF, zltT, zneg1, zneg1L, zneg2, zneg0, eq_self, or_self, false_or, or_false, Nat.not_lt_zero, not_false_eq_true, not_true_eq_false]; done))) | (with_reducible refine Ev.bnd (x := some _) rfl ?_))
      refine Ev.ret ?_
      repeat (first | (with_reducible refine Ev.letE ?_) | (with_reducible refine Ev.ifn ?_ ?_; · (first | with_reducible assumption | decide | (simp (disch := omega) only [zlit, nI_add, pk_mul, pk_sub, zsubm, nI_clamp, nI_leI, nI_ltI, nI_eq, zeqF, Nat.reduceEqDiff, zleF, zleT, zltF, zltT, zneg1, zneg1L, zneg2, zneg0, eq_self, or_self, false_or, or_false, Nat.not_lt_zero, not_false_eq_true, not_true_eq_false]; done))) | (with_reducible refine Ev.ifp ?_ ?_; · (first | with_reducible assumption | decide | (simp (disch := omega) only [zlit, nI_add, pk_mul, pk_sub, zsubm, nI_clamp, nI_leI, nI_ltI, nI_eq, zeqF, Nat.reduceEqDiff, zleF, zleT, zltF, zltT, zneg1, zneg1L, zneg2, zneg0, eq_self, or_self, false_or, or_false, Nat.not_lt_zero, not_false_eq_true, not_true_eq_false]; done))) | (with_reducible refine Ev.bnd (hw) ?_) | (with_reducible refine Ev.bnd (x := some _) rfl ?_))
      exact Ev.ret ⟨rfl, rfl, hx⟩
    · have w2 : ¬ a1 < 0 := by grind
      have w3 : ¬ a1 ≤ 9999 := by grind
      repeat (first | (with_reducible refine Ev.letE ?_) | (with_reducible refine Ev.ifn ?_ ?_; · (first | with_reducible assumption | decide | (simp (disch := omega) only [zlit, nI_add, pk_mul, pk_sub, zsubm, nI_clamp, nI_leI, nI_ltI, nI_eq, zeqF, Nat.reduceEqDiff, zleF, zleT, zltF, zltT, zneg1, zneg1L, zneg2, zneg0, eq_self, or_self, false_or, or_false, Nat.not_lt_zero, not_false_eq_true, not_true_eq_false]; done))) | (with_reducible refine Ev.ifp ?_ ?_; · (first | with_reducible assumption | decide | (simp (disch := omega) only [zlit, nI_add, pk_mul, pk_sub, zsubm, nI_clamp, nI_leI, nI_ltI, nI_eq, zeqF, Nat.reduceEqDiff, zleF, zleT, zltF, zltT, zneg1, zneg1L, zneg2, zneg0, eq_self, or_self, false_or, or_false, Nat.not_lt_zero, not_false_eq_true, not_true_eq_false]; done))) | (with_reducible refine Ev.bnd (x := some _) rfl ?_))
      refine Ev.ret ?_
      repeat (first | (with_reducible refine Ev.letE ?_) | (with_reducible refine Ev.ifn ?_ ?_; · (first | with_reducible assumption | decide | (simp (disch := omega) only [zlit, nI_add, pk_mul, pk_sub, zsubm, nI_clamp, nI_leI, nI_ltI, nI_eq, zeqF, Nat.reduceEqDiff, zleF, zleT, zltF, zltT, zneg1, zneg1L, zneg2, zneg0, eq_self, or_self, false_or, or_false, Nat.not_lt_zero, not_false_eq_true, not_true_eq_false]; done))) | (with_reducible refine Ev.ifp ?_ ?_; · (first | with_reducible assumption | decide | (simp (disch := omega) only [zlit, nI_add, pk_mul, pk_sub, zsubm, nI_clamp, nI_leI, nI_ltI, nI_eq, zeqF, Nat.reduceEqDiff, zleF, zleT, zltF, zltT, zneg1, zneg1L, zneg2, zneg0, eq_self, or_self, false_or, or_false, Nat.not_lt_zero, not_false_eq_true, not_true_eq_false]; done))) | (with_reducible refine Ev.bnd (hw) ?_) | (with_reducible refine Ev.bnd (x := some _) rfl ?_))
      exact Ev.ret ⟨rfl, rfl, hx⟩
  · obtain ⟨w2, w3⟩ := not_or.mp w1
    have w4 : a1 ≤ 9999 := by grind
    obtain ⟨c, hc, rfl⟩ := nI_of w2
    have hc9 : c ≤ 9999 := by
      rw [show (9999 : Int32) = nI 9999 from rfl, nI_ltI (by omega) (by omega)] at w3
      omega
    unfold f_Bl_lot
    repeat (first | (with_reducible refine Ev.letE ?_) | (with_reducible refine Ev.ifn ?_ ?_; · (first | with_reducible assumption | decide | (simp (disch := omega) only [zlit, nI_add, pk_mul, pk_sub, zsubm, nI_clamp, nI_leI, nI_ltI, nI_eq, zeqF, Nat.reduceEqDiff, zleF, zleT, zltF, zltT, zneg1, zneg1L, zneg2, zneg0, eq_self, or_self, false_or, or_false, Nat.not_lt_zero, not_false_eq_true, not_true_eq_false]; done))) | (with_reducible refine Ev.ifp ?_ ?_; · (first | with_reducible assumption | decide | (simp (disch := omega) only [zlit, nI_add, pk_mul, pk_sub, zsubm, nI_clamp, nI_leI, nI_ltI, nI_eq, zeqF, Nat.reduceEqDiff, zleF, zleT, zltF, zltT, zneg1, zneg1L, zneg2, zneg0, eq_self, or_self, false_or, or_false, Nat.not_lt_zero, not_false_eq_true, not_true_eq_false]; done))) | (with_reducible refine Ev.bnd (x := some _) rfl ?_))
    refine Ev.bnx (keepForUndo_ev hq1 hq2 ha) ?_
    rintro un ⟨hn1, hn2⟩
    have hml := mayLeave_ok (N := N) (w := R_thrown_s w 0) (v := v10) (v9 := v9) (P := P) (L := L) (b := 0) (by omega) hR hl
    have hml : f_R_mayLeave N (R_thrown_s w 0) 0 = some (if Lives_away v10 = 0 then (if L = 0 then 0 else 1) else 0) := hml
    have hwi : f_R_within N (nI c) 0 9999 = some 1 := within_yes w2 w3
    by_cases hz : Lives_away v10 = 0
    · by_cases hL0 : L = 0
      · rw [if_pos hz, if_pos hL0] at hml
        have hd : f_Lives_drawLot N v10 v2 v3 v9 (nI c) = some (-1, Lives_self v10, Lives_worthThen v10, Lives_homeThen v10, Lives_away v10, Lives_days v10) := by
          unfold f_Lives_drawLot
          rw [hl.2.1, hL0]
          repeat (first | (with_reducible refine zletE ?_) | (with_reducible refine zifn ?_ ?_; · (first | with_reducible assumption | decide | (simp (disch := omega) only [zlit, nI_add, pk_mul, pk_sub, zsubm, nI_clamp, nI_leI, nI_ltI, nI_eq, zeqF, Nat.reduceEqDiff, zleF, zleT, zltF, zltT, zneg1, zneg1L, zneg2, zneg0, eq_self, or_self, false_or, or_false, Nat.not_lt_zero, not_false_eq_true, not_true_eq_false]; done))) | (with_reducible refine zifp ?_ ?_; · (first | with_reducible assumption | decide | (simp (disch := omega) only [zlit, nI_add, pk_mul, pk_sub, zsubm, nI_clamp, nI_leI, nI_ltI, nI_eq, zeqF, Nat.reduceEqDiff, zleF, zleT, zltF, zltT, zneg1, zneg1L, zneg2, zneg0, eq_self, or_self, false_or, or_false, Nat.not_lt_zero, not_false_eq_true, not_true_eq_false]; done))) | (with_reducible refine bnd (x := some _) rfl ?_))
          rfl
        have hb := byHand_no (N := N) (v0 := v0) (v1 := v1) (v2 := v2) (v3 := v3) (v4 := v4) (v5 := v5) (v6 := v6) (v7 := v7) (v8 := v8) (v9 := v9) (v10 := Lives_s_self_worthThen_homeThen_away_days v10 (Lives_self v10) (Lives_worthThen v10) (Lives_homeThen v10) (Lives_away v10) (Lives_days v10)) (v11 := v11) (v13 := v13) (v17 := v17) (v18 := v18) (v19 := v19) (v20 := v20) (und := un) (mls := mls) (mts := mts)
        repeat (first | (with_reducible refine Ev.letE ?_) | (with_reducible refine Ev.ifn ?_ ?_; · (first | with_reducible assumption | decide | (simp (disch := omega) only [zlit, nI_add, pk_mul, pk_sub, zsubm, nI_clamp, nI_leI, nI_ltI, nI_eq, zeqF, Nat.reduceEqDiff, zleF, zleT, zltF, zltT, zneg1, zneg1L, zneg2, zneg0, eq_self, or_self, false_or, or_false, Nat.not_lt_zero, not_false_eq_true, not_true_eq_false]; done))) | (with_reducible refine Ev.ifp ?_ ?_; · (first | with_reducible assumption | decide | (simp (disch := omega) only [zlit, nI_add, pk_mul, pk_sub, zsubm, nI_clamp, nI_leI, nI_ltI, nI_eq, zeqF, Nat.reduceEqDiff, zleF, zleT, zltF, zltT, zneg1, zneg1L, zneg2, zneg0, eq_self, or_self, false_or, or_false, Nat.not_lt_zero, not_false_eq_true, not_true_eq_false]; done))) | (with_reducible refine Ev.bnd (hd) ?_) | (with_reducible refine Ev.bnd (x := some _) rfl ?_))
        rw [show (if (-1 : Int32) = -1 then (0 : Int32) else 1) = 0 from rfl]
        repeat (first | (with_reducible refine Ev.letE ?_) | (with_reducible refine Ev.ifn ?_ ?_; · (first | with_reducible assumption | decide | (simp (disch := omega) only [zlit, nI_add, pk_mul, pk_sub, zsubm, nI_clamp, nI_leI, nI_ltI, nI_eq, zeqF, Nat.reduceEqDiff, zleF, zleT, zltF, zltT, zneg1, zneg1L, zneg2, zneg0, eq_self, or_self, false_or, or_false, Nat.not_lt_zero, not_false_eq_true, not_true_eq_false]; done))) | (with_reducible refine Ev.ifp ?_ ?_; · (first | with_reducible assumption | decide | (simp (disch := omega) only [zlit, nI_add, pk_mul, pk_sub, zsubm, nI_clamp, nI_leI, nI_ltI, nI_eq, zeqF, Nat.reduceEqDiff, zleF, zleT, zltF, zltT, zneg1, zneg1L, zneg2, zneg0, eq_self, or_self, false_or, or_false, Nat.not_lt_zero, not_false_eq_true, not_true_eq_false]; done))) | (with_reducible refine Ev.bnd (hb) ?_) | (with_reducible refine Ev.bnd (x := some _) rfl ?_))
        refine Ev.ret ?_
        unfold f_R_lot
        repeat (first | (with_reducible refine Ev.letE ?_) | (with_reducible refine Ev.ifn ?_ ?_; · (first | with_reducible assumption | decide | (simp (disch := omega) only [zlit, nI_add, pk_mul, pk_sub, zsubm, nI_clamp, nI_leI, nI_ltI, nI_eq, zeqF, Nat.reduceEqDiff, zleF, zleT, zltF, zltT, zneg1, zneg1L, zneg2, zneg0, eq_self, or_self, false_or, or_false, Nat.not_lt_zero, not_false_eq_true, not_true_eq_false]; done))) | (with_reducible refine Ev.ifp ?_ ?_; · (first | with_reducible assumption | decide | (simp (disch := omega) only [zlit, nI_add, pk_mul, pk_sub, zsubm, nI_clamp, nI_leI, nI_ltI, nI_eq, zeqF, Nat.reduceEqDiff, zleF, zleT, zltF, zltT, zneg1, zneg1L, zneg2, zneg0, eq_self, or_self, false_or, or_false, Nat.not_lt_zero, not_false_eq_true, not_true_eq_false]; done))) | (with_reducible refine Ev.bnd (hwi) ?_) | (with_reducible refine Ev.bnd (hml) ?_) | (with_reducible refine Ev.bnd (x := some _) rfl ?_))
        exact Ev.ret ⟨rfl, rfl, hand_no (w' := R_s_thrown_state_undos_g w 0 (R_state w) (R_undos w) (R_g w)) hh hq1 hq2 hn2 ⟨rfl, rfl, rfl, rfl, rfl, rfl, rfl, rfl, rfl, rfl, rfl, rfl, rfl⟩ rfl rfl⟩
      · rw [if_pos hz, if_neg hL0] at hml
        have hp : nxt c / 65536 % L < L := Nat.mod_lt _ (by omega)
        have h9 := nxt_lt c
        have d1 : f_Lots_nextDraw N (nI c).toInt64 = some (lN (nxt c)) := by
          rw [nI_l (by omega)]
          exact nextDraw_ok
        have d2 : f_Lots_drawBelow N (lN (nxt c)) (nI L) = some (nI (nxt c / 65536 % L)) := drawBelow_ok h9 (by omega) (by omega)
        have dd : Ev (f_Lives_drawLot N v10 v2 v3 v9 (nI c)) (fun q => q.1 = nI (nxt c / 65536 % L) ∧ AGP 6 (Lives_s_self_worthThen_homeThen_away_days v10 q.2.1 q.2.2.1 q.2.2.2.1 q.2.2.2.2.1 q.2.2.2.2.2) (leaveV v10 (rowOf v9 (nxt c / 65536 % L)))) := by
          unfold f_Lives_drawLot
          rw [hl.2.1]
          repeat (first | (with_reducible refine Ev.letE ?_) | (with_reducible refine Ev.ifn ?_ ?_; · (first | with_reducible assumption | decide | (simp (disch := omega) only [zlit, nI_add, pk_mul, pk_sub, zsubm, nI_clamp, nI_leI, nI_ltI, nI_eq, zeqF, Nat.reduceEqDiff, zleF, zleT, zltF, zltT, zneg1, zneg1L, zneg2, zneg0, eq_self, or_self, false_or, or_false, Nat.not_lt_zero, not_false_eq_true, not_true_eq_false]; done))) | (with_reducible refine Ev.ifp ?_ ?_; · (first | with_reducible assumption | decide | (simp (disch := omega) only [zlit, nI_add, pk_mul, pk_sub, zsubm, nI_clamp, nI_leI, nI_ltI, nI_eq, zeqF, Nat.reduceEqDiff, zleF, zleT, zltF, zltT, zneg1, zneg1L, zneg2, zneg0, eq_self, or_self, false_or, or_false, Nat.not_lt_zero, not_false_eq_true, not_true_eq_false]; done))) | (with_reducible refine Ev.bnd (d1) ?_) | (with_reducible refine Ev.bnd (d2) ?_) | (with_reducible refine Ev.bnd (x := some _) rfl ?_))
          refine Ev.bnx (goAway_ag hN hl.2.1 hL hp) ?_
          intro q hq
          exact Ev.ret ⟨rfl, hq⟩
        refine Ev.bnx dd ?_
        rintro ⟨c1, c2, c3, c4, c5, c6⟩ ⟨rfl, hag⟩
        have hag : AGP 6 (Lives_s_self_worthThen_homeThen_away_days v10 c2 c3 c4 c5 c6) (leaveV v10 (rowOf v9 (nxt c / 65536 % L))) := hag
        have e1 : (if nI (nxt c / 65536 % L) = -1 then (0 : Int32) else 1) = 1 := if_neg (nI_nem1 (by omega))
        have hb := byHand_yes (N := N) (v0 := v0) (v1 := v1) (v2 := v2) (v3 := v3) (v4 := v4) (v5 := v5) (v6 := v6) (v7 := v7) (v8 := v8) (v9 := v9) (v10 := Lives_s_self_worthThen_homeThen_away_days v10 c2 c3 c4 c5 c6) (v11 := v11) (v13 := v13) (v17 := v17) (v18 := v18) (v19 := v19) (v20 := v20) (und := un) (mls := mls) (mts := mts) hq1 hu1 hq2 hu2
        show Ev ((f_Bl_byHand N v0 v1 v2 v3 v4 v5 v6 v7 v8 v9 (Lives_s_self_worthThen_homeThen_away_days v10 c2 c3 c4 c5 c6) v11 v13 v17 v18 v19 v20 un mls mts (if nI (nxt c / 65536 % L) = -1 then (0 : Int32) else 1)).bind _) _
        rw [e1]
        repeat (first | (with_reducible refine Ev.letE ?_) | (with_reducible refine Ev.ifn ?_ ?_; · (first | with_reducible assumption | decide | (simp (disch := omega) only [zlit, nI_add, pk_mul, pk_sub, zsubm, nI_clamp, nI_leI, nI_ltI, nI_eq, zeqF, Nat.reduceEqDiff, zleF, zleT, zltF, zltT, zneg1, zneg1L, zneg2, zneg0, eq_self, or_self, false_or, or_false, Nat.not_lt_zero, not_false_eq_true, not_true_eq_false]; done))) | (with_reducible refine Ev.ifp ?_ ?_; · (first | with_reducible assumption | decide | (simp (disch := omega) only [zlit, nI_add, pk_mul, pk_sub, zsubm, nI_clamp, nI_leI, nI_ltI, nI_eq, zeqF, Nat.reduceEqDiff, zleF, zleT, zltF, zltT, zneg1, zneg1L, zneg2, zneg0, eq_self, or_self, false_or, or_false, Nat.not_lt_zero, not_false_eq_true, not_true_eq_false]; done))) | (with_reducible refine Ev.bnd (hb) ?_) | (with_reducible refine Ev.bnd (x := some _) rfl ?_))
        refine Ev.ret ?_
        unfold f_R_lot
        repeat (first | (with_reducible refine Ev.letE ?_) | (with_reducible refine Ev.ifn ?_ ?_; · (first | with_reducible assumption | decide | (simp (disch := omega) only [zlit, nI_add, pk_mul, pk_sub, zsubm, nI_clamp, nI_leI, nI_ltI, nI_eq, zeqF, Nat.reduceEqDiff, zleF, zleT, zltF, zltT, zneg1, zneg1L, zneg2, zneg0, eq_self, or_self, false_or, or_false, Nat.not_lt_zero, not_false_eq_true, not_true_eq_false]; done))) | (with_reducible refine Ev.ifp ?_ ?_; · (first | with_reducible assumption | decide | (simp (disch := omega) only [zlit, nI_add, pk_mul, pk_sub, zsubm, nI_clamp, nI_leI, nI_ltI, nI_eq, zeqF, Nat.reduceEqDiff, zleF, zleT, zltF, zltT, zneg1, zneg1L, zneg2, zneg0, eq_self, or_self, false_or, or_false, Nat.not_lt_zero, not_false_eq_true, not_true_eq_false]; done))) | (with_reducible refine Ev.bnd (hwi) ?_) | (with_reducible refine Ev.bnd (hml) ?_) | (with_reducible refine Ev.bnd (x := some _) rfl ?_))
        refine Ev.bnx (keeps_ev hN (w := R_thrown_s w 0) hu1 hu3) ?_
        intro k hk
        have hr := rdraw_ok (N := N) (n := c) (L := L) (w := R_s_thrown_state_undos_g w 0 k.1 k.2 (nI c).toInt64) (nI_l (by omega)) (by omega) (by omega) (by omega)
        have hr : f_R_draw N (R_s_thrown_state_undos_g w 0 k.1 k.2 (nI c).toInt64) (R_lotsMany w) = some (nI (nxt c / 65536 % L), lN (nxt c)) := by rw [hl.1]; exact hr
        repeat (first | (with_reducible refine Ev.letE ?_) | (with_reducible refine Ev.ifn ?_ ?_; · (first | with_reducible assumption | decide | (simp (disch := omega) only [zlit, nI_add, pk_mul, pk_sub, zsubm, nI_clamp, nI_leI, nI_ltI, nI_eq, zeqF, Nat.reduceEqDiff, zleF, zleT, zltF, zltT, zneg1, zneg1L, zneg2, zneg0, eq_self, or_self, false_or, or_false, Nat.not_lt_zero, not_false_eq_true, not_true_eq_false]; done))) | (with_reducible refine Ev.ifp ?_ ?_; · (first | with_reducible assumption | decide | (simp (disch := omega) only [zlit, nI_add, pk_mul, pk_sub, zsubm, nI_clamp, nI_leI, nI_ltI, nI_eq, zeqF, Nat.reduceEqDiff, zleF, zleT, zltF, zltT, zneg1, zneg1L, zneg2, zneg0, eq_self, or_self, false_or, or_false, Nat.not_lt_zero, not_false_eq_true, not_true_eq_false]; done))) | (with_reducible refine Ev.bnd (hr) ?_) | (with_reducible refine Ev.bnd (x := some _) rfl ?_))
        have hR2 : LR P 0 k.1 v10 := hR.keep h6 (fun j x y => hk.2.1 j (by omega))
        refine Ev.bnx (leaves_v hN (w := R_s_thrown_state_undos_g w 0 k.1 k.2 (lN (nxt c))) (v1 := v2) (v2 := v3) (v3 := v9) (v := v10) (P := P) (L := L) (b := 0) (p := nxt c / 65536 % L) (by omega) hT hl hp hR2) ?_
        rintro s1 ⟨g1, g2⟩
        have g2 : Fr 0 (0 + 46) k.1 s1 := g2
        refine Ev.ret ⟨rfl, rfl, ?_⟩
        obtain ⟨lo1, lo2, -⟩ := hl.2.2.2 _ hp
        exact hand_yes (w' := R_s_thrown_state_undos_g w 0 s1 k.2 (lN (nxt c))) hh hq1 hu1 hq2 hu2 hn1 hn2 hk (g1.ag (hag.le h6).symm) ((LI_leave hI lo1 lo2).ag (hag.le h6).symm) (fun j hj => g2 j (by omega)) rfl ⟨rfl, rfl, rfl, rfl, rfl, rfl, rfl, rfl, rfl, rfl, rfl, rfl, rfl⟩ v3 hT
    · rw [if_neg hz] at hml
      have hd : f_Lives_drawLot N v10 v2 v3 v9 (nI c) = some (-1, Lives_self v10, Lives_worthThen v10, Lives_homeThen v10, Lives_away v10, Lives_days v10) := by
        unfold f_Lives_drawLot
        repeat (first | (with_reducible refine zletE ?_) | (with_reducible refine zifn ?_ ?_; · (first | with_reducible assumption | decide | (simp (disch := omega) only [zlit, nI_add, pk_mul, pk_sub, zsubm, nI_clamp, nI_leI, nI_ltI, nI_eq, zeqF, Nat.reduceEqDiff, zleF, zleT, zltF, zltT, zneg1, zneg1L, zneg2, zneg0, eq_self, or_self, false_or, or_false, Nat.not_lt_zero, not_false_eq_true, not_true_eq_false]; done))) | (with_reducible refine zifp ?_ ?_; · (first | with_reducible assumption | decide | (simp (disch := omega) only [zlit, nI_add, pk_mul, pk_sub, zsubm, nI_clamp, nI_leI, nI_ltI, nI_eq, zeqF, Nat.reduceEqDiff, zleF, zleT, zltF, zltT, zneg1, zneg1L, zneg2, zneg0, eq_self, or_self, false_or, or_false, Nat.not_lt_zero, not_false_eq_true, not_true_eq_false]; done))) | (with_reducible refine bnd (x := some _) rfl ?_))
        rfl
      have hb := byHand_no (N := N) (v0 := v0) (v1 := v1) (v2 := v2) (v3 := v3) (v4 := v4) (v5 := v5) (v6 := v6) (v7 := v7) (v8 := v8) (v9 := v9) (v10 := Lives_s_self_worthThen_homeThen_away_days v10 (Lives_self v10) (Lives_worthThen v10) (Lives_homeThen v10) (Lives_away v10) (Lives_days v10)) (v11 := v11) (v13 := v13) (v17 := v17) (v18 := v18) (v19 := v19) (v20 := v20) (und := un) (mls := mls) (mts := mts)
      repeat (first | (with_reducible refine Ev.letE ?_) | (with_reducible refine Ev.ifn ?_ ?_; · (first | with_reducible assumption | decide | (simp (disch := omega) only [zlit, nI_add, pk_mul, pk_sub, zsubm, nI_clamp, nI_leI, nI_ltI, nI_eq, zeqF, Nat.reduceEqDiff, zleF, zleT, zltF, zltT, zneg1, zneg1L, zneg2, zneg0, eq_self, or_self, false_or, or_false, Nat.not_lt_zero, not_false_eq_true, not_true_eq_false]; done))) | (with_reducible refine Ev.ifp ?_ ?_; · (first | with_reducible assumption | decide | (simp (disch := omega) only [zlit, nI_add, pk_mul, pk_sub, zsubm, nI_clamp, nI_leI, nI_ltI, nI_eq, zeqF, Nat.reduceEqDiff, zleF, zleT, zltF, zltT, zneg1, zneg1L, zneg2, zneg0, eq_self, or_self, false_or, or_false, Nat.not_lt_zero, not_false_eq_true, not_true_eq_false]; done))) | (with_reducible refine Ev.bnd (hd) ?_) | (with_reducible refine Ev.bnd (x := some _) rfl ?_))
      rw [show (if (-1 : Int32) = -1 then (0 : Int32) else 1) = 0 from rfl]
      repeat (first | (with_reducible refine Ev.letE ?_) | (with_reducible refine Ev.ifn ?_ ?_; · (first | with_reducible assumption | decide | (simp (disch := omega) only [zlit, nI_add, pk_mul, pk_sub, zsubm, nI_clamp, nI_leI, nI_ltI, nI_eq, zeqF, Nat.reduceEqDiff, zleF, zleT, zltF, zltT, zneg1, zneg1L, zneg2, zneg0, eq_self, or_self, false_or, or_false, Nat.not_lt_zero, not_false_eq_true, not_true_eq_false]; done))) | (with_reducible refine Ev.ifp ?_ ?_; · (first | with_reducible assumption | decide | (simp (disch := omega) only [zlit, nI_add, pk_mul, pk_sub, zsubm, nI_clamp, nI_leI, nI_ltI, nI_eq, zeqF, Nat.reduceEqDiff, zleF, zleT, zltF, zltT, zneg1, zneg1L, zneg2, zneg0, eq_self, or_self, false_or, or_false, Nat.not_lt_zero, not_false_eq_true, not_true_eq_false]; done))) | (with_reducible refine Ev.bnd (hb) ?_) | (with_reducible refine Ev.bnd (x := some _) rfl ?_))
      refine Ev.ret ?_
      unfold f_R_lot
      repeat (first | (with_reducible refine Ev.letE ?_) | (with_reducible refine Ev.ifn ?_ ?_; · (first | with_reducible assumption | decide | (simp (disch := omega) only [zlit, nI_add, pk_mul, pk_sub, zsubm, nI_clamp, nI_leI, nI_ltI, nI_eq, zeqF, Nat.reduceEqDiff, zleF, zleT, zltF, zltT, zneg1, zneg1L, zneg2, zneg0, eq_self, or_self, false_or, or_false, Nat.not_lt_zero, not_false_eq_true, not_true_eq_false]; done))) | (with_reducible refine Ev.ifp ?_ ?_; · (first | with_reducible assumption | decide | (simp (disch := omega) only [zlit, nI_add, pk_mul, pk_sub, zsubm, nI_clamp, nI_leI, nI_ltI, nI_eq, zeqF, Nat.reduceEqDiff, zleF, zleT, zltF, zltT, zneg1, zneg1L, zneg2, zneg0, eq_self, or_self, false_or, or_false, Nat.not_lt_zero, not_false_eq_true, not_true_eq_false]; done))) | (with_reducible refine Ev.bnd (hwi) ?_) | (with_reducible refine Ev.bnd (hml) ?_) | (with_reducible refine Ev.bnd (x := some _) rfl ?_))
      exact Ev.ret ⟨rfl, rfl, hand_no (w' := R_s_thrown_state_undos_g w 0 (R_state w) (R_undos w) (R_g w)) hh hq1 hq2 hn2 ⟨rfl, rfl, rfl, rfl, rfl, rfl, rfl, rfl, rfl, rfl, rfl, rfl, rfl⟩ rfl rfl⟩
/-! ===== home ===== -/
theorem m_home {N : Nat} (hN : 10000 ≤ N) {v0 : VBl} {v1 : VTape} {v2 : VTown} {v3 : VLaws} {v4 : VReader} {v5 : VTown} {v6 : VLaws} {v7 : VYear} {v8 : VYear} {v9 : VLots} {v10 : VLives} {v11 : VLives} {v13 : VTales} {v17 : VForecast} {v18 : VLives} {v19 : VDeeds} {v20 : VPairs} {und mls : Nat → VLives} {mts : Nat → VTales} {w : VR} {P L g : Nat} (h : RELx P L g v0 v1 v2 v3 v7 v9 v10 v13 v17 und mls mts w) : Ev (f_Bl_home N v0 v1 v2 v3 v4 v5 v6 v7 v8 v9 v10 v11 v13 v17 v18 v19 v20 und mls mts) (fun r => Ev (f_R_home N w) (fun q => r.1 = q.1 ∧ q.2.1 = 0 ∧ RELx P L g (r.2.2.1, r.2.2.2.1, Bl_laid v0) v1 v2 v3 v7 v9 (Lives_s_hidden_self_away_days_homes_harm v10 r.2.2.2.2.1 r.2.2.2.2.2.1 r.2.2.2.2.2.2.1 r.2.2.2.2.2.2.2.1 r.2.2.2.2.2.2.2.2.1 r.2.2.2.2.2.2.2.2.2.1) v13 (Forecast_s_ready_prepared v17 r.2.2.2.2.2.2.2.2.2.2.1 r.2.2.2.2.2.2.2.2.2.2.2) r.2.1 mls mts (R_s_thrown_state_undos w q.2.1 q.2.2.1 q.2.2.2))) := by
  have hh := h
  obtain ⟨⟨hT, hB, hG, hD⟩, hl, ⟨hR, hI⟩, hta, htl, hu, hm, hpl, hf⟩ := h
  have hP := hT.1
  have h6 := hT.1.2
  obtain ⟨u, q, hu1, hq1, hu2, hu3, hq2, hu4⟩ := hu
  have ha := hR.2.2.2.2.2.1
  have r0 : R_state w (Int32.toNatClampNeg 0) = Lives_away v10 := hR.2.1
  unfold f_Bl_home
  refine Ev.bnx (keepForUndo_ev hq1 hq2 ha) ?_
  rintro un ⟨hn1, hn2⟩
  by_cases hz : Lives_away v10 = 0
  · have hd : f_Lives_goHome N v10 v2 v3 = some (-1, Lives_hidden v10, Lives_self v10, Lives_away v10, Lives_days v10, Lives_homes v10, Lives_harm v10) := by
      unfold f_Lives_goHome
      rw [if_pos hz]
    have hb := byHand_no (N := N) (v0 := v0) (v1 := v1) (v2 := v2) (v3 := v3) (v4 := v4) (v5 := v5) (v6 := v6) (v7 := v7) (v8 := v8) (v9 := v9) (v10 := Lives_s_hidden_self_away_days_homes_harm v10 (Lives_hidden v10) (Lives_self v10) (Lives_away v10) (Lives_days v10) (Lives_homes v10) (Lives_harm v10)) (v11 := v11) (v13 := v13) (v17 := v17) (v18 := v18) (v19 := v19) (v20 := v20) (und := un) (mls := mls) (mts := mts)
    repeat (first | (with_reducible refine Ev.letE ?_) | (with_reducible refine Ev.ifn ?_ ?_; · (first | with_reducible assumption | decide | (simp (disch := omega) only [zlit, nI_add, pk_mul, pk_sub, zsubm, nI_clamp, nI_leI, nI_ltI, nI_eq, zeqF, Nat.reduceEqDiff, zleF, zleT, zltF, zltT, zneg1, zneg1L, zneg2, zneg0, eq_self, or_self, false_or, or_false, Nat.not_lt_zero, not_false_eq_true, not_true_eq_false]; done))) | (with_reducible refine Ev.ifp ?_ ?_; · (first | with_reducible assumption | decide | (simp (disch := omega) only [zlit, nI_add, pk_mul, pk_sub, zsubm, nI_clamp, nI_leI, nI_ltI, nI_eq, zeqF, Nat.reduceEqDiff, zleF, zleT, zltF, zltT, zneg1, zneg1L, zneg2, zneg0, eq_self, or_self, false_or, or_false, Nat.not_lt_zero, not_false_eq_true, not_true_eq_false]; done))) | (with_reducible refine Ev.bnd (hd) ?_) | (with_reducible refine Ev.bnd (x := some _) rfl ?_))
    rw [show (if (-1 : Int32) = -1 then (0 : Int32) else 1) = 0 from rfl]
    repeat (first | (with_reducible refine Ev.letE ?_) | (with_reducible refine Ev.ifn ?_ ?_; · (first | with_reducible assumption | decide | (simp (disch := omega) only [zlit, nI_add, pk_mul, pk_sub, zsubm, nI_clamp, nI_leI, nI_ltI, nI_eq, zeqF, Nat.reduceEqDiff, zleF, zleT, zltF, zltT, zneg1, zneg1L, zneg2, zneg0, eq_self, or_self, false_or, or_false, Nat.not_lt_zero, not_false_eq_true, not_true_eq_false]; done))) | (with_reducible refine Ev.ifp ?_ ?_; · (first | with_reducible assumption | decide | (simp (disch := omega) only [zlit, nI_add, pk_mul, pk_sub, zsubm, nI_clamp, nI_leI, nI_ltI, nI_eq, zeqF, Nat.reduceEqDiff, zleF, zleT, zltF, zltT, zneg1, zneg1L, zneg2, zneg0, eq_self, or_self, false_or, or_false, Nat.not_lt_zero, not_false_eq_true, not_true_eq_false]; done))) | (with_reducible refine Ev.bnd (hb) ?_) | (with_reducible refine Ev.bnd (x := some _) rfl ?_))
    refine Ev.ret ?_
    unfold f_R_home
    rw [r0]
    repeat (first | (with_reducible refine Ev.letE ?_) | (with_reducible refine Ev.ifn ?_ ?_; · (first | with_reducible assumption | decide | (simp (disch := omega) only [zlit, nI_add, pk_mul, pk_sub, zsubm, nI_clamp, nI_leI, nI_ltI, nI_eq, zeqF, Nat.reduceEqDiff, zleF, zleT, zltF, zltT, zneg1, zneg1L, zneg2, zneg0, eq_self, or_self, false_or, or_false, Nat.not_lt_zero, not_false_eq_true, not_true_eq_false]; done))) | (with_reducible refine Ev.ifp ?_ ?_; · (first | with_reducible assumption | decide | (simp (disch := omega) only [zlit, nI_add, pk_mul, pk_sub, zsubm, nI_clamp, nI_leI, nI_ltI, nI_eq, zeqF, Nat.reduceEqDiff, zleF, zleT, zltF, zltT, zneg1, zneg1L, zneg2, zneg0, eq_self, or_self, false_or, or_false, Nat.not_lt_zero, not_false_eq_true, not_true_eq_false]; done))) | (with_reducible refine Ev.bnd (x := some _) rfl ?_))
    exact Ev.ret ⟨rfl, rfl, hand_no (w' := R_s_thrown_state_undos w 0 (R_state w) (R_undos w)) hh hq1 hq2 hn2 ⟨rfl, rfl, rfl, rfl, rfl, rfl, rfl, rfl, rfl, rfl, rfl, rfl, rfl⟩ rfl rfl⟩
  · refine Ev.bnx (goHome_ag hN hP hz) ?_
    rintro ⟨c1, c2, c3, c4, c5, c6, c7⟩ ⟨e1, hag⟩
    have e1 : c1 = sumN (hmOf v10) P 0 0 := e1
    have hag : AGP P (Lives_s_hidden_self_away_days_homes_harm v10 c2 c3 c4 c5 c6 c7) (homeV P v10) := hag
    subst e1
    obtain ⟨hs, hs1, hs2⟩ := hmAll_num h6 hI
    have e1 : (if sumN (hmOf v10) P 0 0 = -1 then (0 : Int32) else 1) = 1 := by
      rw [hs2]
      exact if_neg (nI_nem1 (by omega))
    have hb := byHand_yes (N := N) (v0 := v0) (v1 := v1) (v2 := v2) (v3 := v3) (v4 := v4) (v5 := v5) (v6 := v6) (v7 := v7) (v8 := v8) (v9 := v9) (v10 := Lives_s_hidden_self_away_days_homes_harm v10 c2 c3 c4 c5 c6 c7) (v11 := v11) (v13 := v13) (v17 := v17) (v18 := v18) (v19 := v19) (v20 := v20) (und := un) (mls := mls) (mts := mts) hq1 hu1 hq2 hu2
    show Ev ((f_Bl_byHand N v0 v1 v2 v3 v4 v5 v6 v7 v8 v9 (Lives_s_hidden_self_away_days_homes_harm v10 c2 c3 c4 c5 c6 c7) v11 v13 v17 v18 v19 v20 un mls mts (if sumN (hmOf v10) P 0 0 = -1 then (0 : Int32) else 1)).bind _) _
    rw [e1]
    repeat (first | (with_reducible refine Ev.letE ?_) | (with_reducible refine Ev.ifn ?_ ?_; · (first | with_reducible assumption | decide | (simp (disch := omega) only [zlit, nI_add, pk_mul, pk_sub, zsubm, nI_clamp, nI_leI, nI_ltI, nI_eq, zeqF, Nat.reduceEqDiff, zleF, zleT, zltF, zltT, zneg1, zneg1L, zneg2, zneg0, eq_self, or_self, false_or, or_false, Nat.not_lt_zero, not_false_eq_true, not_true_eq_false]; done))) | (with_reducible refine Ev.ifp ?_ ?_; · (first | with_reducible assumption | decide | (simp (disch := omega) only [zlit, nI_add, pk_mul, pk_sub, zsubm, nI_clamp, nI_leI, nI_ltI, nI_eq, zeqF, Nat.reduceEqDiff, zleF, zleT, zltF, zltT, zneg1, zneg1L, zneg2, zneg0, eq_self, or_self, false_or, or_false, Nat.not_lt_zero, not_false_eq_true, not_true_eq_false]; done))) | (with_reducible refine Ev.bnd (hb) ?_) | (with_reducible refine Ev.bnd (x := some _) rfl ?_))
    refine Ev.ret ?_
    unfold f_R_home
    rw [r0]
    repeat (first | (with_reducible refine Ev.letE ?_) | (with_reducible refine Ev.ifn ?_ ?_; · (first | with_reducible assumption | decide | (simp (disch := omega) only [zlit, nI_add, pk_mul, pk_sub, zsubm, nI_clamp, nI_leI, nI_ltI, nI_eq, zeqF, Nat.reduceEqDiff, zleF, zleT, zltF, zltT, zneg1, zneg1L, zneg2, zneg0, eq_self, or_self, false_or, or_false, Nat.not_lt_zero, not_false_eq_true, not_true_eq_false]; done))) | (with_reducible refine Ev.ifp ?_ ?_; · (first | with_reducible assumption | decide | (simp (disch := omega) only [zlit, nI_add, pk_mul, pk_sub, zsubm, nI_clamp, nI_leI, nI_ltI, nI_eq, zeqF, Nat.reduceEqDiff, zleF, zleT, zltF, zltT, zneg1, zneg1L, zneg2, zneg0, eq_self, or_self, false_or, or_false, Nat.not_lt_zero, not_false_eq_true, not_true_eq_false]; done))) | (with_reducible refine Ev.bnd (x := some _) rfl ?_))
    refine Ev.bnx (keeps_ev hN (w := R_thrown_s w 0) hu1 hu3) ?_
    intro k hk
    have hR2 : LR P 0 k.1 v10 := hR.keep h6 (fun j x y => hk.2.1 j (by omega))
    refine Ev.bnx (goesHome_v hN (w := R_s_thrown_state_undos w 0 k.1 k.2) (v1 := v2) (v2 := v3) (v := v10) (P := P) (b := 0) (by omega) hT hR2) ?_
    rintro ⟨s0, s1⟩ ⟨g0, g1, g2⟩
    have g2 : Fr 0 (0 + 46) k.1 s1 := g2
    refine Ev.ret ⟨g0.symm, rfl, ?_⟩
    exact hand_yes (w' := R_s_thrown_state_undos w 0 s1 k.2) hh hq1 hu1 hq2 hu2 hn1 hn2 hk (g1.ag hag.symm) ((LI_home h6 hI).ag hag.symm) (fun j hj => g2 j (by omega)) rfl ⟨rfl, rfl, rfl, rfl, rfl, rfl, rfl, rfl, rfl, rfl, rfl, rfl, rfl⟩ v3 hT
/-! ===== day ===== -/
theorem mayPass_ok {N : Nat} {w : VR} {v : VLives} {P b d : Nat} (hb : b ≤ 1584) (h : LR P b (R_state w) v) (hd : Lives_days v = nI d) (hd7 : d ≤ 7) : f_R_mayPass N w (nI b) = some (if Lives_away v = 0 then 0 else (if d < 7 then 1 else 0)) := by
  unfold f_R_mayPass
  rw [show nI b + 0 = nI (b + 0) from nI_add b 0, show nI b + 1 = nI (b + 1) from nI_1 b, nI_clamp (n := b + 0) (by omega), nI_clamp (n := b + 1) (by omega), h.2.1, h.2.2.1, hd]
  rcases h.2.2.2.2.2.1 with hz | hz
  · rw [hz]
    repeat (first | (with_reducible refine zletE ?_) | (with_reducible refine zifn ?_ ?_; · (first | with_reducible assumption | decide | (simp (disch := omega) only [zlit, nI_add, pk_mul, pk_sub, zsubm, nI_clamp, nI_leI, nI_ltI, nI_eq, zeqF, Nat.reduceEqDiff, zleF, zleT, zltF, zltT, zneg1, zneg1L, zneg2, zneg0, eq_self, or_self, false_or, or_false, Nat.not_lt_zero, not_false_eq_true, not_true_eq_false]; done))) | (with_reducible refine zifp ?_ ?_; · (first | with_reducible assumption | decide | (simp (disch := omega) only [zlit, nI_add, pk_mul, pk_sub, zsubm, nI_clamp, nI_leI, nI_ltI, nI_eq, zeqF, Nat.reduceEqDiff, zleF, zleT, zltF, zltT, zneg1, zneg1L, zneg2, zneg0, eq_self, or_self, false_or, or_false, Nat.not_lt_zero, not_false_eq_true, not_true_eq_false]; done))) | (with_reducible refine bnd (x := some _) rfl ?_))
    rfl
  · rw [hz]
    by_cases c : d < 7
    · rw [if_pos c]
      repeat (first | (with_reducible refine zletE ?_) | (with_reducible refine zifn ?_ ?_; · (first | with_reducible assumption | decide | (simp (disch := omega) only [zlit, nI_add, pk_mul, pk_sub, zsubm, nI_clamp, nI_leI, nI_ltI, nI_eq, zeqF, Nat.reduceEqDiff, zleF, zleT, zltF, zltT, zneg1, zneg1L, zneg2, zneg0, eq_self, or_self, false_or, or_false, Nat.not_lt_zero, not_false_eq_true, not_true_eq_false]; done))) | (with_reducible refine zifp ?_ ?_; · (first | with_reducible assumption | decide | (simp (disch := omega) only [zlit, nI_add, pk_mul, pk_sub, zsubm, nI_clamp, nI_leI, nI_ltI, nI_eq, zeqF, Nat.reduceEqDiff, zleF, zleT, zltF, zltT, zneg1, zneg1L, zneg2, zneg0, eq_self, or_self, false_or, or_false, Nat.not_lt_zero, not_false_eq_true, not_true_eq_false]; done))) | (with_reducible refine bnd (x := some _) rfl ?_))
      rfl
    · rw [if_neg c]
      repeat (first | (with_reducible refine zletE ?_) | (with_reducible refine zifn ?_ ?_; · (first | with_reducible assumption | decide | (simp (disch := omega) only [zlit, nI_add, pk_mul, pk_sub, zsubm, nI_clamp, nI_leI, nI_ltI, nI_eq, zeqF, Nat.reduceEqDiff, zleF, zleT, zltF, zltT, zneg1, zneg1L, zneg2, zneg0, eq_self, or_self, false_or, or_false, Nat.not_lt_zero, not_false_eq_true, not_true_eq_false]; done))) | (with_reducible refine zifp ?_ ?_; · (first | with_reducible assumption | decide | (simp (disch := omega) only [zlit, nI_add, pk_mul, pk_sub, zsubm, nI_clamp, nI_leI, nI_ltI, nI_eq, zeqF, Nat.reduceEqDiff, zleF, zleT, zltF, zltT, zneg1, zneg1L, zneg2, zneg0, eq_self, or_self, false_or, or_false, Nat.not_lt_zero, not_false_eq_true, not_true_eq_false]; done))) | (with_reducible refine bnd (x := some _) rfl ?_))
      rfl
theorem m_day {N : Nat} (hN : 10000 ≤ N) {v0 : VBl} {v1 : VTape} {v2 : VTown} {v3 : VLaws} {v4 : VReader} {v5 : VTown} {v6 : VLaws} {v7 : VYear} {v8 : VYear} {v9 : VLots} {v10 : VLives} {v11 : VLives} {v13 : VTales} {v17 : VForecast} {v18 : VLives} {v19 : VDeeds} {v20 : VPairs} {und mls : Nat → VLives} {mts : Nat → VTales} {w : VR} {P L g : Nat} (h : RELx P L g v0 v1 v2 v3 v7 v9 v10 v13 v17 und mls mts w) : Ev (f_Bl_day N v0 v1 v2 v3 v4 v5 v6 v7 v8 v9 v10 v11 v13 v17 v18 v19 v20 und mls mts) (fun r => Ev (f_R_day N w) (fun q => r.1 = q.1 ∧ q.2.1 = 0 ∧ RELx P L g (r.2.2.1, r.2.2.2.1, Bl_laid v0) v1 v2 (Laws_s_facts_stack v3 r.2.2.2.2.1 r.2.2.2.2.2.1) v7 v9 (Lives_s_purse_debt_home_days v10 r.2.2.2.2.2.2.1 r.2.2.2.2.2.2.2.1 r.2.2.2.2.2.2.2.2.1 r.2.2.2.2.2.2.2.2.2.1) v13 (Forecast_s_ready_prepared v17 r.2.2.2.2.2.2.2.2.2.2.1 r.2.2.2.2.2.2.2.2.2.2.2) r.2.1 mls mts (R_s_thrown_facts_pile_state_undos w q.2.1 q.2.2.1 q.2.2.2.1 q.2.2.2.2.1 q.2.2.2.2.2))) := by
  have hh := h
  obtain ⟨⟨hT, hB, hG, hD⟩, hl, ⟨hR, hI⟩, hta, htl, hu, hm, hpl, hf⟩ := h
  have hP := hT.1
  have h6 := hT.1.2
  obtain ⟨u, q, hu1, hq1, hu2, hu3, hq2, hu4⟩ := hu
  have ha := hR.2.2.2.2.2.1
  obtain ⟨d, hd7, hd⟩ := hI.2.2.2.2.1
  have hmp := mayPass_ok (N := N) (w := R_thrown_s w 0) (b := 0) (by omega) hR hd hd7
  have hmp : f_R_mayPass N (R_thrown_s w 0) 0 = some (if Lives_away v10 = 0 then 0 else (if d < 7 then 1 else 0)) := hmp
  unfold f_Bl_day
  refine Ev.bnx (keepForUndo_ev hq1 hq2 ha) ?_
  rintro un ⟨hn1, hn2⟩
  have no : f_Lives_nextDay N v10 v2 v3 = some (0, Lives_purse v10, Lives_debt v10, Lives_home v10, Lives_days v10, Laws_facts v3, Laws_stack v3) → f_R_mayPass N (R_thrown_s w 0) 0 = some 0 → Ev ((f_Lives_nextDay N v10 v2 v3).bind fun q2 => (f_Bl_byHand N v0 v1 v2 (Laws_s_facts_stack v3 q2.2.2.2.2.2.1 q2.2.2.2.2.2.2) v4 v5 v6 v7 v8 v9 (Lives_s_purse_debt_home_days v10 q2.2.1 q2.2.2.1 q2.2.2.2.1 q2.2.2.2.2.1) v11 v13 v17 v18 v19 v20 un mls mts q2.1).bind fun q3 => if q3.1 = 0 then some (-1, un, q3.2.1, q3.2.2.1, q2.2.2.2.2.2.1, q2.2.2.2.2.2.2, q2.2.1, q2.2.2.1, q2.2.2.2.1, q2.2.2.2.2.1, q3.2.2.2.1, q3.2.2.2.2) else some (q2.2.2.2.2.1, un, q3.2.1, q3.2.2.1, q2.2.2.2.2.2.1, q2.2.2.2.2.2.2, q2.2.1, q2.2.2.1, q2.2.2.2.1, q2.2.2.2.2.1, q3.2.2.2.1, q3.2.2.2.2)) (fun r => Ev (f_R_day N w) (fun q => r.1 = q.1 ∧ q.2.1 = 0 ∧ RELx P L g (r.2.2.1, r.2.2.2.1, Bl_laid v0) v1 v2 (Laws_s_facts_stack v3 r.2.2.2.2.1 r.2.2.2.2.2.1) v7 v9 (Lives_s_purse_debt_home_days v10 r.2.2.2.2.2.2.1 r.2.2.2.2.2.2.2.1 r.2.2.2.2.2.2.2.2.1 r.2.2.2.2.2.2.2.2.2.1) v13 (Forecast_s_ready_prepared v17 r.2.2.2.2.2.2.2.2.2.2.1 r.2.2.2.2.2.2.2.2.2.2.2) r.2.1 mls mts (R_s_thrown_facts_pile_state_undos w q.2.1 q.2.2.1 q.2.2.2.1 q.2.2.2.2.1 q.2.2.2.2.2))) := by
    intro e e2
    have hb := byHand_no (N := N) (v0 := v0) (v1 := v1) (v2 := v2) (v3 := Laws_s_facts_stack v3 (Laws_facts v3) (Laws_stack v3)) (v4 := v4) (v5 := v5) (v6 := v6) (v7 := v7) (v8 := v8) (v9 := v9) (v10 := Lives_s_purse_debt_home_days v10 (Lives_purse v10) (Lives_debt v10) (Lives_home v10) (Lives_days v10)) (v11 := v11) (v13 := v13) (v17 := v17) (v18 := v18) (v19 := v19) (v20 := v20) (und := un) (mls := mls) (mts := mts)
    repeat (first | (with_reducible refine Ev.letE ?_) | (with_reducible refine Ev.ifn ?_ ?_; · (first | with_reducible assumption | decide | (simp (disch := omega) only [zlit, nI_add, pk_mul, pk_sub, zsubm, nI_clamp, nI_leI, nI_ltI, nI_eq, zeqF, Nat.reduceEqDiff, zleF, zleT, zltF, zltT, zneg1, zneg1L, zneg2, zneg0, eq_self, or_self, false_or, or_false, Nat.not_lt_zero, not_false_eq_true, not_true_eq_false]; done))) | (with_reducible refine Ev.ifp ?_ ?_; · (first | with_reducible assumption | decide | (simp (disch := omega) only [zlit, nI_add, pk_mul, pk_sub, zsubm, nI_clamp, nI_leI, nI_ltI, nI_eq, zeqF, Nat.reduceEqDiff, zleF, zleT, zltF, zltT, zneg1, zneg1L, zneg2, zneg0, eq_self, or_self, false_or, or_false, Nat.not_lt_zero, not_false_eq_true, not_true_eq_false]; done))) | (with_reducible refine Ev.bnd (e) ?_) | (with_reducible refine Ev.bnd (hb) ?_) | (with_reducible refine Ev.bnd (x := some _) rfl ?_))
    refine Ev.ret ?_
    unfold f_R_day
    repeat (first | (with_reducible refine Ev.letE ?_) | (with_reducible refine Ev.ifn ?_ ?_; · (first | with_reducible assumption | decide | (simp (disch := omega) only [zlit, nI_add, pk_mul, pk_sub, zsubm, nI_clamp, nI_leI, nI_ltI, nI_eq, zeqF, Nat.reduceEqDiff, zleF, zleT, zltF, zltT, zneg1, zneg1L, zneg2, zneg0, eq_self, or_self, false_or, or_false, Nat.not_lt_zero, not_false_eq_true, not_true_eq_false]; done))) | (with_reducible refine Ev.ifp ?_ ?_; · (first | with_reducible assumption | decide | (simp (disch := omega) only [zlit, nI_add, pk_mul, pk_sub, zsubm, nI_clamp, nI_leI, nI_ltI, nI_eq, zeqF, Nat.reduceEqDiff, zleF, zleT, zltF, zltT, zneg1, zneg1L, zneg2, zneg0, eq_self, or_self, false_or, or_false, Nat.not_lt_zero, not_false_eq_true, not_true_eq_false]; done))) | (with_reducible refine Ev.bnd (e2) ?_) | (with_reducible refine Ev.bnd (x := some _) rfl ?_))
    exact Ev.ret ⟨rfl, rfl, hand_no (w' := R_s_thrown_facts_pile_state_undos w 0 (R_facts w) (R_pile w) (R_state w) (R_undos w)) hh hq1 hq2 hn2 ⟨rfl, rfl, rfl, rfl, rfl, rfl, rfl, rfl, rfl, rfl, rfl, rfl, rfl⟩ rfl rfl⟩
  by_cases hz : Lives_away v10 = 0
  · rw [if_pos hz] at hmp
    refine no ?_ hmp
    unfold f_Lives_nextDay
    rw [if_pos hz]
  · rw [if_neg hz] at hmp
    by_cases c : d < 7
    · rw [if_pos c] at hmp
      have h0 := (hT.2.2.2 0 (by decide)).1
      have h1 := (hT.2.2.2 1 (by decide)).1
      have dd : Ev (f_Lives_nextDay N v10 v2 v3) (fun q => q.1 = 1 ∧ Lives_s_purse_debt_home_days v10 q.2.1 q.2.2.1 q.2.2.2.1 q.2.2.2.2.1 = dayV v2 v3 P (nI g) v10) := by
        unfold f_Lives_nextDay
        have c2 : Lives_days v10 < 7 := by rw [hd]; exact nI_lt (b := 7) c (by decide)
        rw [hG.2.1]
        repeat (first | (with_reducible refine Ev.letE ?_) | (with_reducible refine Ev.ifn ?_ ?_; · (first | with_reducible assumption | decide | (simp (disch := omega) only [zlit, nI_add, pk_mul, pk_sub, zsubm, nI_clamp, nI_leI, nI_ltI, nI_eq, zeqF, Nat.reduceEqDiff, zleF, zleT, zltF, zltT, zneg1, zneg1L, zneg2, zneg0, eq_self, or_self, false_or, or_false, Nat.not_lt_zero, not_false_eq_true, not_true_eq_false]; done))) | (with_reducible refine Ev.ifp ?_ ?_; · (first | with_reducible assumption | decide | (simp (disch := omega) only [zlit, nI_add, pk_mul, pk_sub, zsubm, nI_clamp, nI_leI, nI_ltI, nI_eq, zeqF, Nat.reduceEqDiff, zleF, zleT, zltF, zltT, zneg1, zneg1L, zneg2, zneg0, eq_self, or_self, false_or, or_false, Nat.not_lt_zero, not_false_eq_true, not_true_eq_false]; done))) | (with_reducible refine Ev.bnd (x := some _) rfl ?_))
        refine Ev.bnx (passDays_v hN (n := 1) (by omega) hP hI.2.2.1 h0 h1) ?_
        intro q hq
        exact Ev.ret ⟨rfl, hq⟩
      refine Ev.bnx dd ?_
      rintro ⟨c1, c2, c3, c4, c5, c6, c7⟩ ⟨rfl, hv⟩
      have hv : Lives_s_purse_debt_home_days v10 c2 c3 c4 c5 = dayV v2 v3 P (nI g) v10 := hv
      have hc5 : c5 = Lives_days v10 + 1 := congrArg Lives_days hv
      have hb := byHand_yes (N := N) (v0 := v0) (v1 := v1) (v2 := v2) (v3 := Laws_s_facts_stack v3 c6 c7) (v4 := v4) (v5 := v5) (v6 := v6) (v7 := v7) (v8 := v8) (v9 := v9) (v10 := Lives_s_purse_debt_home_days v10 c2 c3 c4 c5) (v11 := v11) (v13 := v13) (v17 := v17) (v18 := v18) (v19 := v19) (v20 := v20) (und := un) (mls := mls) (mts := mts) hq1 hu1 hq2 hu2
      repeat (first | (with_reducible refine Ev.letE ?_) | (with_reducible refine Ev.ifn ?_ ?_; · (first | with_reducible assumption | decide | (simp (disch := omega) only [zlit, nI_add, pk_mul, pk_sub, zsubm, nI_clamp, nI_leI, nI_ltI, nI_eq, zeqF, Nat.reduceEqDiff, zleF, zleT, zltF, zltT, zneg1, zneg1L, zneg2, zneg0, eq_self, or_self, false_or, or_false, Nat.not_lt_zero, not_false_eq_true, not_true_eq_false]; done))) | (with_reducible refine Ev.ifp ?_ ?_; · (first | with_reducible assumption | decide | (simp (disch := omega) only [zlit, nI_add, pk_mul, pk_sub, zsubm, nI_clamp, nI_leI, nI_ltI, nI_eq, zeqF, Nat.reduceEqDiff, zleF, zleT, zltF, zltT, zneg1, zneg1L, zneg2, zneg0, eq_self, or_self, false_or, or_false, Nat.not_lt_zero, not_false_eq_true, not_true_eq_false]; done))) | (with_reducible refine Ev.bnd (hb) ?_) | (with_reducible refine Ev.bnd (x := some _) rfl ?_))
      refine Ev.ret ?_
      unfold f_R_day
      repeat (first | (with_reducible refine Ev.letE ?_) | (with_reducible refine Ev.ifn ?_ ?_; · (first | with_reducible assumption | decide | (simp (disch := omega) only [zlit, nI_add, pk_mul, pk_sub, zsubm, nI_clamp, nI_leI, nI_ltI, nI_eq, zeqF, Nat.reduceEqDiff, zleF, zleT, zltF, zltT, zneg1, zneg1L, zneg2, zneg0, eq_self, or_self, false_or, or_false, Nat.not_lt_zero, not_false_eq_true, not_true_eq_false]; done))) | (with_reducible refine Ev.ifp ?_ ?_; · (first | with_reducible assumption | decide | (simp (disch := omega) only [zlit, nI_add, pk_mul, pk_sub, zsubm, nI_clamp, nI_leI, nI_ltI, nI_eq, zeqF, Nat.reduceEqDiff, zleF, zleT, zltF, zltT, zneg1, zneg1L, zneg2, zneg0, eq_self, or_self, false_or, or_false, Nat.not_lt_zero, not_false_eq_true, not_true_eq_false]; done))) | (with_reducible refine Ev.bnd (hmp) ?_) | (with_reducible refine Ev.bnd (x := some _) rfl ?_))
      refine Ev.bnx (keeps_ev hN (w := R_thrown_s w 0) hu1 hu3) ?_
      intro k hk
      have hR2 : LR P 0 k.1 v10 := hR.keep h6 (fun j x y => hk.2.1 j (by omega))
      refine Ev.bnx (passes_v hN (w := R_s_thrown_state_undos w 0 k.1 k.2) (v1 := v2) (v2 := v3) (v := v10) (P := P) (b := 0) (g := g) (by omega) hT hI.2.2.1 hI.2.1 hI.1 hG.2.2.2 hG.1 hR2) ?_
      rintro ⟨s1, s2, s3⟩ ⟨g1, g2⟩
      have g1 : LR P 0 s3 (dayV v2 v3 P (nI g) v10) := g1
      have g2 : Fr 0 (0 + 46) k.1 s3 := g2
      have g3 : s3 (Int32.toNatClampNeg 1) = Lives_days v10 + 1 := g1.2.2.1
      refine Ev.ret ⟨?_, rfl, ?_⟩
      · show c5 = s3 (Int32.toNatClampNeg 1)
        rw [g3, hc5]
      · show RELx P L g _ v1 v2 (Laws_s_facts_stack v3 c6 c7) v7 v9 (Lives_s_purse_debt_home_days v10 c2 c3 c4 c5) v13 _ un mls mts _
        rw [hv]
        exact hand_yes (w' := R_s_thrown_facts_pile_state_undos w 0 s1 s2 s3 k.2) hh hq1 hu1 hq2 hu2 hn1 hn2 hk g1 (LI_day h6 hG.1 hI ⟨d, by omega, hd⟩) (fun j hj => g2 j (by omega)) rfl ⟨rfl, rfl, rfl, rfl, rfl, rfl, rfl, rfl, rfl, rfl, rfl, rfl, rfl⟩ (Laws_s_facts_stack v3 c6 c7) hT
    · rw [if_neg c] at hmp
      refine no ?_ hmp
      unfold f_Lives_nextDay
      have c2 : ¬ Lives_days v10 < 7 := by rw [hd]; exact nI_nlt (b := 7) (by omega) (by omega)
      rw [if_neg hz, if_neg c2]
/-! ===== swap ===== -/
def swapV (v : VLives) (l m : Nat) (a b : Int32) : VLives := Lives_self_s v (upd (upd (Lives_self v) l a) m b)
theorem LI_swap {P l m p q : Nat} {v : VLives} (h : LI P v) (hz : ¬ Lives_away v = 0) (hl : l < P) (hm : m < P) (hp : p < P) (hq : q < P) (hlm : ¬ l = m) (el : Lives_self v l = nI q) (em : Lives_self v m = nI p) : LI P (swapV v l m (nI p) (nI q)) := by
  obtain ⟨h1, h2, h3, h4, h5, h6, h7, h8⟩ := h
  have e : ∀ k, upd (upd (Lives_self v) l (nI p)) m (nI q) k = if k = m then nI q else if k = l then nI p else Lives_self v k := fun k => rfl
  refine ⟨h1, h2, fun k hk => ?_, fun j k hj hk hjk => ?_, h5, fun ha => absurd ha hz, h7, h8⟩
  · show ∃ j, j < P ∧ upd (upd (Lives_self v) l (nI p)) m (nI q) k = nI j
    rw [e]
    split
    · exact ⟨q, hq, rfl⟩
    · split
      · exact ⟨p, hp, rfl⟩
      · exact h3 k hk
  · have hjk : upd (upd (Lives_self v) l (nI p)) m (nI q) j = upd (upd (Lives_self v) l (nI p)) m (nI q) k := hjk
    rw [e, e] at hjk
    by_cases a1 : j = m
    · by_cases b1 : k = m
      · exact a1.trans b1.symm
      · rw [if_pos a1, if_neg b1] at hjk
        by_cases b2 : k = l
        · rw [if_pos b2] at hjk
          have : Lives_self v l = Lives_self v m := by rw [el, em]; exact hjk
          exact absurd (h4 l m hl hm this) hlm
        · rw [if_neg b2, ← el] at hjk
          exact absurd (h4 l k hl hk hjk).symm b2
    · rw [if_neg a1] at hjk
      by_cases a2 : j = l
      · rw [if_pos a2] at hjk
        by_cases b1 : k = m
        · rw [if_pos b1] at hjk
          have : Lives_self v l = Lives_self v m := by rw [el, em]; exact hjk.symm
          exact absurd (h4 l m hl hm this) hlm
        · rw [if_neg b1] at hjk
          by_cases b2 : k = l
          · exact a2.trans b2.symm
          · rw [if_neg b2, ← em] at hjk
            exact absurd (h4 m k hm hk hjk).symm b1
      · rw [if_neg a2] at hjk
        by_cases b1 : k = m
        · rw [if_pos b1, ← el] at hjk
          exact absurd (h4 j l hj hl hjk) a2
        · rw [if_neg b1] at hjk
          by_cases b2 : k = l
          · rw [if_pos b2, ← em] at hjk
            exact absurd (h4 j m hj hm hjk) a1
          · rw [if_neg b2] at hjk
            exact h4 j k hj hk hjk
theorem LR_swap {P b l m : Nat} {st : Nat → Int32} {v : VLives} {x y : Int32} (h6 : P ≤ 6) (h : LR P b st v) (hl : l < P) (hm : m < P) : LR P b (upd (upd st (b + 28 + l) x) (b + 28 + m) y) (swapV v l m x y) := by
  obtain ⟨h1, h2, h3, h4, h5, h7, h8⟩ := h
  have e : ∀ j, ¬ (b + 28 ≤ j ∧ j < b + 34) → upd (upd st (b + 28 + l) x) (b + 28 + m) y j = st j := fun j hj => by
    rw [pk_un (by omega), pk_un (by omega)]
  refine ⟨fun k hk => ?_, ?_, ?_, ?_, ?_, h7, fun ha k hk => ?_⟩
  · obtain ⟨a1, a2, a3, a4, a5⟩ := h1 k hk
    refine ⟨?_, ?_, ?_, ?_, ?_⟩
    · rw [e _ (by omega)]; exact a1
    · rw [e _ (by omega)]; exact a2
    · rw [e _ (by omega)]; exact a3
    · rw [e _ (by omega)]; exact a4
    · show _ = upd (upd (Lives_self v) l x) m y k
      by_cases c1 : k = m
      · subst c1; rw [pk_us, pk_us]
      · rw [pk_un (by omega), pk_un c1]
        by_cases c2 : k = l
        · subst c2; rw [pk_us, pk_us]
        · rw [pk_un (by omega), pk_un c2]; exact a5
  · rw [e _ (by omega)]; exact h2
  · rw [e _ (by omega)]; exact h3
  · rw [e _ (by omega)]; exact h4
  · rw [e _ (by omega)]; exact h5
  · rw [e _ (by omega), e _ (by omega)]; exact h8 ha k hk
/-- whether two may swap, on both sides; and what comes of it -/
theorem swap_both {N : Nat} (hN : 10000 ≤ N) {w : VR} {v : VLives} {v2 : VTown} {v3 : VLaws} {P b p q : Nat} (hb : b ≤ 1584) (hT : townR w v2 v3 P) (hB : barR w v2 P) (hR : LR P b (R_state w) v) (hI : LI P v) (hp : p < P) (hq : q < P) :
    (f_Lives_changeLives N v v2 v3 (nI p) (nI q) = some (0, Lives_self v) ∧ f_R_maySwap N w (nI b) (nI p) (nI q) = some 0) ∨
    ∃ l m, l < P ∧ m < P ∧ ¬ l = m ∧ ¬ Lives_away v = 0 ∧ Lives_self v l = nI q ∧ Lives_self v m = nI p ∧ f_Lives_changeLives N v v2 v3 (nI p) (nI q) = some (1, upd (upd (Lives_self v) l (nI p)) m (nI q)) ∧ f_R_maySwap N w (nI b) (nI p) (nI q) = some 1 ∧ f_R_ledBy N w (nI b) (nI p) = some (nI m) ∧ f_R_ledBy N w (nI b) (nI q) = some (nI l) := by
  have hP := hT.1
  have h6 := hT.1.2
  obtain ⟨m, hm, em⟩ := led_ex h6 hI hp
  obtain ⟨l, hl, el⟩ := led_ex h6 hI hq
  have c1 := ledBy_ok hN (v2 := v3) hP hI hm em
  have c2 := ledBy_ok hN (v2 := v3) hP hI hl el
  have r1 := rledBy_ok hN hb h6 hR hI hm em
  have r2 := rledBy_ok hN hb h6 hR hI hl el
  obtain ⟨x1, x2, x3, x4⟩ := mayBe_ok (N := N) hT hB hp hl
  obtain ⟨y1, y2, y3, y4⟩ := mayBe_ok (N := N) hT hB hq hm
  unfold f_Lives_changeLives f_R_maySwap
  rw [show nI b + 0 = nI (b + 0) from nI_add b 0, nI_clamp (n := b + 0) (by omega), hR.2.1]
  rcases hR.2.2.2.2.2.1 with hz | hz
  · left
    rw [hz]
    constructor
    · repeat (first | (with_reducible refine zletE ?_) | (with_reducible refine zifn ?_ ?_; · (first | with_reducible assumption | decide | (simp (disch := omega) only [zlit, nI_add, pk_mul, pk_sub, zsubm, nI_clamp, nI_leI, nI_ltI, nI_eq, zeqF, Nat.reduceEqDiff, zleF, zleT, zltF, zltT, zneg1, zneg1L, zneg2, zneg0, eq_self, or_self, false_or, or_false, Nat.not_lt_zero, not_false_eq_true, not_true_eq_false]; done))) | (with_reducible refine zifp ?_ ?_; · (first | with_reducible assumption | decide | (simp (disch := omega) only [zlit, nI_add, pk_mul, pk_sub, zsubm, nI_clamp, nI_leI, nI_ltI, nI_eq, zeqF, Nat.reduceEqDiff, zleF, zleT, zltF, zltT, zneg1, zneg1L, zneg2, zneg0, eq_self, or_self, false_or, or_false, Nat.not_lt_zero, not_false_eq_true, not_true_eq_false]; done))) | (with_reducible refine bnd (c1) ?_) | (with_reducible refine bnd (c2) ?_) | (with_reducible refine bnd (x := some _) rfl ?_))
      rfl
    · repeat (first | (with_reducible refine zletE ?_) | (with_reducible refine zifn ?_ ?_; · (first | with_reducible assumption | decide | (simp (disch := omega) only [zlit, nI_add, pk_mul, pk_sub, zsubm, nI_clamp, nI_leI, nI_ltI, nI_eq, zeqF, Nat.reduceEqDiff, zleF, zleT, zltF, zltT, zneg1, zneg1L, zneg2, zneg0, eq_self, or_self, false_or, or_false, Nat.not_lt_zero, not_false_eq_true, not_true_eq_false]; done))) | (with_reducible refine zifp ?_ ?_; · (first | with_reducible assumption | decide | (simp (disch := omega) only [zlit, nI_add, pk_mul, pk_sub, zsubm, nI_clamp, nI_leI, nI_ltI, nI_eq, zeqF, Nat.reduceEqDiff, zleF, zleT, zltF, zltT, zneg1, zneg1L, zneg2, zneg0, eq_self, or_self, false_or, or_false, Nat.not_lt_zero, not_false_eq_true, not_true_eq_false]; done))) | (with_reducible refine bnd (x := some _) rfl ?_))
      rfl
  · have hz0 : ¬ Lives_away v = 0 := by rw [hz]; decide
    rw [hz]
    by_cases hpq : p = q
    · have e : nI p = nI q := by rw [hpq]
      left
      constructor
      · repeat (first | (with_reducible refine zletE ?_) | (with_reducible refine zifn ?_ ?_; · (first | with_reducible assumption | decide | (simp (disch := omega) only [zlit, nI_add, pk_mul, pk_sub, zsubm, nI_clamp, nI_leI, nI_ltI, nI_eq, zeqF, Nat.reduceEqDiff, zleF, zleT, zltF, zltT, zneg1, zneg1L, zneg2, zneg0, eq_self, or_self, false_or, or_false, Nat.not_lt_zero, not_false_eq_true, not_true_eq_false]; done))) | (with_reducible refine zifp ?_ ?_; · (first | with_reducible assumption | decide | (simp (disch := omega) only [zlit, nI_add, pk_mul, pk_sub, zsubm, nI_clamp, nI_leI, nI_ltI, nI_eq, zeqF, Nat.reduceEqDiff, zleF, zleT, zltF, zltT, zneg1, zneg1L, zneg2, zneg0, eq_self, or_self, false_or, or_false, Nat.not_lt_zero, not_false_eq_true, not_true_eq_false]; done))) | (with_reducible refine bnd (c1) ?_) | (with_reducible refine bnd (c2) ?_) | (with_reducible refine bnd (x := some _) rfl ?_))
        rfl
      · repeat (first | (with_reducible refine zletE ?_) | (with_reducible refine zifn ?_ ?_; · (first | with_reducible assumption | decide | (simp (disch := omega) only [zlit, nI_add, pk_mul, pk_sub, zsubm, nI_clamp, nI_leI, nI_ltI, nI_eq, zeqF, Nat.reduceEqDiff, zleF, zleT, zltF, zltT, zneg1, zneg1L, zneg2, zneg0, eq_self, or_self, false_or, or_false, Nat.not_lt_zero, not_false_eq_true, not_true_eq_false]; done))) | (with_reducible refine zifp ?_ ?_; · (first | with_reducible assumption | decide | (simp (disch := omega) only [zlit, nI_add, pk_mul, pk_sub, zsubm, nI_clamp, nI_leI, nI_ltI, nI_eq, zeqF, Nat.reduceEqDiff, zleF, zleT, zltF, zltT, zneg1, zneg1L, zneg2, zneg0, eq_self, or_self, false_or, or_false, Nat.not_lt_zero, not_false_eq_true, not_true_eq_false]; done))) | (with_reducible refine bnd (x := some _) rfl ?_))
        rfl
    · have e : ¬ nI p = nI q := fun h => hpq ((nI_eq (by omega) (by omega)).mp h)
      rcases x4 with rfl | rfl
      · left
        constructor
        · repeat (first | (with_reducible refine zletE ?_) | (with_reducible refine zifn ?_ ?_; · (first | with_reducible assumption | decide | (simp (disch := omega) only [zlit, nI_add, pk_mul, pk_sub, zsubm, nI_clamp, nI_leI, nI_ltI, nI_eq, zeqF, Nat.reduceEqDiff, zleF, zleT, zltF, zltT, zneg1, zneg1L, zneg2, zneg0, eq_self, or_self, false_or, or_false, Nat.not_lt_zero, not_false_eq_true, not_true_eq_false]; done))) | (with_reducible refine zifp ?_ ?_; · (first | with_reducible assumption | decide | (simp (disch := omega) only [zlit, nI_add, pk_mul, pk_sub, zsubm, nI_clamp, nI_leI, nI_ltI, nI_eq, zeqF, Nat.reduceEqDiff, zleF, zleT, zltF, zltT, zneg1, zneg1L, zneg2, zneg0, eq_self, or_self, false_or, or_false, Nat.not_lt_zero, not_false_eq_true, not_true_eq_false]; done))) | (with_reducible refine bnd (c1) ?_) | (with_reducible refine bnd (c2) ?_) | (with_reducible refine bnd (x3) ?_) | (with_reducible refine bnd (x := some _) rfl ?_))
          rfl
        · repeat (first | (with_reducible refine zletE ?_) | (with_reducible refine zifn ?_ ?_; · (first | with_reducible assumption | decide | (simp (disch := omega) only [zlit, nI_add, pk_mul, pk_sub, zsubm, nI_clamp, nI_leI, nI_ltI, nI_eq, zeqF, Nat.reduceEqDiff, zleF, zleT, zltF, zltT, zneg1, zneg1L, zneg2, zneg0, eq_self, or_self, false_or, or_false, Nat.not_lt_zero, not_false_eq_true, not_true_eq_false]; done))) | (with_reducible refine zifp ?_ ?_; · (first | with_reducible assumption | decide | (simp (disch := omega) only [zlit, nI_add, pk_mul, pk_sub, zsubm, nI_clamp, nI_leI, nI_ltI, nI_eq, zeqF, Nat.reduceEqDiff, zleF, zleT, zltF, zltT, zneg1, zneg1L, zneg2, zneg0, eq_self, or_self, false_or, or_false, Nat.not_lt_zero, not_false_eq_true, not_true_eq_false]; done))) | (with_reducible refine bnd (r2) ?_) | (with_reducible refine bnd (x2) ?_) | (with_reducible refine bnd (x := some _) rfl ?_))
          rfl
      · rcases y4 with rfl | rfl
        · left
          constructor
          · repeat (first | (with_reducible refine zletE ?_) | (with_reducible refine zifn ?_ ?_; · (first | with_reducible assumption | decide | (simp (disch := omega) only [zlit, nI_add, pk_mul, pk_sub, zsubm, nI_clamp, nI_leI, nI_ltI, nI_eq, zeqF, Nat.reduceEqDiff, zleF, zleT, zltF, zltT, zneg1, zneg1L, zneg2, zneg0, eq_self, or_self, false_or, or_false, Nat.not_lt_zero, not_false_eq_true, not_true_eq_false]; done))) | (with_reducible refine zifp ?_ ?_; · (first | with_reducible assumption | decide | (simp (disch := omega) only [zlit, nI_add, pk_mul, pk_sub, zsubm, nI_clamp, nI_leI, nI_ltI, nI_eq, zeqF, Nat.reduceEqDiff, zleF, zleT, zltF, zltT, zneg1, zneg1L, zneg2, zneg0, eq_self, or_self, false_or, or_false, Nat.not_lt_zero, not_false_eq_true, not_true_eq_false]; done))) | (with_reducible refine bnd (c1) ?_) | (with_reducible refine bnd (c2) ?_) | (with_reducible refine bnd (x3) ?_) | (with_reducible refine bnd (y3) ?_) | (with_reducible refine bnd (x := some _) rfl ?_))
            rfl
          · repeat (first | (with_reducible refine zletE ?_) | (with_reducible refine zifn ?_ ?_; · (first | with_reducible assumption | decide | (simp (disch := omega) only [zlit, nI_add, pk_mul, pk_sub, zsubm, nI_clamp, nI_leI, nI_ltI, nI_eq, zeqF, Nat.reduceEqDiff, zleF, zleT, zltF, zltT, zneg1, zneg1L, zneg2, zneg0, eq_self, or_self, false_or, or_false, Nat.not_lt_zero, not_false_eq_true, not_true_eq_false]; done))) | (with_reducible refine zifp ?_ ?_; · (first | with_reducible assumption | decide | (simp (disch := omega) only [zlit, nI_add, pk_mul, pk_sub, zsubm, nI_clamp, nI_leI, nI_ltI, nI_eq, zeqF, Nat.reduceEqDiff, zleF, zleT, zltF, zltT, zneg1, zneg1L, zneg2, zneg0, eq_self, or_self, false_or, or_false, Nat.not_lt_zero, not_false_eq_true, not_true_eq_false]; done))) | (with_reducible refine bnd (r2) ?_) | (with_reducible refine bnd (x2) ?_) | (with_reducible refine bnd (r1) ?_) | (with_reducible refine bnd (y2) ?_) | (with_reducible refine bnd (x := some _) rfl ?_))
            rfl
        · right
          refine ⟨l, m, hl, hm, fun h => ?_, by decide, el, em, ?_, ?_, r1, r2⟩
          · subst h
            exact e (em.symm.trans el)
          · repeat (first | (with_reducible refine zletE ?_) | (with_reducible refine zifn ?_ ?_; · (first | with_reducible assumption | decide | (simp (disch := omega) only [zlit, nI_add, pk_mul, pk_sub, zsubm, nI_clamp, nI_leI, nI_ltI, nI_eq, zeqF, Nat.reduceEqDiff, zleF, zleT, zltF, zltT, zneg1, zneg1L, zneg2, zneg0, eq_self, or_self, false_or, or_false, Nat.not_lt_zero, not_false_eq_true, not_true_eq_false]; done))) | (with_reducible refine zifp ?_ ?_; · (first | with_reducible assumption | decide | (simp (disch := omega) only [zlit, nI_add, pk_mul, pk_sub, zsubm, nI_clamp, nI_leI, nI_ltI, nI_eq, zeqF, Nat.reduceEqDiff, zleF, zleT, zltF, zltT, zneg1, zneg1L, zneg2, zneg0, eq_self, or_self, false_or, or_false, Nat.not_lt_zero, not_false_eq_true, not_true_eq_false]; done))) | (with_reducible refine bnd (c1) ?_) | (with_reducible refine bnd (c2) ?_) | (with_reducible refine bnd (x3) ?_) | (with_reducible refine bnd (y3) ?_) | (with_reducible refine bnd (x := some _) rfl ?_))
            rw [nI_clamp (n := l) (by omega), nI_clamp (n := m) (by omega)]
            rfl
          · repeat (first | (with_reducible refine zletE ?_) | (with_reducible refine zifn ?_ ?_; · (first | with_reducible assumption | decide | (simp (disch := omega) only [zlit, nI_add, pk_mul, pk_sub, zsubm, nI_clamp, nI_leI, nI_ltI, nI_eq, zeqF, Nat.reduceEqDiff, zleF, zleT, zltF, zltT, zneg1, zneg1L, zneg2, zneg0, eq_self, or_self, false_or, or_false, Nat.not_lt_zero, not_false_eq_true, not_true_eq_false]; done))) | (with_reducible refine zifp ?_ ?_; · (first | with_reducible assumption | decide | (simp (disch := omega) only [zlit, nI_add, pk_mul, pk_sub, zsubm, nI_clamp, nI_leI, nI_ltI, nI_eq, zeqF, Nat.reduceEqDiff, zleF, zleT, zltF, zltT, zneg1, zneg1L, zneg2, zneg0, eq_self, or_self, false_or, or_false, Nat.not_lt_zero, not_false_eq_true, not_true_eq_false]; done))) | (with_reducible refine bnd (r2) ?_) | (with_reducible refine bnd (x2) ?_) | (with_reducible refine bnd (r1) ?_) | (with_reducible refine bnd (y2) ?_) | (with_reducible refine bnd (x := some _) rfl ?_))
            rfl
theorem swaps_ok {N : Nat} {w : VR} {b l m p q : Nat} (hb : b ≤ 1584) (hl : l < 6) (hm : m < 6) (r1 : f_R_ledBy N w (nI b) (nI p) = some (nI m)) (r2 : f_R_ledBy N w (nI b) (nI q) = some (nI l)) : f_R_swaps N w (nI b) (nI p) (nI q) = some (upd (upd (R_state w) (b + 28 + m) (nI q)) (b + 28 + l) (nI p)) := by
  unfold f_R_swaps
  repeat (first | (with_reducible refine zletE ?_) | (with_reducible refine zifn ?_ ?_; · (first | with_reducible assumption | decide | (simp (disch := omega) only [zlit, nI_add, pk_mul, pk_sub, zsubm, nI_clamp, nI_leI, nI_ltI, nI_eq, zeqF, Nat.reduceEqDiff, zleF, zleT, zltF, zltT, zneg1, zneg1L, zneg2, zneg0, eq_self, or_self, false_or, or_false, Nat.not_lt_zero, not_false_eq_true, not_true_eq_false]; done))) | (with_reducible refine zifp ?_ ?_; · (first | with_reducible assumption | decide | (simp (disch := omega) only [zlit, nI_add, pk_mul, pk_sub, zsubm, nI_clamp, nI_leI, nI_ltI, nI_eq, zeqF, Nat.reduceEqDiff, zleF, zleT, zltF, zltT, zneg1, zneg1L, zneg2, zneg0, eq_self, or_self, false_or, or_false, Nat.not_lt_zero, not_false_eq_true, not_true_eq_false]; done))) | (with_reducible refine bnd (r1) ?_) | (with_reducible refine bnd (r2) ?_) | (with_reducible refine bnd (x := some _) rfl ?_))
  rw [show Int32.toNatClampNeg ((nI b + 28) + nI l) = b + 28 + l from ix (c := 28) (by omega), show Int32.toNatClampNeg ((nI b + 28) + nI m) = b + 28 + m from ix (c := 28) (by omega)]
theorem m_swap {N : Nat} (hN : 10000 ≤ N) {v0 : VBl} {v1 : VTape} {v2 : VTown} {v3 : VLaws} {v4 : VReader} {v5 : VTown} {v6 : VLaws} {v7 : VYear} {v8 : VYear} {v9 : VLots} {v10 : VLives} {v11 : VLives} {v13 : VTales} {v17 : VForecast} {v18 : VLives} {v19 : VDeeds} {v20 : VPairs} {und mls : Nat → VLives} {mts : Nat → VTales} {w : VR} {P L g : Nat} (h : RELx P L g v0 v1 v2 v3 v7 v9 v10 v13 v17 und mls mts w) (a1 a2 : Int32) : Ev (f_Bl_swap N v0 v1 v2 v3 v4 v5 v6 v7 v8 v9 v10 v11 v13 v17 v18 v19 v20 und mls mts a1 a2) (fun r => Ev (f_R_swap N w a1 a2) (fun q => r.1 = q.1 ∧ q.2.1 = 0 ∧ RELx P L g (r.2.2.1, r.2.2.2.1, Bl_laid v0) v1 v2 v3 v7 v9 (Lives_self_s v10 r.2.2.2.2.1) v13 (Forecast_s_ready_prepared v17 r.2.2.2.2.2.1 r.2.2.2.2.2.2) r.2.1 mls mts (R_s_thrown_state_undos w q.2.1 q.2.2.1 q.2.2.2))) := by
  have hh := h
  obtain ⟨⟨hT, hB, hG, hD⟩, hl, ⟨hR, hI⟩, hta, htl, hu, hm, hpl, hf⟩ := h
  have hP := hT.1
  have h6 := hT.1.2
  have hT' : townR (R_thrown_s w 0) v2 v3 P := hT
  obtain ⟨u, q, hu1, hq1, hu2, hu3, hq2, hu4⟩ := hu
  have ha := hR.2.2.2.2.2.1
  unfold f_Bl_swap
  refine Ev.bnx (keepForUndo_ev hq1 hq2 ha) ?_
  rintro un ⟨hn1, hn2⟩
  have no : f_Lives_changeLives N v10 v2 v3 a1 a2 = some (0, Lives_self v10) → f_R_swap N w a1 a2 = some (0, 0, R_state w, R_undos w) → Ev ((f_Lives_changeLives N v10 v2 v3 a1 a2).bind fun q2 => (f_Bl_byHand N v0 v1 v2 v3 v4 v5 v6 v7 v8 v9 (Lives_self_s v10 q2.2) v11 v13 v17 v18 v19 v20 un mls mts q2.1).bind fun q3 => if q3.1 = 0 ∨ q3.1 = 1 then some (q3.1, un, q3.2.1, q3.2.2.1, q2.2, q3.2.2.2.1, q3.2.2.2.2) else none) (fun r => Ev (f_R_swap N w a1 a2) (fun q => r.1 = q.1 ∧ q.2.1 = 0 ∧ RELx P L g (r.2.2.1, r.2.2.2.1, Bl_laid v0) v1 v2 v3 v7 v9 (Lives_self_s v10 r.2.2.2.2.1) v13 (Forecast_s_ready_prepared v17 r.2.2.2.2.2.1 r.2.2.2.2.2.2) r.2.1 mls mts (R_s_thrown_state_undos w q.2.1 q.2.2.1 q.2.2.2))) := by
    intro e e2
    have hb := byHand_no (N := N) (v0 := v0) (v1 := v1) (v2 := v2) (v3 := v3) (v4 := v4) (v5 := v5) (v6 := v6) (v7 := v7) (v8 := v8) (v9 := v9) (v10 := Lives_self_s v10 (Lives_self v10)) (v11 := v11) (v13 := v13) (v17 := v17) (v18 := v18) (v19 := v19) (v20 := v20) (und := un) (mls := mls) (mts := mts)
    repeat (first | (with_reducible refine Ev.letE ?_) | (with_reducible refine Ev.ifn ?_ ?_; · (first | with_reducible assumption | decide | (simp (disch := omega) only [zlit, nI_add, pk_mul, pk_sub, zsubm, nI_clamp, nI_leI, nI_ltI, nI_eq, zeqF, Nat.reduceEqDiff, zleF, zleT, zltF, zltT, zneg1, zneg1L, zneg2, zneg0, eq_self, or_self, false_or, or_false, Nat.not_lt_zero, not_false_eq_true, not_true_eq_false]; done))) | (with_reducible refine Ev.ifp ?_ ?_; · (first | with_reducible assumption | decide | (simp (disch := omega) only [zlit, nI_add, pk_mul, pk_sub, zsubm, nI_clamp, nI_leI, nI_ltI, nI_eq, zeqF, Nat.reduceEqDiff, zleF, zleT, zltF, zltT, zneg1, zneg1L, zneg2, zneg0, eq_self, or_self, false_or, or_false, Nat.not_lt_zero, not_false_eq_true, not_true_eq_false]; done))) | (with_reducible refine Ev.bnd (e) ?_) | (with_reducible refine Ev.bnd (hb) ?_) | (with_reducible refine Ev.bnd (x := some _) rfl ?_))
    exact Ev.ret (Ev.of e2 ⟨rfl, rfl, hand_no (w' := R_s_thrown_state_undos w 0 (R_state w) (R_undos w)) hh hq1 hq2 hn2 ⟨rfl, rfl, rfl, rfl, rfl, rfl, rfl, rfl, rfl, rfl, rfl, rfl, rfl⟩ rfl rfl⟩)
  rcases isPerson_both (N := N) hT' a1 with ⟨e1, e2⟩ | ⟨p, hp, rfl, e1, e2⟩
  · refine no ?_ ?_
    · have e3 : ∀ x, f_Town_allows N v2 v3 a1 x = some 0 := fun x => by
        unfold f_Town_allows
        repeat (first | (with_reducible refine zletE ?_) | (with_reducible refine zifn ?_ ?_; · (first | with_reducible assumption | decide | (simp (disch := omega) only [zlit, nI_add, pk_mul, pk_sub, zsubm, nI_clamp, nI_leI, nI_ltI, nI_eq, zeqF, Nat.reduceEqDiff, zleF, zleT, zltF, zltT, zneg1, zneg1L, zneg2, zneg0, eq_self, or_self, false_or, or_false, Nat.not_lt_zero, not_false_eq_true, not_true_eq_false]; done))) | (with_reducible refine zifp ?_ ?_; · (first | with_reducible assumption | decide | (simp (disch := omega) only [zlit, nI_add, pk_mul, pk_sub, zsubm, nI_clamp, nI_leI, nI_ltI, nI_eq, zeqF, Nat.reduceEqDiff, zleF, zleT, zltF, zltT, zneg1, zneg1L, zneg2, zneg0, eq_self, or_self, false_or, or_false, Nat.not_lt_zero, not_false_eq_true, not_true_eq_false]; done))) | (with_reducible refine bnd (e1) ?_) | (with_reducible refine bnd (x := some _) rfl ?_))
        rfl
      obtain ⟨c1, d1, -⟩ := ledBy_ev hN (v := v10) (v2 := v3) hP a1
      obtain ⟨c2, d2, -⟩ := ledBy_ev hN (v := v10) (v2 := v3) hP a2
      unfold f_Lives_changeLives
      rw [d1, d2]
      by_cases hz : Lives_away v10 = 0
      · repeat (first | (with_reducible refine zletE ?_) | (with_reducible refine zifn ?_ ?_; · (first | with_reducible assumption | decide | (simp (disch := omega) only [zlit, nI_add, pk_mul, pk_sub, zsubm, nI_clamp, nI_leI, nI_ltI, nI_eq, zeqF, Nat.reduceEqDiff, zleF, zleT, zltF, zltT, zneg1, zneg1L, zneg2, zneg0, eq_self, or_self, false_or, or_false, Nat.not_lt_zero, not_false_eq_true, not_true_eq_false]; done))) | (with_reducible refine zifp ?_ ?_; · (first | with_reducible assumption | decide | (simp (disch := omega) only [zlit, nI_add, pk_mul, pk_sub, zsubm, nI_clamp, nI_leI, nI_ltI, nI_eq, zeqF, Nat.reduceEqDiff, zleF, zleT, zltF, zltT, zneg1, zneg1L, zneg2, zneg0, eq_self, or_self, false_or, or_false, Nat.not_lt_zero, not_false_eq_true, not_true_eq_false]; done))) | (with_reducible refine bnd (x := some _) rfl ?_))
        rfl
      · by_cases hx : a1 = a2
        · repeat (first | (with_reducible refine zletE ?_) | (with_reducible refine zifn ?_ ?_; · (first | with_reducible assumption | decide | (simp (disch := omega) only [zlit, nI_add, pk_mul, pk_sub, zsubm, nI_clamp, nI_leI, nI_ltI, nI_eq, zeqF, Nat.reduceEqDiff, zleF, zleT, zltF, zltT, zneg1, zneg1L, zneg2, zneg0, eq_self, or_self, false_or, or_false, Nat.not_lt_zero, not_false_eq_true, not_true_eq_false]; done))) | (with_reducible refine zifp ?_ ?_; · (first | with_reducible assumption | decide | (simp (disch := omega) only [zlit, nI_add, pk_mul, pk_sub, zsubm, nI_clamp, nI_leI, nI_ltI, nI_eq, zeqF, Nat.reduceEqDiff, zleF, zleT, zltF, zltT, zneg1, zneg1L, zneg2, zneg0, eq_self, or_self, false_or, or_false, Nat.not_lt_zero, not_false_eq_true, not_true_eq_false]; done))) | (with_reducible refine bnd (x := some _) rfl ?_))
          rfl
        · repeat (first | (with_reducible refine zletE ?_) | (with_reducible refine zifn ?_ ?_; · (first | with_reducible assumption | decide | (simp (disch := omega) only [zlit, nI_add, pk_mul, pk_sub, zsubm, nI_clamp, nI_leI, nI_ltI, nI_eq, zeqF, Nat.reduceEqDiff, zleF, zleT, zltF, zltT, zneg1, zneg1L, zneg2, zneg0, eq_self, or_self, false_or, or_false, Nat.not_lt_zero, not_false_eq_true, not_true_eq_false]; done))) | (with_reducible refine zifp ?_ ?_; · (first | with_reducible assumption | decide | (simp (disch := omega) only [zlit, nI_add, pk_mul, pk_sub, zsubm, nI_clamp, nI_leI, nI_ltI, nI_eq, zeqF, Nat.reduceEqDiff, zleF, zleT, zltF, zltT, zneg1, zneg1L, zneg2, zneg0, eq_self, or_self, false_or, or_false, Nat.not_lt_zero, not_false_eq_true, not_true_eq_false]; done))) | (with_reducible refine bnd (e3 _) ?_) | (with_reducible refine bnd (x := some _) rfl ?_))
          rfl
    · unfold f_R_swap
      repeat (first | (with_reducible refine zletE ?_) | (with_reducible refine zifn ?_ ?_; · (first | with_reducible assumption | decide | (simp (disch := omega) only [zlit, nI_add, pk_mul, pk_sub, zsubm, nI_clamp, nI_leI, nI_ltI, nI_eq, zeqF, Nat.reduceEqDiff, zleF, zleT, zltF, zltT, zneg1, zneg1L, zneg2, zneg0, eq_self, or_self, false_or, or_false, Nat.not_lt_zero, not_false_eq_true, not_true_eq_false]; done))) | (with_reducible refine zifp ?_ ?_; · (first | with_reducible assumption | decide | (simp (disch := omega) only [zlit, nI_add, pk_mul, pk_sub, zsubm, nI_clamp, nI_leI, nI_ltI, nI_eq, zeqF, Nat.reduceEqDiff, zleF, zleT, zltF, zltT, zneg1, zneg1L, zneg2, zneg0, eq_self, or_self, false_or, or_false, Nat.not_lt_zero, not_false_eq_true, not_true_eq_false]; done))) | (with_reducible refine bnd (e2) ?_) | (with_reducible refine bnd (x := some _) rfl ?_))
      rfl
  · rcases isPerson_both (N := N) hT' a2 with ⟨g1, g2⟩ | ⟨r, hr, rfl, g1, g2⟩
    · refine no ?_ ?_
      · have e3 : ∀ x, f_Town_allows N v2 v3 a2 x = some 0 := fun x => by
          unfold f_Town_allows
          repeat (first | (with_reducible refine zletE ?_) | (with_reducible refine zifn ?_ ?_; · (first | with_reducible assumption | decide | (simp (disch := omega) only [zlit, nI_add, pk_mul, pk_sub, zsubm, nI_clamp, nI_leI, nI_ltI, nI_eq, zeqF, Nat.reduceEqDiff, zleF, zleT, zltF, zltT, zneg1, zneg1L, zneg2, zneg0, eq_self, or_self, false_or, or_false, Nat.not_lt_zero, not_false_eq_true, not_true_eq_false]; done))) | (with_reducible refine zifp ?_ ?_; · (first | with_reducible assumption | decide | (simp (disch := omega) only [zlit, nI_add, pk_mul, pk_sub, zsubm, nI_clamp, nI_leI, nI_ltI, nI_eq, zeqF, Nat.reduceEqDiff, zleF, zleT, zltF, zltT, zneg1, zneg1L, zneg2, zneg0, eq_self, or_self, false_or, or_false, Nat.not_lt_zero, not_false_eq_true, not_true_eq_false]; done))) | (with_reducible refine bnd (g1) ?_) | (with_reducible refine bnd (x := some _) rfl ?_))
          rfl
        obtain ⟨c1, d1, -⟩ := ledBy_ev hN (v := v10) (v2 := v3) hP (nI p)
        obtain ⟨c2, d2, f2⟩ := ledBy_ev hN (v := v10) (v2 := v3) hP a2
        have f3 : c2 = (-1) := by
          rcases f2 with ⟨f2, -⟩ | ⟨k, k1, k2, k3⟩
          · exact f2
          · obtain ⟨j, hj, ej⟩ := hI.2.2.1 k k1
            rw [← k3, ej, has_ok hP hj] at g1
            cases g1
        subst f3
        have e4 : f_Town_allows N v2 v3 (nI p) (-1) = some 0 := by
          unfold f_Town_allows
          have : f_Town_has N v2 v3 (-1) = some 0 := by
            unfold f_Town_has
            rw [if_pos (by decide)]
          repeat (first | (with_reducible refine zletE ?_) | (with_reducible refine zifn ?_ ?_; · (first | with_reducible assumption | decide | (simp (disch := omega) only [zlit, nI_add, pk_mul, pk_sub, zsubm, nI_clamp, nI_leI, nI_ltI, nI_eq, zeqF, Nat.reduceEqDiff, zleF, zleT, zltF, zltT, zneg1, zneg1L, zneg2, zneg0, eq_self, or_self, false_or, or_false, Nat.not_lt_zero, not_false_eq_true, not_true_eq_false]; done))) | (with_reducible refine zifp ?_ ?_; · (first | with_reducible assumption | decide | (simp (disch := omega) only [zlit, nI_add, pk_mul, pk_sub, zsubm, nI_clamp, nI_leI, nI_ltI, nI_eq, zeqF, Nat.reduceEqDiff, zleF, zleT, zltF, zltT, zneg1, zneg1L, zneg2, zneg0, eq_self, or_self, false_or, or_false, Nat.not_lt_zero, not_false_eq_true, not_true_eq_false]; done))) | (with_reducible refine bnd (e1) ?_) | (with_reducible refine bnd (this) ?_) | (with_reducible refine bnd (x := some _) rfl ?_))
          rfl
        unfold f_Lives_changeLives
        rw [d1, d2]
        by_cases hz : Lives_away v10 = 0
        · repeat (first | (with_reducible refine zletE ?_) | (with_reducible refine zifn ?_ ?_; · (first | with_reducible assumption | decide | (simp (disch := omega) only [zlit, nI_add, pk_mul, pk_sub, zsubm, nI_clamp, nI_leI, nI_ltI, nI_eq, zeqF, Nat.reduceEqDiff, zleF, zleT, zltF, zltT, zneg1, zneg1L, zneg2, zneg0, eq_self, or_self, false_or, or_false, Nat.not_lt_zero, not_false_eq_true, not_true_eq_false]; done))) | (with_reducible refine zifp ?_ ?_; · (first | with_reducible assumption | decide | (simp (disch := omega) only [zlit, nI_add, pk_mul, pk_sub, zsubm, nI_clamp, nI_leI, nI_ltI, nI_eq, zeqF, Nat.reduceEqDiff, zleF, zleT, zltF, zltT, zneg1, zneg1L, zneg2, zneg0, eq_self, or_self, false_or, or_false, Nat.not_lt_zero, not_false_eq_true, not_true_eq_false]; done))) | (with_reducible refine bnd (x := some _) rfl ?_))
          rfl
        · by_cases hx : nI p = a2
          · repeat (first | (with_reducible refine zletE ?_) | (with_reducible refine zifn ?_ ?_; · (first | with_reducible assumption | decide | (simp (disch := omega) only [zlit, nI_add, pk_mul, pk_sub, zsubm, nI_clamp, nI_leI, nI_ltI, nI_eq, zeqF, Nat.reduceEqDiff, zleF, zleT, zltF, zltT, zneg1, zneg1L, zneg2, zneg0, eq_self, or_self, false_or, or_false, Nat.not_lt_zero, not_false_eq_true, not_true_eq_false]; done))) | (with_reducible refine zifp ?_ ?_; · (first | with_reducible assumption | decide | (simp (disch := omega) only [zlit, nI_add, pk_mul, pk_sub, zsubm, nI_clamp, nI_leI, nI_ltI, nI_eq, zeqF, Nat.reduceEqDiff, zleF, zleT, zltF, zltT, zneg1, zneg1L, zneg2, zneg0, eq_self, or_self, false_or, or_false, Nat.not_lt_zero, not_false_eq_true, not_true_eq_false]; done))) | (with_reducible refine bnd (x := some _) rfl ?_))
            rfl
          · repeat (first | (with_reducible refine zletE ?_) | (with_reducible refine zifn ?_ ?_; · (first | with_reducible assumption | decide | (simp (disch := omega) only [zlit, nI_add, pk_mul, pk_sub, zsubm, nI_clamp, nI_leI, nI_ltI, nI_eq, zeqF, Nat.reduceEqDiff, zleF, zleT, zltF, zltT, zneg1, zneg1L, zneg2, zneg0, eq_self, or_self, false_or, or_false, Nat.not_lt_zero, not_false_eq_true, not_true_eq_false]; done))) | (with_reducible refine zifp ?_ ?_; · (first | with_reducible assumption | decide | (simp (disch := omega) only [zlit, nI_add, pk_mul, pk_sub, zsubm, nI_clamp, nI_leI, nI_ltI, nI_eq, zeqF, Nat.reduceEqDiff, zleF, zleT, zltF, zltT, zneg1, zneg1L, zneg2, zneg0, eq_self, or_self, false_or, or_false, Nat.not_lt_zero, not_false_eq_true, not_true_eq_false]; done))) | (with_reducible refine bnd (e4) ?_) | (with_reducible refine bnd (x := some _) rfl ?_))
            rfl
      · unfold f_R_swap
        repeat (first | (with_reducible refine zletE ?_) | (with_reducible refine zifn ?_ ?_; · (first | with_reducible assumption | decide | (simp (disch := omega) only [zlit, nI_add, pk_mul, pk_sub, zsubm, nI_clamp, nI_leI, nI_ltI, nI_eq, zeqF, Nat.reduceEqDiff, zleF, zleT, zltF, zltT, zneg1, zneg1L, zneg2, zneg0, eq_self, or_self, false_or, or_false, Nat.not_lt_zero, not_false_eq_true, not_true_eq_false]; done))) | (with_reducible refine zifp ?_ ?_; · (first | with_reducible assumption | decide | (simp (disch := omega) only [zlit, nI_add, pk_mul, pk_sub, zsubm, nI_clamp, nI_leI, nI_ltI, nI_eq, zeqF, Nat.reduceEqDiff, zleF, zleT, zltF, zltT, zneg1, zneg1L, zneg2, zneg0, eq_self, or_self, false_or, or_false, Nat.not_lt_zero, not_false_eq_true, not_true_eq_false]; done))) | (with_reducible refine bnd (e2) ?_) | (with_reducible refine bnd (g2) ?_) | (with_reducible refine bnd (x := some _) rfl ?_))
        rfl
    · rcases swap_both hN (w := R_thrown_s w 0) (v := v10) (b := 0) (by omega) hT' hB hR hI hp hr with ⟨s1, s2⟩ | ⟨l, m, hl2, hm2, hlm, hz, el, em, s1, s2, s3, s4⟩
      · have s2 : f_R_maySwap N (R_thrown_s w 0) 0 (nI p) (nI r) = some 0 := s2
        refine no s1 ?_
        unfold f_R_swap
        repeat (first | (with_reducible refine zletE ?_) | (with_reducible refine zifn ?_ ?_; · (first | with_reducible assumption | decide | (simp (disch := omega) only [zlit, nI_add, pk_mul, pk_sub, zsubm, nI_clamp, nI_leI, nI_ltI, nI_eq, zeqF, Nat.reduceEqDiff, zleF, zleT, zltF, zltT, zneg1, zneg1L, zneg2, zneg0, eq_self, or_self, false_or, or_false, Nat.not_lt_zero, not_false_eq_true, not_true_eq_false]; done))) | (with_reducible refine zifp ?_ ?_; · (first | with_reducible assumption | decide | (simp (disch := omega) only [zlit, nI_add, pk_mul, pk_sub, zsubm, nI_clamp, nI_leI, nI_ltI, nI_eq, zeqF, Nat.reduceEqDiff, zleF, zleT, zltF, zltT, zneg1, zneg1L, zneg2, zneg0, eq_self, or_self, false_or, or_false, Nat.not_lt_zero, not_false_eq_true, not_true_eq_false]; done))) | (with_reducible refine bnd (e2) ?_) | (with_reducible refine bnd (g2) ?_) | (with_reducible refine bnd (s2) ?_) | (with_reducible refine bnd (x := some _) rfl ?_))
        rfl
      · have s2 : f_R_maySwap N (R_thrown_s w 0) 0 (nI p) (nI r) = some 1 := s2
        have hb := byHand_yes (N := N) (v0 := v0) (v1 := v1) (v2 := v2) (v3 := v3) (v4 := v4) (v5 := v5) (v6 := v6) (v7 := v7) (v8 := v8) (v9 := v9) (v10 := Lives_self_s v10 (upd (upd (Lives_self v10) l (nI p)) m (nI r))) (v11 := v11) (v13 := v13) (v17 := v17) (v18 := v18) (v19 := v19) (v20 := v20) (und := un) (mls := mls) (mts := mts) hq1 hu1 hq2 hu2
        repeat (first | (with_reducible refine Ev.letE ?_) | (with_reducible refine Ev.ifn ?_ ?_; · (first | with_reducible assumption | decide | (simp (disch := omega) only [zlit, nI_add, pk_mul, pk_sub, zsubm, nI_clamp, nI_leI, nI_ltI, nI_eq, zeqF, Nat.reduceEqDiff, zleF, zleT, zltF, zltT, zneg1, zneg1L, zneg2, zneg0, eq_self, or_self, false_or, or_false, Nat.not_lt_zero, not_false_eq_true, not_true_eq_false]; done))) | (with_reducible refine Ev.ifp ?_ ?_; · (first | with_reducible assumption | decide | (simp (disch := omega) only [zlit, nI_add, pk_mul, pk_sub, zsubm, nI_clamp, nI_leI, nI_ltI, nI_eq, zeqF, Nat.reduceEqDiff, zleF, zleT, zltF, zltT, zneg1, zneg1L, zneg2, zneg0, eq_self, or_self, false_or, or_false, Nat.not_lt_zero, not_false_eq_true, not_true_eq_false]; done))) | (with_reducible refine Ev.bnd (s1) ?_) | (with_reducible refine Ev.bnd (hb) ?_) | (with_reducible refine Ev.bnd (x := some _) rfl ?_))
        refine Ev.ret ?_
        unfold f_R_swap
        repeat (first | (with_reducible refine Ev.letE ?_) | (with_reducible refine Ev.ifn ?_ ?_; · (first | with_reducible assumption | decide | (simp (disch := omega) only [zlit, nI_add, pk_mul, pk_sub, zsubm, nI_clamp, nI_leI, nI_ltI, nI_eq, zeqF, Nat.reduceEqDiff, zleF, zleT, zltF, zltT, zneg1, zneg1L, zneg2, zneg0, eq_self, or_self, false_or, or_false, Nat.not_lt_zero, not_false_eq_true, not_true_eq_false]; done))) | (with_reducible refine Ev.ifp ?_ ?_; · (first | with_reducible assumption | decide | (simp (disch := omega) only [zlit, nI_add, pk_mul, pk_sub, zsubm, nI_clamp, nI_leI, nI_ltI, nI_eq, zeqF, Nat.reduceEqDiff, zleF, zleT, zltF, zltT, zneg1, zneg1L, zneg2, zneg0, eq_self, or_self, false_or, or_false, Nat.not_lt_zero, not_false_eq_true, not_true_eq_false]; done))) | (with_reducible refine Ev.bnd (e2) ?_) | (with_reducible refine Ev.bnd (g2) ?_) | (with_reducible refine Ev.bnd (s2) ?_) | (with_reducible refine Ev.bnd (x := some _) rfl ?_))
        refine Ev.bnx (keeps_ev hN (w := R_thrown_s w 0) hu1 hu3) ?_
        intro k hk
        have hR2 : LR P 0 k.1 v10 := hR.keep h6 (fun j x y => hk.2.1 j (by omega))
        have t1 := rledBy_ok hN (w := R_s_thrown_state_undos w 0 k.1 k.2) (b := 0) (by omega) h6 hR2 hI hm2 em
        have t2 := rledBy_ok hN (w := R_s_thrown_state_undos w 0 k.1 k.2) (b := 0) (by omega) h6 hR2 hI hl2 el
        have t3 := swaps_ok (b := 0) (by omega) (show l < 6 by omega) (show m < 6 by omega) t1 t2
        have t3 : f_R_swaps N (R_s_thrown_state_undos w 0 k.1 k.2) 0 (nI p) (nI r) = some (upd (upd k.1 (0 + 28 + m) (nI r)) (0 + 28 + l) (nI p)) := t3
        repeat (first | (with_reducible refine Ev.letE ?_) | (with_reducible refine Ev.ifn ?_ ?_; · (first | with_reducible assumption | decide | (simp (disch := omega) only [zlit, nI_add, pk_mul, pk_sub, zsubm, nI_clamp, nI_leI, nI_ltI, nI_eq, zeqF, Nat.reduceEqDiff, zleF, zleT, zltF, zltT, zneg1, zneg1L, zneg2, zneg0, eq_self, or_self, false_or, or_false, Nat.not_lt_zero, not_false_eq_true, not_true_eq_false]; done))) | (with_reducible refine Ev.ifp ?_ ?_; · (first | with_reducible assumption | decide | (simp (disch := omega) only [zlit, nI_add, pk_mul, pk_sub, zsubm, nI_clamp, nI_leI, nI_ltI, nI_eq, zeqF, Nat.reduceEqDiff, zleF, zleT, zltF, zltT, zneg1, zneg1L, zneg2, zneg0, eq_self, or_self, false_or, or_false, Nat.not_lt_zero, not_false_eq_true, not_true_eq_false]; done))) | (with_reducible refine Ev.bnd (t3) ?_) | (with_reducible refine Ev.bnd (x := some _) rfl ?_))
        refine Ev.ret ⟨rfl, rfl, ?_⟩
        have hsw : upd (upd k.1 (0 + 28 + m) (nI r)) (0 + 28 + l) (nI p) = upd (upd k.1 (0 + 28 + l) (nI p)) (0 + 28 + m) (nI r) := by
          funext j
          by_cases c1 : j = 0 + 28 + l
          · subst c1; rw [pk_us, pk_un (by omega), pk_us]
          · rw [pk_un c1]
            by_cases c2 : j = 0 + 28 + m
            · subst c2; rw [pk_us, pk_us]
            · rw [pk_un c2, pk_un c2, pk_un c1]
        rw [hsw]
        exact hand_yes (w' := R_s_thrown_state_undos w 0 (upd (upd k.1 (0 + 28 + l) (nI p)) (0 + 28 + m) (nI r)) k.2) hh hq1 hu1 hq2 hu2 hn1 hn2 hk (LR_swap h6 hR2 hl2 hm2) (LI_swap hI hz hl2 hm2 hp hr hlm el em) (fun j hj => by show upd (upd k.1 (0 + 28 + l) (nI p)) (0 + 28 + m) (nI r) j = _; rw [pk_un (by omega), pk_un (by omega)]) rfl ⟨rfl, rfl, rfl, rfl, rfl, rfl, rfl, rfl, rfl, rfl, rfl, rfl, rfl⟩ v3 hT
/-! ===== undo ===== -/
theorem m_undo {N : Nat} (hN : 10000 ≤ N) {v0 : VBl} {v1 : VTape} {v2 : VTown} {v3 : VLaws} {v4 : VReader} {v5 : VTown} {v6 : VLaws} {v7 : VYear} {v8 : VYear} {v9 : VLots} {v10 : VLives} {v11 : VLives} {v13 : VTales} {v17 : VForecast} {v18 : VLives} {v19 : VDeeds} {v20 : VPairs} {und mls : Nat → VLives} {mts : Nat → VTales} {w : VR} {P L g : Nat} (h : RELx P L g v0 v1 v2 v3 v7 v9 v10 v13 v17 und mls mts w) : Ev (f_Bl_undo N v0 v1 v2 v3 v4 v5 v6 v7 v8 v9 v10 v11 v13 v17 v18 v19 v20 und mls mts) (fun r => Ev (f_R_undo N w) (fun q => r.1 = q.1 ∧ q.2.1 = 0 ∧ RELx P L g (r.2.1, r.2.2.1, Bl_laid v0) v1 v2 v3 v7 v9 (r.2.2.2.1, r.2.2.2.2.1, r.2.2.2.2.2.1, r.2.2.2.2.2.2.1, r.2.2.2.2.2.2.2.1, r.2.2.2.2.2.2.2.2.1, r.2.2.2.2.2.2.2.2.2.1, r.2.2.2.2.2.2.2.2.2.2.1, r.2.2.2.2.2.2.2.2.2.2.2.1, r.2.2.2.2.2.2.2.2.2.2.2.2.1, r.2.2.2.2.2.2.2.2.2.2.2.2.2.1) v13 (Forecast_s_ready_prepared v17 r.2.2.2.2.2.2.2.2.2.2.2.2.2.2.1 r.2.2.2.2.2.2.2.2.2.2.2.2.2.2.2) und mls mts (R_s_thrown_state_undos w q.2.1 q.2.2.1 q.2.2.2))) := by
  have hh := h
  obtain ⟨a1, a2, ⟨hR, hI⟩, a4, a5, hu, a7, a8, a9⟩ := h
  have hT := a1.1
  have h6 := hT.1.2
  obtain ⟨u, q, hu1, hq1, hu2, hu3, hq2, hu4⟩ := hu
  unfold f_Bl_undo f_R_undo
  rw [hu2, hu3, hq2]
  by_cases hz : u = 0
  · subst hz
    repeat (first | (with_reducible refine Ev.letE ?_) | (with_reducible refine Ev.ifn ?_ ?_; · (first | with_reducible assumption | decide | (simp (disch := omega) only [zlit, nI_add, pk_mul, pk_sub, zsubm, nI_clamp, nI_leI, nI_ltI, nI_eq, zeqF, Nat.reduceEqDiff, zleF, zleT, zltF, zltT, zneg1, zneg1L, zneg2, zneg0, eq_self, or_self, false_or, or_false, Nat.not_lt_zero, not_false_eq_true, not_true_eq_false]; done))) | (with_reducible refine Ev.ifp ?_ ?_; · (first | with_reducible assumption | decide | (simp (disch := omega) only [zlit, nI_add, pk_mul, pk_sub, zsubm, nI_clamp, nI_leI, nI_ltI, nI_eq, zeqF, Nat.reduceEqDiff, zleF, zleT, zltF, zltT, zneg1, zneg1L, zneg2, zneg0, eq_self, or_self, false_or, or_false, Nat.not_lt_zero, not_false_eq_true, not_true_eq_false]; done))) | (with_reducible refine Ev.bnd (x := some _) rfl ?_))
    refine Ev.ret ?_
    repeat (first | (with_reducible refine Ev.letE ?_) | (with_reducible refine Ev.ifn ?_ ?_; · (first | with_reducible assumption | decide | (simp (disch := omega) only [zlit, nI_add, pk_mul, pk_sub, zsubm, nI_clamp, nI_leI, nI_ltI, nI_eq, zeqF, Nat.reduceEqDiff, zleF, zleT, zltF, zltT, zneg1, zneg1L, zneg2, zneg0, eq_self, or_self, false_or, or_false, Nat.not_lt_zero, not_false_eq_true, not_true_eq_false]; done))) | (with_reducible refine Ev.ifp ?_ ?_; · (first | with_reducible assumption | decide | (simp (disch := omega) only [zlit, nI_add, pk_mul, pk_sub, zsubm, nI_clamp, nI_leI, nI_ltI, nI_eq, zeqF, Nat.reduceEqDiff, zleF, zleT, zltF, zltT, zneg1, zneg1L, zneg2, zneg0, eq_self, or_self, false_or, or_false, Nat.not_lt_zero, not_false_eq_true, not_true_eq_false]; done))) | (with_reducible refine Ev.bnd (x := some _) rfl ?_))
    refine Ev.ret ⟨rfl, rfl, ?_⟩
    have hx := hand_no (w' := R_s_thrown_state_undos w 0 (R_state w) (nI 0)) hh hq1 hq2 (un := und) (fun _ _ => rfl) ⟨rfl, rfl, rfl, rfl, rfl, rfl, rfl, rfl, rfl, rfl, rfl, rfl, rfl⟩ rfl hu3.symm
    rw [hq2, hu2] at hx
    exact hx
  · have e1 : 0 < nI u := nI_lt (a := 0) (by omega) (by omega)
    have e2 : ¬ nI u = 0 := nI_ne0 (by omega) (by omega)
    have e3 : (if nI q ≤ 0 then (17 : Int32) - 1 else nI q - 1) = nI ((q + 16) % 17) := by
      by_cases c : q = 0
      · subst c; rfl
      · rw [if_neg (nI_nle (by omega) (by omega))]
        have : nI q - 1 = nI (q - 1) := pk_sub (b := 1) (by omega)
        rw [this, show (q + 16) % 17 = q - 1 by omega]
    have e4 : nI u - 1 = nI (u - 1) := pk_sub (b := 1) (by omega)
    have hz17 : (q + 16) % 17 < 17 := Nat.mod_lt _ (by decide)
    obtain ⟨b1, b2⟩ := hu4 (u - 1) (by omega)
    rw [show (q + 17 - u + (u - 1)) % 17 = (q + 16) % 17 by congr 1; omega] at b1 b2
    rw [e4]
    repeat (first | (with_reducible refine Ev.letG (e3) ?_) | (with_reducible refine Ev.letE ?_) | (with_reducible refine Ev.ifn ?_ ?_; · (first | with_reducible assumption | decide | (simp (disch := omega) only [zlit, nI_add, pk_mul, pk_sub, zsubm, nI_clamp, nI_leI, nI_ltI, nI_eq, zeqF, Nat.reduceEqDiff, zleF, zleT, zltF, zltT, zneg1, zneg1L, zneg2, zneg0, eq_self, or_self, false_or, or_false, Nat.not_lt_zero, not_false_eq_true, not_true_eq_false]; done))) | (with_reducible refine Ev.ifp ?_ ?_; · (first | with_reducible assumption | decide | (simp (disch := omega) only [zlit, nI_add, pk_mul, pk_sub, zsubm, nI_clamp, nI_leI, nI_ltI, nI_eq, zeqF, Nat.reduceEqDiff, zleF, zleT, zltF, zltT, zneg1, zneg1L, zneg2, zneg0, eq_self, or_self, false_or, or_false, Nat.not_lt_zero, not_false_eq_true, not_true_eq_false]; done))) | (with_reducible refine Ev.bnd (x := some _) rfl ?_))
    rw [nI_clamp (n := (q + 16) % 17) (by omega)]
    repeat (first | (with_reducible refine Ev.letE ?_) | (with_reducible refine Ev.ifn ?_ ?_; · (first | with_reducible assumption | decide | (simp (disch := omega) only [zlit, nI_add, pk_mul, pk_sub, zsubm, nI_clamp, nI_leI, nI_ltI, nI_eq, zeqF, Nat.reduceEqDiff, zleF, zleT, zltF, zltT, zneg1, zneg1L, zneg2, zneg0, eq_self, or_self, false_or, or_false, Nat.not_lt_zero, not_false_eq_true, not_true_eq_false]; done))) | (with_reducible refine Ev.ifp ?_ ?_; · (first | with_reducible assumption | decide | (simp (disch := omega) only [zlit, nI_add, pk_mul, pk_sub, zsubm, nI_clamp, nI_leI, nI_ltI, nI_eq, zeqF, Nat.reduceEqDiff, zleF, zleT, zltF, zltT, zneg1, zneg1L, zneg2, zneg0, eq_self, or_self, false_or, or_false, Nat.not_lt_zero, not_false_eq_true, not_true_eq_false]; done))) | (with_reducible refine Ev.bnd (x := some _) rfl ?_))
    refine Ev.bnx (copy_ev (N := N) b1.2.2.2.2.2.1) ?_
    rintro ⟨c1, c2, c3, c4, c5, c6, c7, c8, c9, c10, c11⟩ hc
    have hf : ∀ x y z t r s, f_Forecast_forget N x y z t r s = some (0, -1) := fun _ _ _ _ _ _ => rfl
    repeat (first | (with_reducible refine Ev.letE ?_) | (with_reducible refine Ev.ifn ?_ ?_; · (first | with_reducible assumption | decide | (simp (disch := omega) only [zlit, nI_add, pk_mul, pk_sub, zsubm, nI_clamp, nI_leI, nI_ltI, nI_eq, zeqF, Nat.reduceEqDiff, zleF, zleT, zltF, zltT, zneg1, zneg1L, zneg2, zneg0, eq_self, or_self, false_or, or_false, Nat.not_lt_zero, not_false_eq_true, not_true_eq_false]; done))) | (with_reducible refine Ev.ifp ?_ ?_; · (first | with_reducible assumption | decide | (simp (disch := omega) only [zlit, nI_add, pk_mul, pk_sub, zsubm, nI_clamp, nI_leI, nI_ltI, nI_eq, zeqF, Nat.reduceEqDiff, zleF, zleT, zltF, zltT, zneg1, zneg1L, zneg2, zneg0, eq_self, or_self, false_or, or_false, Nat.not_lt_zero, not_false_eq_true, not_true_eq_false]; done))) | (with_reducible refine Ev.bnd (hf _ _ _ _ _ _) ?_) | (with_reducible refine Ev.bnd (x := some _) rfl ?_))
    refine Ev.ret ?_
    repeat (first | (with_reducible refine Ev.letE ?_) | (with_reducible refine Ev.ifn ?_ ?_; · (first | with_reducible assumption | decide | (simp (disch := omega) only [zlit, nI_add, pk_mul, pk_sub, zsubm, nI_clamp, nI_leI, nI_ltI, nI_eq, zeqF, Nat.reduceEqDiff, zleF, zleT, zltF, zltT, zneg1, zneg1L, zneg2, zneg0, eq_self, or_self, false_or, or_false, Nat.not_lt_zero, not_false_eq_true, not_true_eq_false]; done))) | (with_reducible refine Ev.ifp ?_ ?_; · (first | with_reducible assumption | decide | (simp (disch := omega) only [zlit, nI_add, pk_mul, pk_sub, zsubm, nI_clamp, nI_leI, nI_ltI, nI_eq, zeqF, Nat.reduceEqDiff, zleF, zleT, zltF, zltT, zneg1, zneg1L, zneg2, zneg0, eq_self, or_self, false_or, or_false, Nat.not_lt_zero, not_false_eq_true, not_true_eq_false]; done))) | (with_reducible refine Ev.bnd (x := some _) rfl ?_))
    rw [show (72 : Int32) * (5 + nI (u - 1)) = nI (72 * (5 + (u - 1))) by simp (maxSteps := 2000000) (disch := omega) only [zlit, nI_add, pk_mul, nI_clamp]]
    refine Ev.bnx (copies_ev hN (w := R_s_thrown_undos w 0 (nI (u - 1))) (a := 72 * (5 + (u - 1))) (b := 0) (n := 46) (by omega) (by omega) (by omega)) ?_
    rintro st ⟨d1, d2⟩
    have d1 : ∀ j, j < 46 → st (0 + j) = R_state w (72 * (5 + (u - 1)) + j) := d1
    have d2 : ∀ j, ¬ (0 ≤ j ∧ j < 0 + 46) → st j = R_state w j := d2
    refine Ev.ret ⟨rfl, rfl, ?_⟩
    have s : SameT w (R_s_thrown_state_undos w 0 st (nI (u - 1))) := ⟨rfl, rfl, rfl, rfl, rfl, rfl, rfl, rfl, rfl, rfl, rfl, rfl, rfl⟩
    have hg : AGP P (und ((q + 16) % 17)) (c1, c2, c3, c4, c5, c6, c7, c8, c9, c10, c11) := (hc.le h6).symm
    refine ⟨s.town a1, s.lots a2, ⟨(b1.moved (b := 0) h6 d1).ag hg, b2.ag hg⟩, s.tape a4, ?_, ?_, ?_, s.plan a8, foreR_new a9 v3⟩
    · exact a5.keep (fun j x y => d2 j (by omega))
    · refine ⟨u - 1, (q + 16) % 17, by omega, hz17, rfl, rfl, rfl, fun i hi => ?_⟩
      obtain ⟨x1, x2⟩ := hu4 i (by omega)
      rw [show ((q + 16) % 17 + 17 - (u - 1) + i) % 17 = (q + 17 - u + i) % 17 by omega]
      exact ⟨x1.keep h6 (fun j x y => d2 j (by omega)), x2⟩
    · exact a7.keep h6 rfl (fun j x y => d2 j (by omega))
/-! ===== tale ===== -/
theorem m_tale {N : Nat} {v0 : VBl} {v1 : VTape} {v2 : VTown} {v3 : VLaws} {v4 : VReader} {v5 : VTown} {v6 : VLaws} {v7 : VYear} {v8 : VYear} {v9 : VLots} {v10 : VLives} {v11 : VLives} {v13 : VTales} {v17 : VForecast} {v18 : VLives} {v19 : VDeeds} {v20 : VPairs} {und mls : Nat → VLives} {mts : Nat → VTales} {w : VR} {P L g : Nat} (h : RELx P L g v0 v1 v2 v3 v7 v9 v10 v13 v17 und mls mts w) (a1 a2 a3 : Int32) : Ev (f_Bl_tale N v0 v1 v2 v3 v4 v5 v6 v7 v8 v9 v10 v11 v13 v17 v18 v19 v20 und mls mts a1 a2 a3) (fun r => Ev (f_R_tale N w a1 a2 a3) (fun q => r.1 = q.1 ∧ q.2.1 = 0 ∧ RELx P L g v0 v1 v2 v3 v7 v9 v10 (r.2.1, r.2.2.1, r.2.2.2.1, r.2.2.2.2) v17 und mls mts (R_s_thrown_state w q.2.1 q.2.2))) := by
  have hh := h
  obtain ⟨b1, b2, ⟨hR, hI⟩, b4, hta, b6, b7, b8, b9⟩ := h
  have hT := b1.1
  have h6 := hT.1.2
  have hT' : townR (R_thrown_s w 0) v2 v3 P := hT
  obtain ⟨n, hn8, t1, t2, t3⟩ := hta
  have hx : RELx P L g v0 v1 v2 v3 v7 v9 v10 (Tales_count v13, Tales_lives v13, Tales_days v13, Tales_purses v13) v17 und mls mts (R_s_thrown_state w 0 (R_state w)) := hh.same ⟨rfl, rfl, rfl, rfl, rfl, rfl, rfl, rfl, rfl, rfl, rfl, rfl, rfl⟩ rfl rfl
  have r46 : R_state w (Int32.toNatClampNeg 46) = nI n := t2
  unfold f_Bl_tale f_R_tale
  rw [r46]
  rcases isPerson_both (N := N) hT' a1 with ⟨e1, e2⟩ | ⟨l, hl, rfl, e1, e2⟩
  · repeat (first | (with_reducible refine Ev.letE ?_) | (with_reducible refine Ev.ifn ?_ ?_; · (first | with_reducible assumption | decide | (simp (disch := omega) only [zlit, nI_add, pk_mul, pk_sub, zsubm, nI_clamp, nI_leI, nI_ltI, nI_eq, zeqF, Nat.reduceEqDiff, zleF, zleT, zltF, zltT, zneg1, zneg1L, zneg2, zneg0, eq_self, or_self, false_or, or_false, Nat.not_lt_zero, not_false_eq_true, not_true_eq_false]; done))) | (with_reducible refine Ev.ifp ?_ ?_; · (first | with_reducible assumption | decide | (simp (disch := omega) only [zlit, nI_add, pk_mul, pk_sub, zsubm, nI_clamp, nI_leI, nI_ltI, nI_eq, zeqF, Nat.reduceEqDiff, zleF, zleT, zltF, zltT, zneg1, zneg1L, zneg2, zneg0, eq_self, or_self, false_or, or_false, Nat.not_lt_zero, not_false_eq_true, not_true_eq_false]; done))) | (with_reducible refine Ev.bnd (e1) ?_) | (with_reducible refine Ev.bnd (x := some _) rfl ?_))
    refine Ev.ret ?_
    repeat (first | (with_reducible refine Ev.letE ?_) | (with_reducible refine Ev.ifn ?_ ?_; · (first | with_reducible assumption | decide | (simp (disch := omega) only [zlit, nI_add, pk_mul, pk_sub, zsubm, nI_clamp, nI_leI, nI_ltI, nI_eq, zeqF, Nat.reduceEqDiff, zleF, zleT, zltF, zltT, zneg1, zneg1L, zneg2, zneg0, eq_self, or_self, false_or, or_false, Nat.not_lt_zero, not_false_eq_true, not_true_eq_false]; done))) | (with_reducible refine Ev.ifp ?_ ?_; · (first | with_reducible assumption | decide | (simp (disch := omega) only [zlit, nI_add, pk_mul, pk_sub, zsubm, nI_clamp, nI_leI, nI_ltI, nI_eq, zeqF, Nat.reduceEqDiff, zleF, zleT, zltF, zltT, zneg1, zneg1L, zneg2, zneg0, eq_self, or_self, false_or, or_false, Nat.not_lt_zero, not_false_eq_true, not_true_eq_false]; done))) | (with_reducible refine Ev.bnd (e2) ?_) | (with_reducible refine Ev.bnd (x := some _) rfl ?_))
    exact Ev.ret ⟨rfl, rfl, hx⟩
  · have add_no : (8 ≤ n ∨ a2 < 1 ∨ 7 < a2 ∨ a3 < 0 ∨ 9999 < a3) → f_Tales_add N v13 (nI l) a2 a3 = some (0, Tales_count v13, Tales_lives v13, Tales_days v13, Tales_purses v13) := by
      intro hno
      unfold f_Tales_add
      rw [t1, if_neg (nI_pos (by omega))]
      by_cases c0 : 8 ≤ n
      · exact if_pos (nI_le (a := 8) c0 (by omega))
      · refine (if_neg (nI_ge (b := 8) (by omega) (by decide))).trans ?_
        by_cases c1 : a2 < 1
        · rw [if_pos c1]
        · rw [if_neg c1]
          by_cases c2 : 7 < a2
          · rw [if_pos c2]
          · rw [if_neg c2]
            by_cases c3 : a3 < 0
            · rw [if_pos c3]
            · rw [if_neg c3]
              have c4 : 9999 < a3 := by
                rcases hno with x | x | x | x | x
                · exact absurd x c0
                · exact absurd x c1
                · exact absurd x c2
                · exact absurd x c3
                · exact x
              rw [if_neg (show ¬ a3 ≤ 9999 by grind)]
    by_cases w2 : a2 < 1 ∨ 7 < a2
    · have := add_no (by rcases w2 with x | x; exact Or.inr (Or.inl x); exact Or.inr (Or.inr (Or.inl x)))
      repeat (first | (with_reducible refine Ev.letE ?_) | (with_reducible refine Ev.ifn ?_ ?_; · (first | with_reducible assumption | decide | (simp (disch := omega) only [zlit, nI_add, pk_mul, pk_sub, zsubm, nI_clamp, nI_leI, nI_ltI, nI_eq, zeqF, Nat.reduceEqDiff, zleF, zleT, zltF, zltT, zneg1, zneg1L, zneg2, zneg0, eq_self, or_self, false_or, or_false, Nat.not_lt_zero, not_false_eq_true, not_true_eq_false]; done))) | (with_reducible refine Ev.ifp ?_ ?_; · (first | with_reducible assumption | decide | (simp (disch := omega) only [zlit, nI_add, pk_mul, pk_sub, zsubm, nI_clamp, nI_leI, nI_ltI, nI_eq, zeqF, Nat.reduceEqDiff, zleF, zleT, zltF, zltT, zneg1, zneg1L, zneg2, zneg0, eq_self, or_self, false_or, or_false, Nat.not_lt_zero, not_false_eq_true, not_true_eq_false]; done))) | (with_reducible refine Ev.bnd (e1) ?_) | (with_reducible refine Ev.bnd (this) ?_) | (with_reducible refine Ev.bnd (x := some _) rfl ?_))
      refine Ev.ret ?_
      repeat (first | (with_reducible refine Ev.letE ?_) | (with_reducible refine Ev.ifn ?_ ?_; · (first | with_reducible assumption | decide | (simp (disch := omega) only [zlit, nI_add, pk_mul, pk_sub, zsubm, nI_clamp, nI_leI, nI_ltI, nI_eq, zeqF, Nat.reduceEqDiff, zleF, zleT, zltF, zltT, zneg1, zneg1L, zneg2, zneg0, eq_self, or_self, false_or, or_false, Nat.not_lt_zero, not_false_eq_true, not_true_eq_false]; done))) | (with_reducible refine Ev.ifp ?_ ?_; · (first | with_reducible assumption | decide | (simp (disch := omega) only [zlit, nI_add, pk_mul, pk_sub, zsubm, nI_clamp, nI_leI, nI_ltI, nI_eq, zeqF, Nat.reduceEqDiff, zleF, zleT, zltF, zltT, zneg1, zneg1L, zneg2, zneg0, eq_self, or_self, false_or, or_false, Nat.not_lt_zero, not_false_eq_true, not_true_eq_false]; done))) | (with_reducible refine Ev.bnd (e2) ?_) | (with_reducible refine Ev.bnd (within_no w2) ?_) | (with_reducible refine Ev.bnd (x := some _) rfl ?_))
      exact Ev.ret ⟨rfl, rfl, hx⟩
    · by_cases w3 : a3 < 0 ∨ 9999 < a3
      · have := add_no (by rcases w3 with x | x; exact Or.inr (Or.inr (Or.inr (Or.inl x))); exact Or.inr (Or.inr (Or.inr (Or.inr x))))
        obtain ⟨w4, w5⟩ := not_or.mp w2
        repeat (first | (with_reducible refine Ev.letE ?_) | (with_reducible refine Ev.ifn ?_ ?_; · (first | with_reducible assumption | decide | (simp (disch := omega) only [zlit, nI_add, pk_mul, pk_sub, zsubm, nI_clamp, nI_leI, nI_ltI, nI_eq, zeqF, Nat.reduceEqDiff, zleF, zleT, zltF, zltT, zneg1, zneg1L, zneg2, zneg0, eq_self, or_self, false_or, or_false, Nat.not_lt_zero, not_false_eq_true, not_true_eq_false]; done))) | (with_reducible refine Ev.ifp ?_ ?_; · (first | with_reducible assumption | decide | (simp (disch := omega) only [zlit, nI_add, pk_mul, pk_sub, zsubm, nI_clamp, nI_leI, nI_ltI, nI_eq, zeqF, Nat.reduceEqDiff, zleF, zleT, zltF, zltT, zneg1, zneg1L, zneg2, zneg0, eq_self, or_self, false_or, or_false, Nat.not_lt_zero, not_false_eq_true, not_true_eq_false]; done))) | (with_reducible refine Ev.bnd (e1) ?_) | (with_reducible refine Ev.bnd (this) ?_) | (with_reducible refine Ev.bnd (x := some _) rfl ?_))
        refine Ev.ret ?_
        repeat (first | (with_reducible refine Ev.letE ?_) | (with_reducible refine Ev.ifn ?_ ?_; · (first | with_reducible assumption | decide | (simp (disch := omega) only [zlit, nI_add, pk_mul, pk_sub, zsubm, nI_clamp, nI_leI, nI_ltI, nI_eq, zeqF, Nat.reduceEqDiff, zleF, zleT, zltF, zltT, zneg1, zneg1L, zneg2, zneg0, eq_self, or_self, false_or, or_false, Nat.not_lt_zero, not_false_eq_true, not_true_eq_false]; done))) | (with_reducible refine Ev.ifp ?_ ?_; · (first | with_reducible assumption | decide | (simp (disch := omega) only [zlit, nI_add, pk_mul, pk_sub, zsubm, nI_clamp, nI_leI, nI_ltI, nI_eq, zeqF, Nat.reduceEqDiff, zleF, zleT, zltF, zltT, zneg1, zneg1L, zneg2, zneg0, eq_self, or_self, false_or, or_false, Nat.not_lt_zero, not_false_eq_true, not_true_eq_false]; done))) | (with_reducible refine Ev.bnd (e2) ?_) | (with_reducible refine Ev.bnd (within_yes w4 w5) ?_) | (with_reducible refine Ev.bnd (within_no w3) ?_) | (with_reducible refine Ev.bnd (x := some _) rfl ?_))
        exact Ev.ret ⟨rfl, rfl, hx⟩
      · obtain ⟨w4, w5⟩ := not_or.mp w2
        obtain ⟨w6, w7⟩ := not_or.mp w3
        by_cases c0 : 8 ≤ n
        · have hn : n = 8 := by omega
          subst hn
          have := add_no (Or.inl c0)
          repeat (first | (with_reducible refine Ev.letE ?_) | (with_reducible refine Ev.ifn ?_ ?_; · (first | with_reducible assumption | decide | (simp (disch := omega) only [zlit, nI_add, pk_mul, pk_sub, zsubm, nI_clamp, nI_leI, nI_ltI, nI_eq, zeqF, Nat.reduceEqDiff, zleF, zleT, zltF, zltT, zneg1, zneg1L, zneg2, zneg0, eq_self, or_self, false_or, or_false, Nat.not_lt_zero, not_false_eq_true, not_true_eq_false]; done))) | (with_reducible refine Ev.ifp ?_ ?_; · (first | with_reducible assumption | decide | (simp (disch := omega) only [zlit, nI_add, pk_mul, pk_sub, zsubm, nI_clamp, nI_leI, nI_ltI, nI_eq, zeqF, Nat.reduceEqDiff, zleF, zleT, zltF, zltT, zneg1, zneg1L, zneg2, zneg0, eq_self, or_self, false_or, or_false, Nat.not_lt_zero, not_false_eq_true, not_true_eq_false]; done))) | (with_reducible refine Ev.bnd (e1) ?_) | (with_reducible refine Ev.bnd (this) ?_) | (with_reducible refine Ev.bnd (x := some _) rfl ?_))
          refine Ev.ret ?_
          repeat (first | (with_reducible refine Ev.letE ?_) | (with_reducible refine Ev.ifn ?_ ?_; · (first | with_reducible assumption | decide | (simp (disch := omega) only [zlit, nI_add, pk_mul, pk_sub, zsubm, nI_clamp, nI_leI, nI_ltI, nI_eq, zeqF, Nat.reduceEqDiff, zleF, zleT, zltF, zltT, zneg1, zneg1L, zneg2, zneg0, eq_self, or_self, false_or, or_false, Nat.not_lt_zero, not_false_eq_true, not_true_eq_false]; done))) | (with_reducible refine Ev.ifp ?_ ?_; · (first | with_reducible assumption | decide | (simp (disch := omega) only [zlit, nI_add, pk_mul, pk_sub, zsubm, nI_clamp, nI_leI, nI_ltI, nI_eq, zeqF, Nat.reduceEqDiff, zleF, zleT, zltF, zltT, zneg1, zneg1L, zneg2, zneg0, eq_self, or_self, false_or, or_false, Nat.not_lt_zero, not_false_eq_true, not_true_eq_false]; done))) | (with_reducible refine Ev.bnd (e2) ?_) | (with_reducible refine Ev.bnd (within_yes w4 w5) ?_) | (with_reducible refine Ev.bnd (within_yes w6 w7) ?_) | (with_reducible refine Ev.bnd (x := some _) rfl ?_))
          exact Ev.ret ⟨rfl, rfl, hx⟩
        · obtain ⟨d, hd, rfl⟩ := nI_of (x := a2) (by grind)
          obtain ⟨p, hp, rfl⟩ := nI_of w6
          have hd1 : 1 ≤ d := by
            rw [show (1 : Int32) = nI 1 from rfl, nI_ltI (by omega) (by omega)] at w4
            omega
          have hd7 : d ≤ 7 := by
            rw [show (7 : Int32) = nI 7 from rfl, nI_ltI (by omega) (by omega)] at w5
            omega
          have hp9 : p ≤ 9999 := by
            rw [show (9999 : Int32) = nI 9999 from rfl, nI_ltI (by omega) (by omega)] at w7
            omega
          have had : f_Tales_add N v13 (nI l) (nI d) (nI p) = some (1, nI (n + 1), upd (Tales_lives v13) n (nI l), upd (Tales_days v13) n (nI d), upd (Tales_purses v13) n (nI p)) := by
            unfold f_Tales_add
            rw [t1, nI_clamp (n := n) (by omega), show nI n + 1 = nI (n + 1) from nI_1 n]
            repeat (first | (with_reducible refine zletE ?_) | (with_reducible refine zifn ?_ ?_; · (first | with_reducible assumption | decide | (simp (disch := omega) only [zlit, nI_add, pk_mul, pk_sub, zsubm, nI_clamp, nI_leI, nI_ltI, nI_eq, zeqF, Nat.reduceEqDiff, zleF, zleT, zltF, zltT, zneg1, zneg1L, zneg2, zneg0, eq_self, or_self, false_or, or_false, Nat.not_lt_zero, not_false_eq_true, not_true_eq_false]; done))) | (with_reducible refine zifp ?_ ?_; · (first | with_reducible assumption | decide | (simp (disch := omega) only [zlit, nI_add, pk_mul, pk_sub, zsubm, nI_clamp, nI_leI, nI_ltI, nI_eq, zeqF, Nat.reduceEqDiff, zleF, zleT, zltF, zltT, zneg1, zneg1L, zneg2, zneg0, eq_self, or_self, false_or, or_false, Nat.not_lt_zero, not_false_eq_true, not_true_eq_false]; done))) | (with_reducible refine bnd (x := some _) rfl ?_))
            rfl
          repeat (first | (with_reducible refine Ev.letE ?_) | (with_reducible refine Ev.ifn ?_ ?_; · (first | with_reducible assumption | decide | (simp (disch := omega) only [zlit, nI_add, pk_mul, pk_sub, zsubm, nI_clamp, nI_leI, nI_ltI, nI_eq, zeqF, Nat.reduceEqDiff, zleF, zleT, zltF, zltT, zneg1, zneg1L, zneg2, zneg0, eq_self, or_self, false_or, or_false, Nat.not_lt_zero, not_false_eq_true, not_true_eq_false]; done))) | (with_reducible refine Ev.ifp ?_ ?_; · (first | with_reducible assumption | decide | (simp (disch := omega) only [zlit, nI_add, pk_mul, pk_sub, zsubm, nI_clamp, nI_leI, nI_ltI, nI_eq, zeqF, Nat.reduceEqDiff, zleF, zleT, zltF, zltT, zneg1, zneg1L, zneg2, zneg0, eq_self, or_self, false_or, or_false, Nat.not_lt_zero, not_false_eq_true, not_true_eq_false]; done))) | (with_reducible refine Ev.bnd (e1) ?_) | (with_reducible refine Ev.bnd (had) ?_) | (with_reducible refine Ev.bnd (x := some _) rfl ?_))
          refine Ev.ret ?_
          rw [show (47 : Int32) + 3 * nI n = nI (47 + 3 * n) by simp (maxSteps := 2000000) (disch := omega) only [zlit, nI_add, pk_mul, nI_clamp], show nI (47 + 3 * n) + 1 = nI (48 + 3 * n) by rw [show nI (47 + 3 * n) + 1 = nI (47 + 3 * n + 1) from nI_1 _, show 47 + 3 * n + 1 = 48 + 3 * n by omega], show nI (47 + 3 * n) + 2 = nI (49 + 3 * n) by rw [show nI (47 + 3 * n) + 2 = nI (47 + 3 * n + 2) from nI_add _ 2, show 47 + 3 * n + 2 = 49 + 3 * n by omega], nI_clamp (n := 47 + 3 * n) (by omega), nI_clamp (n := 48 + 3 * n) (by omega), nI_clamp (n := 49 + 3 * n) (by omega)]
          have e46 : upd (upd (upd (R_state w) (47 + 3 * n) (nI l)) (48 + 3 * n) (nI d)) (49 + 3 * n) (nI p) (Int32.toNatClampNeg 46) = nI n := by
            rw [show Int32.toNatClampNeg 46 = 46 from rfl, pk_un (by omega), pk_un (by omega), pk_un (by omega)]
            exact t2
          have hne : ¬ nI n = 8 := fun q => c0 (by have := (nI_eq (b := 8) (by omega) (by decide)).mp q; omega)
          repeat (first | (with_reducible refine Ev.letE ?_) | (with_reducible refine Ev.ifn ?_ ?_; · (first | with_reducible assumption | decide | (simp (disch := omega) only [zlit, nI_add, pk_mul, pk_sub, zsubm, nI_clamp, nI_leI, nI_ltI, nI_eq, zeqF, Nat.reduceEqDiff, zleF, zleT, zltF, zltT, zneg1, zneg1L, zneg2, zneg0, eq_self, or_self, false_or, or_false, Nat.not_lt_zero, not_false_eq_true, not_true_eq_false]; done))) | (with_reducible refine Ev.ifp ?_ ?_; · (first | with_reducible assumption | decide | (simp (disch := omega) only [zlit, nI_add, pk_mul, pk_sub, zsubm, nI_clamp, nI_leI, nI_ltI, nI_eq, zeqF, Nat.reduceEqDiff, zleF, zleT, zltF, zltT, zneg1, zneg1L, zneg2, zneg0, eq_self, or_self, false_or, or_false, Nat.not_lt_zero, not_false_eq_true, not_true_eq_false]; done))) | (with_reducible refine Ev.bnd (e2) ?_) | (with_reducible refine Ev.bnd (within_yes w4 w5) ?_) | (with_reducible refine Ev.bnd (within_yes w6 w7) ?_) | (with_reducible refine Ev.bnd (x := some _) rfl ?_))
          rw [e46, show nI n + 1 = nI (n + 1) from nI_1 n, show Int32.toNatClampNeg 46 = 46 from rfl]
          refine Ev.ret ⟨rfl, rfl, ?_⟩
          have s : SameT w (R_s_thrown_state w 0 (upd (upd (upd (upd (R_state w) (47 + 3 * n) (nI l)) (48 + 3 * n) (nI d)) (49 + 3 * n) (nI p)) 46 (nI (n + 1)))) := ⟨rfl, rfl, rfl, rfl, rfl, rfl, rfl, rfl, rfl, rfl, rfl, rfl, rfl⟩
          have hk : ∀ j, (j < 46 ∨ 72 ≤ j) → upd (upd (upd (upd (R_state w) (47 + 3 * n) (nI l)) (48 + 3 * n) (nI d)) (49 + 3 * n) (nI p)) 46 (nI (n + 1)) j = R_state w j := fun j hj => by
            rw [pk_un (by omega), pk_un (by omega), pk_un (by omega), pk_un (by omega)]
          refine ⟨s.town b1, s.lots b2, ⟨hR.keep h6 (fun j x y => hk j (by omega)), hI⟩, s.tape b4, ?_, b6.keep h6 rfl (fun j x y => hk j (by omega)), b7.keep h6 rfl (fun j x y => hk j (by omega)), s.plan b8, b9⟩
          refine ⟨n + 1, by omega, rfl, ?_, fun i hi => ?_⟩
          · show upd (upd (upd (upd (R_state w) (47 + 3 * n) (nI l)) (48 + 3 * n) (nI d)) (49 + 3 * n) (nI p)) 46 (nI (n + 1)) (0 + 46) = nI (n + 1)
            exact pk_us
          show ∃ l' d' p' : Nat, l' < P ∧ 1 ≤ d' ∧ d' ≤ 7 ∧ p' ≤ 9999 ∧ upd (Tales_lives v13) n (nI l) i = nI l' ∧ upd (upd (upd (upd (R_state w) (47 + 3 * n) (nI l)) (48 + 3 * n) (nI d)) (49 + 3 * n) (nI p)) 46 (nI (n + 1)) (0 + 47 + 3 * i) = nI l' ∧ upd (Tales_days v13) n (nI d) i = nI d' ∧ upd (upd (upd (upd (R_state w) (47 + 3 * n) (nI l)) (48 + 3 * n) (nI d)) (49 + 3 * n) (nI p)) 46 (nI (n + 1)) (0 + 48 + 3 * i) = nI d' ∧ upd (Tales_purses v13) n (nI p) i = nI p' ∧ upd (upd (upd (upd (R_state w) (47 + 3 * n) (nI l)) (48 + 3 * n) (nI d)) (49 + 3 * n) (nI p)) 46 (nI (n + 1)) (0 + 49 + 3 * i) = nI p'
          by_cases c : i = n
          · subst c
            refine ⟨l, d, p, hl, hd1, hd7, hp9, pk_us, ?_, pk_us, ?_, pk_us, ?_⟩
            · rw [pk_un (by omega), pk_un (by omega), pk_un (by omega), show 0 + 47 + 3 * i = 47 + 3 * i by omega, pk_us]
            · rw [pk_un (by omega), pk_un (by omega), show 0 + 48 + 3 * i = 48 + 3 * i by omega, pk_us]
            · rw [pk_un (by omega), show 0 + 49 + 3 * i = 49 + 3 * i by omega, pk_us]
          · obtain ⟨l', d', p', x1, x2, x3, x4, x5, x6, x7, x8, x9, x10⟩ := t3 i (by omega)
            refine ⟨l', d', p', x1, x2, x3, x4, ?_, ?_, ?_, ?_, ?_, ?_⟩
            · rw [pk_un c]; exact x5
            · rw [pk_un (by omega), pk_un (by omega), pk_un (by omega), pk_un (by omega)]; exact x6
            · rw [pk_un c]; exact x7
            · rw [pk_un (by omega), pk_un (by omega), pk_un (by omega), pk_un (by omega)]; exact x8
            · rw [pk_un c]; exact x9
            · rw [pk_un (by omega), pk_un (by omega), pk_un (by omega), pk_un (by omega)]; exact x10
/-! ===== mark ===== -/
def cpT (t u : VTales) : VTales := (Tales_count u, va_cpy (Tales_lives u) (Tales_lives t) 0 0 8, va_cpy (Tales_days u) (Tales_days t) 0 0 8, va_cpy (Tales_purses u) (Tales_purses t) 0 0 8)
theorem cpT_R {P b : Nat} {st : Nat → Int32} {t u : VTales} (h : taleR P b st u) : taleR P b st (cpT t u) := by
  obtain ⟨n, h1, h2, h3, h4⟩ := h
  have hc : ∀ f g : Nat → Int32, ∀ l, l < 8 → va_cpy f g 0 0 8 l = f l := fun f g l hl => by
    show (if 0 ≤ l ∧ l < 0 + 8 then f (0 + (l - 0)) else g l) = f l
    rw [if_pos ⟨by omega, by omega⟩, show 0 + (l - 0) = l by omega]
  refine ⟨n, h1, h2, h3, fun i hi => ?_⟩
  show ∃ l d p : Nat, l < P ∧ 1 ≤ d ∧ d ≤ 7 ∧ p ≤ 9999 ∧ va_cpy (Tales_lives u) (Tales_lives t) 0 0 8 i = nI l ∧ st (b + 47 + 3 * i) = nI l ∧ va_cpy (Tales_days u) (Tales_days t) 0 0 8 i = nI d ∧ st (b + 48 + 3 * i) = nI d ∧ va_cpy (Tales_purses u) (Tales_purses t) 0 0 8 i = nI p ∧ st (b + 49 + 3 * i) = nI p
  rw [hc _ _ i (by omega), hc _ _ i (by omega), hc _ _ i (by omega)]
  exact h4 i hi
theorem m_mark {N : Nat} (hN : 10000 ≤ N) {v0 : VBl} {v1 : VTape} {v2 : VTown} {v3 : VLaws} {v4 : VReader} {v5 : VTown} {v6 : VLaws} {v7 : VYear} {v8 : VYear} {v9 : VLots} {v10 : VLives} {v11 : VLives} {v13 : VTales} {v17 : VForecast} {v18 : VLives} {v19 : VDeeds} {v20 : VPairs} {und mls : Nat → VLives} {mts : Nat → VTales} {w : VR} {P L g : Nat} (h : RELx P L g v0 v1 v2 v3 v7 v9 v10 v13 v17 und mls mts w) (a1 a2 : Int32) (ha2 : a2 = 0 ∨ a2 = 1) : Ev (f_Bl_mark N v0 v1 v2 v3 v4 v5 v6 v7 v8 v9 v10 v11 v13 v17 v18 v19 v20 und mls mts a1 a2) (fun r => Ev (f_R_mark N w a1 a2) (fun q => r.1 = q.1 ∧ q.2.1 = 0 ∧ RELx P L g (Bl_nextUndo v0, r.2.2.2.1, r.2.2.2.2.1) v1 v2 v3 v7 v9 (r.2.2.2.2.2.1, r.2.2.2.2.2.2.1, r.2.2.2.2.2.2.2.1, r.2.2.2.2.2.2.2.2.1, r.2.2.2.2.2.2.2.2.2.1, r.2.2.2.2.2.2.2.2.2.2.1, r.2.2.2.2.2.2.2.2.2.2.2.1, r.2.2.2.2.2.2.2.2.2.2.2.2.1, r.2.2.2.2.2.2.2.2.2.2.2.2.2.1, r.2.2.2.2.2.2.2.2.2.2.2.2.2.2.1, r.2.2.2.2.2.2.2.2.2.2.2.2.2.2.2.1) (r.2.2.2.2.2.2.2.2.2.2.2.2.2.2.2.2.1, r.2.2.2.2.2.2.2.2.2.2.2.2.2.2.2.2.2.1, r.2.2.2.2.2.2.2.2.2.2.2.2.2.2.2.2.2.2.1, r.2.2.2.2.2.2.2.2.2.2.2.2.2.2.2.2.2.2.2.1) (Forecast_s_ready_prepared v17 r.2.2.2.2.2.2.2.2.2.2.2.2.2.2.2.2.2.2.2.2.1 r.2.2.2.2.2.2.2.2.2.2.2.2.2.2.2.2.2.2.2.2.2) und r.2.1 r.2.2.1 (R_s_thrown_state_undos_isMarked w q.2.1 q.2.2.1 q.2.2.2.1 q.2.2.2.2))) := by
  have hh := h
  obtain ⟨b1, b2, ⟨hR, hI⟩, b4, hta, hu, b7, b8, b9⟩ := h
  have hT := b1.1
  have h6 := hT.1.2
  have ha := hR.2.2.2.2.2.1
  have hno : RELx P L g (Bl_nextUndo v0, Bl_undoable v0, Bl_laid v0) v1 v2 v3 v7 v9 (Lives_purse v10, Lives_debt v10, Lives_home v10, Lives_hidden v10, Lives_self v10, Lives_worthThen v10, Lives_homeThen v10, Lives_away v10, Lives_days v10, Lives_homes v10, Lives_harm v10) (Tales_count v13, Tales_lives v13, Tales_days v13, Tales_purses v13) (Forecast_s_ready_prepared v17 (Forecast_ready v17) (Forecast_prepared v17)) und mls mts (R_s_thrown_state_undos_isMarked w 0 (R_state w) (R_undos w) (R_isMarked w)) := hh.same ⟨rfl, rfl, rfl, rfl, rfl, rfl, rfl, rfl, rfl, rfl, rfl, rfl, rfl⟩ rfl rfl
  have hct : ∀ t u : VTales, f_Tales_copyFrom N t u = some (cpT t u) := fun _ _ => rfl
  have hn1 : vp_nar .boolean 1 = 1 := rfl
  unfold f_Bl_mark f_R_mark
  rw [hn1]
  by_cases w1 : a1 < 0
  · have hw : f_R_within N a1 0 3 = some 0 := within_no (Or.inl w1)
    repeat (first | (with_reducible refine Ev.letE ?_) | (with_reducible refine Ev.ifn ?_ ?_; · (first | with_reducible assumption | decide | (simp (disch := omega) only [zlit, nI_add, pk_mul, pk_sub, zsubm, nI_clamp, nI_leI, nI_ltI, nI_eq, zeqF, Nat.reduceEqDiff, zleF, zleT, zltF, zltT, zneg1, zneg1L, zneg2, zneg0, eq_self, or_self, false_or, or_false, Nat.not_lt_zero, not_false_eq_true, not_true_eq_false]; done))) | (with_reducible refine Ev.ifp ?_ ?_; · (first | with_reducible assumption | decide | (simp (disch := omega) only [zlit, nI_add, pk_mul, pk_sub, zsubm, nI_clamp, nI_leI, nI_ltI, nI_eq, zeqF, Nat.reduceEqDiff, zleF, zleT, zltF, zltT, zneg1, zneg1L, zneg2, zneg0, eq_self, or_self, false_or, or_false, Nat.not_lt_zero, not_false_eq_true, not_true_eq_false]; done))) | (with_reducible refine Ev.bnd (x := some _) rfl ?_))
    refine Ev.ret ?_
    repeat (first | (with_reducible refine Ev.letE ?_) | (with_reducible refine Ev.ifn ?_ ?_; · (first | with_reducible assumption | decide | (simp (disch := omega) only [zlit, nI_add, pk_mul, pk_sub, zsubm, nI_clamp, nI_leI, nI_ltI, nI_eq, zeqF, Nat.reduceEqDiff, zleF, zleT, zltF, zltT, zneg1, zneg1L, zneg2, zneg0, eq_self, or_self, false_or, or_false, Nat.not_lt_zero, not_false_eq_true, not_true_eq_false]; done))) | (with_reducible refine Ev.ifp ?_ ?_; · (first | with_reducible assumption | decide | (simp (disch := omega) only [zlit, nI_add, pk_mul, pk_sub, zsubm, nI_clamp, nI_leI, nI_ltI, nI_eq, zeqF, Nat.reduceEqDiff, zleF, zleT, zltF, zltT, zneg1, zneg1L, zneg2, zneg0, eq_self, or_self, false_or, or_false, Nat.not_lt_zero, not_false_eq_true, not_true_eq_false]; done))) | (with_reducible refine Ev.bnd (hw) ?_) | (with_reducible refine Ev.bnd (x := some _) rfl ?_))
    exact Ev.ret ⟨rfl, rfl, hno⟩
  by_cases w2 : 4 ≤ a1
  · have hw : f_R_within N a1 0 3 = some 0 := within_no (Or.inr (by grind))
    repeat (first | (with_reducible refine Ev.letE ?_) | (with_reducible refine Ev.ifn ?_ ?_; · (first | with_reducible assumption | decide | (simp (disch := omega) only [zlit, nI_add, pk_mul, pk_sub, zsubm, nI_clamp, nI_leI, nI_ltI, nI_eq, zeqF, Nat.reduceEqDiff, zleF, zleT, zltF, zltT, zneg1, zneg1L, zneg2, zneg0, eq_self, or_self, false_or, or_false, Nat.not_lt_zero, not_false_eq_true, not_true_eq_false]; done))) | (with_reducible refine Ev.ifp ?_ ?_; · (first | with_reducible assumption | decide | (simp (disch := omega) only [zlit, nI_add, pk_mul, pk_sub, zsubm, nI_clamp, nI_leI, nI_ltI, nI_eq, zeqF, Nat.reduceEqDiff, zleF, zleT, zltF, zltT, zneg1, zneg1L, zneg2, zneg0, eq_self, or_self, false_or, or_false, Nat.not_lt_zero, not_false_eq_true, not_true_eq_false]; done))) | (with_reducible refine Ev.bnd (x := some _) rfl ?_))
    refine Ev.ret ?_
    repeat (first | (with_reducible refine Ev.letE ?_) | (with_reducible refine Ev.ifn ?_ ?_; · (first | with_reducible assumption | decide | (simp (disch := omega) only [zlit, nI_add, pk_mul, pk_sub, zsubm, nI_clamp, nI_leI, nI_ltI, nI_eq, zeqF, Nat.reduceEqDiff, zleF, zleT, zltF, zltT, zneg1, zneg1L, zneg2, zneg0, eq_self, or_self, false_or, or_false, Nat.not_lt_zero, not_false_eq_true, not_true_eq_false]; done))) | (with_reducible refine Ev.ifp ?_ ?_; · (first | with_reducible assumption | decide | (simp (disch := omega) only [zlit, nI_add, pk_mul, pk_sub, zsubm, nI_clamp, nI_leI, nI_ltI, nI_eq, zeqF, Nat.reduceEqDiff, zleF, zleT, zltF, zltT, zneg1, zneg1L, zneg2, zneg0, eq_self, or_self, false_or, or_false, Nat.not_lt_zero, not_false_eq_true, not_true_eq_false]; done))) | (with_reducible refine Ev.bnd (hw) ?_) | (with_reducible refine Ev.bnd (x := some _) rfl ?_))
    exact Ev.ret ⟨rfl, rfl, hno⟩
  have hw : f_R_within N a1 0 3 = some 1 := within_yes w1 (by grind)
  obtain ⟨m, hm, rfl⟩ := nI_of w1
  have hm4 : m < 4 := by
    rw [show (4 : Int32) = nI 4 from rfl, nI_leI (by omega) (by omega)] at w2
    omega
  rw [nI_clamp (n := m) (by omega)]
  obtain ⟨u, q, hu1, hq1, hu2, hu3, hq2, hu4⟩ := hu
  rcases ha2 with rfl | rfl
  · repeat (first | (with_reducible refine Ev.letE ?_) | (with_reducible refine Ev.ifn ?_ ?_; · (first | with_reducible assumption | decide | (simp (disch := omega) only [zlit, nI_add, pk_mul, pk_sub, zsubm, nI_clamp, nI_leI, nI_ltI, nI_eq, zeqF, Nat.reduceEqDiff, zleF, zleT, zltF, zltT, zneg1, zneg1L, zneg2, zneg0, eq_self, or_self, false_or, or_false, Nat.not_lt_zero, not_false_eq_true, not_true_eq_false]; done))) | (with_reducible refine Ev.ifp ?_ ?_; · (first | with_reducible assumption | decide | (simp (disch := omega) only [zlit, nI_add, pk_mul, pk_sub, zsubm, nI_clamp, nI_leI, nI_ltI, nI_eq, zeqF, Nat.reduceEqDiff, zleF, zleT, zltF, zltT, zneg1, zneg1L, zneg2, zneg0, eq_self, or_self, false_or, or_false, Nat.not_lt_zero, not_false_eq_true, not_true_eq_false]; done))) | (with_reducible refine Ev.bnd (x := some _) rfl ?_))
    refine Ev.bnx (copy_ev (N := N) ha) ?_
    rintro ⟨c1, c2, c3, c4, c5, c6, c7, c8, c9, c10, c11⟩ hc
    repeat (first | (with_reducible refine Ev.letE ?_) | (with_reducible refine Ev.ifn ?_ ?_; · (first | with_reducible assumption | decide | (simp (disch := omega) only [zlit, nI_add, pk_mul, pk_sub, zsubm, nI_clamp, nI_leI, nI_ltI, nI_eq, zeqF, Nat.reduceEqDiff, zleF, zleT, zltF, zltT, zneg1, zneg1L, zneg2, zneg0, eq_self, or_self, false_or, or_false, Nat.not_lt_zero, not_false_eq_true, not_true_eq_false]; done))) | (with_reducible refine Ev.ifp ?_ ?_; · (first | with_reducible assumption | decide | (simp (disch := omega) only [zlit, nI_add, pk_mul, pk_sub, zsubm, nI_clamp, nI_leI, nI_ltI, nI_eq, zeqF, Nat.reduceEqDiff, zleF, zleT, zltF, zltT, zneg1, zneg1L, zneg2, zneg0, eq_self, or_self, false_or, or_false, Nat.not_lt_zero, not_false_eq_true, not_true_eq_false]; done))) | (with_reducible refine Ev.bnd (hct _ _) ?_) | (with_reducible refine Ev.bnd (x := some _) rfl ?_))
    refine Ev.ret ?_
    rw [show (if (0 : Int32) = 0 then (0 : Int32) else 72 * (1 + nI m)) = nI 0 from rfl, show (if (0 : Int32) = 0 then (72 : Int32) * (1 + nI m) else 0) = nI (72 * (1 + m)) by
      rw [if_pos rfl]
      simp (maxSteps := 2000000) (disch := omega) only [zlit, nI_add, pk_mul, nI_clamp]]
    repeat (first | (with_reducible refine Ev.letE ?_) | (with_reducible refine Ev.ifn ?_ ?_; · (first | with_reducible assumption | decide | (simp (disch := omega) only [zlit, nI_add, pk_mul, pk_sub, zsubm, nI_clamp, nI_leI, nI_ltI, nI_eq, zeqF, Nat.reduceEqDiff, zleF, zleT, zltF, zltT, zneg1, zneg1L, zneg2, zneg0, eq_self, or_self, false_or, or_false, Nat.not_lt_zero, not_false_eq_true, not_true_eq_false]; done))) | (with_reducible refine Ev.ifp ?_ ?_; · (first | with_reducible assumption | decide | (simp (disch := omega) only [zlit, nI_add, pk_mul, pk_sub, zsubm, nI_clamp, nI_leI, nI_ltI, nI_eq, zeqF, Nat.reduceEqDiff, zleF, zleT, zltF, zltT, zneg1, zneg1L, zneg2, zneg0, eq_self, or_self, false_or, or_false, Nat.not_lt_zero, not_false_eq_true, not_true_eq_false]; done))) | (with_reducible refine Ev.bnd (hw) ?_) | (with_reducible refine Ev.bnd (x := some _) rfl ?_))
    refine Ev.bnx (copies_ev hN (w := R_s_thrown_isMarked w 0 (upd (R_isMarked w) m 1)) (a := 0) (b := 72 * (1 + m)) (n := 72) (by omega) (by omega) (by omega)) ?_
    rintro st ⟨d1, d2⟩
    have d1 : ∀ j, j < 72 → st (72 * (1 + m) + j) = R_state w (0 + j) := d1
    have d2 : ∀ j, ¬ (72 * (1 + m) ≤ j ∧ j < 72 * (1 + m) + 72) → st j = R_state w j := d2
    refine Ev.ret ⟨rfl, rfl, ?_⟩
    have hg : AGP P v10 (c1, c2, c3, c4, c5, c6, c7, c8, c9, c10, c11) := (hc.le h6).symm
    refine ⟨b1, b2, ⟨hR.keep h6 (fun j x y => d2 j (by omega)), hI⟩, b4, hta.keep (fun j x y => d2 j (by omega)), ?_, ?_, b8, b9⟩
    · exact ⟨u, q, hu1, hq1, hu2, hu3, hq2, fun i hi => ⟨(hu4 i hi).1.keep h6 (fun j x y => d2 j (by omega)), (hu4 i hi).2⟩⟩
    · intro i hi
      show (upd (Bl_laid v0) m 1 i = 0 ∧ upd (R_isMarked w) m 1 i = 0) ∨ (upd (Bl_laid v0) m 1 i = 1 ∧ upd (R_isMarked w) m 1 i = 1 ∧ LR P (72 * (1 + i)) st (va_up mls m (c1, c2, c3, c4, c5, c6, c7, c8, c9, c10, c11) i) ∧ LI P (va_up mls m (c1, c2, c3, c4, c5, c6, c7, c8, c9, c10, c11) i) ∧ taleR P (72 * (1 + i)) st (va_up mts m (cpT (mts m) v13) i))
      by_cases c : i = m
      · subst c
        rw [pk_us, pk_us, va_up_self, va_up_self]
        exact Or.inr ⟨rfl, rfl, (hR.moved (b := 72 * (1 + i)) h6 (fun j hj => d1 j (by omega))).ag hg, hI.ag hg, cpT_R (hta.moved (b := 72 * (1 + i)) d1)⟩
      · rw [pk_un c, pk_un c, va_up_ne _ _ c, va_up_ne _ _ c]
        rcases b7 i hi with x | ⟨x1, x2, x3, x4, x5⟩
        · exact Or.inl x
        · exact Or.inr ⟨x1, x2, x3.keep h6 (fun j x y => d2 j (by omega)), x4, x5.keep (fun j x y => d2 j (by omega))⟩
  · rcases b7 m hm4 with ⟨x1, x2⟩ | ⟨x1, x2, x3, x4, x5⟩
    · rw [x1, x2]
      repeat (first | (with_reducible refine Ev.letE ?_) | (with_reducible refine Ev.ifn ?_ ?_; · (first | with_reducible assumption | decide | (simp (disch := omega) only [zlit, nI_add, pk_mul, pk_sub, zsubm, nI_clamp, nI_leI, nI_ltI, nI_eq, zeqF, Nat.reduceEqDiff, zleF, zleT, zltF, zltT, zneg1, zneg1L, zneg2, zneg0, eq_self, or_self, false_or, or_false, Nat.not_lt_zero, not_false_eq_true, not_true_eq_false]; done))) | (with_reducible refine Ev.ifp ?_ ?_; · (first | with_reducible assumption | decide | (simp (disch := omega) only [zlit, nI_add, pk_mul, pk_sub, zsubm, nI_clamp, nI_leI, nI_ltI, nI_eq, zeqF, Nat.reduceEqDiff, zleF, zleT, zltF, zltT, zneg1, zneg1L, zneg2, zneg0, eq_self, or_self, false_or, or_false, Nat.not_lt_zero, not_false_eq_true, not_true_eq_false]; done))) | (with_reducible refine Ev.bnd (x := some _) rfl ?_))
      refine Ev.ret ?_
      repeat (first | (with_reducible refine Ev.letE ?_) | (with_reducible refine Ev.ifn ?_ ?_; · (first | with_reducible assumption | decide | (simp (disch := omega) only [zlit, nI_add, pk_mul, pk_sub, zsubm, nI_clamp, nI_leI, nI_ltI, nI_eq, zeqF, Nat.reduceEqDiff, zleF, zleT, zltF, zltT, zneg1, zneg1L, zneg2, zneg0, eq_self, or_self, false_or, or_false, Nat.not_lt_zero, not_false_eq_true, not_true_eq_false]; done))) | (with_reducible refine Ev.ifp ?_ ?_; · (first | with_reducible assumption | decide | (simp (disch := omega) only [zlit, nI_add, pk_mul, pk_sub, zsubm, nI_clamp, nI_leI, nI_ltI, nI_eq, zeqF, Nat.reduceEqDiff, zleF, zleT, zltF, zltT, zneg1, zneg1L, zneg2, zneg0, eq_self, or_self, false_or, or_false, Nat.not_lt_zero, not_false_eq_true, not_true_eq_false]; done))) | (with_reducible refine Ev.bnd (hw) ?_) | (with_reducible refine Ev.bnd (x := some _) rfl ?_))
      exact Ev.ret ⟨rfl, rfl, hno⟩
    · rw [x1, x2]
      repeat (first | (with_reducible refine Ev.letE ?_) | (with_reducible refine Ev.ifn ?_ ?_; · (first | with_reducible assumption | decide | (simp (disch := omega) only [zlit, nI_add, pk_mul, pk_sub, zsubm, nI_clamp, nI_leI, nI_ltI, nI_eq, zeqF, Nat.reduceEqDiff, zleF, zleT, zltF, zltT, zneg1, zneg1L, zneg2, zneg0, eq_self, or_self, false_or, or_false, Nat.not_lt_zero, not_false_eq_true, not_true_eq_false]; done))) | (with_reducible refine Ev.ifp ?_ ?_; · (first | with_reducible assumption | decide | (simp (disch := omega) only [zlit, nI_add, pk_mul, pk_sub, zsubm, nI_clamp, nI_leI, nI_ltI, nI_eq, zeqF, Nat.reduceEqDiff, zleF, zleT, zltF, zltT, zneg1, zneg1L, zneg2, zneg0, eq_self, or_self, false_or, or_false, Nat.not_lt_zero, not_false_eq_true, not_true_eq_false]; done))) | (with_reducible refine Ev.bnd (x := some _) rfl ?_))
      refine Ev.bnx (copy_ev (N := N) x3.2.2.2.2.2.1) ?_
      rintro ⟨c1, c2, c3, c4, c5, c6, c7, c8, c9, c10, c11⟩ hc
      have hf : ∀ x y z t r s, f_Forecast_forget N x y z t r s = some (0, -1) := fun _ _ _ _ _ _ => rfl
      repeat (first | (with_reducible refine Ev.letE ?_) | (with_reducible refine Ev.ifn ?_ ?_; · (first | with_reducible assumption | decide | (simp (disch := omega) only [zlit, nI_add, pk_mul, pk_sub, zsubm, nI_clamp, nI_leI, nI_ltI, nI_eq, zeqF, Nat.reduceEqDiff, zleF, zleT, zltF, zltT, zneg1, zneg1L, zneg2, zneg0, eq_self, or_self, false_or, or_false, Nat.not_lt_zero, not_false_eq_true, not_true_eq_false]; done))) | (with_reducible refine Ev.ifp ?_ ?_; · (first | with_reducible assumption | decide | (simp (disch := omega) only [zlit, nI_add, pk_mul, pk_sub, zsubm, nI_clamp, nI_leI, nI_ltI, nI_eq, zeqF, Nat.reduceEqDiff, zleF, zleT, zltF, zltT, zneg1, zneg1L, zneg2, zneg0, eq_self, or_self, false_or, or_false, Nat.not_lt_zero, not_false_eq_true, not_true_eq_false]; done))) | (with_reducible refine Ev.bnd (hct _ _) ?_) | (with_reducible refine Ev.bnd (hf _ _ _ _ _ _) ?_) | (with_reducible refine Ev.bnd (x := some _) rfl ?_))
      refine Ev.ret ?_
      rw [show (if (1 : Int32) = 0 then (0 : Int32) else 72 * (1 + nI m)) = nI (72 * (1 + m)) by
        rw [if_neg (by decide)]
        simp (maxSteps := 2000000) (disch := omega) only [zlit, nI_add, pk_mul, nI_clamp], show (if (1 : Int32) = 0 then (72 : Int32) * (1 + nI m) else 0) = nI 0 from rfl]
      repeat (first | (with_reducible refine Ev.letE ?_) | (with_reducible refine Ev.ifn ?_ ?_; · (first | with_reducible assumption | decide | (simp (disch := omega) only [zlit, nI_add, pk_mul, pk_sub, zsubm, nI_clamp, nI_leI, nI_ltI, nI_eq, zeqF, Nat.reduceEqDiff, zleF, zleT, zltF, zltT, zneg1, zneg1L, zneg2, zneg0, eq_self, or_self, false_or, or_false, Nat.not_lt_zero, not_false_eq_true, not_true_eq_false]; done))) | (with_reducible refine Ev.ifp ?_ ?_; · (first | with_reducible assumption | decide | (simp (disch := omega) only [zlit, nI_add, pk_mul, pk_sub, zsubm, nI_clamp, nI_leI, nI_ltI, nI_eq, zeqF, Nat.reduceEqDiff, zleF, zleT, zltF, zltT, zneg1, zneg1L, zneg2, zneg0, eq_self, or_self, false_or, or_false, Nat.not_lt_zero, not_false_eq_true, not_true_eq_false]; done))) | (with_reducible refine Ev.bnd (hw) ?_) | (with_reducible refine Ev.bnd (x := some _) rfl ?_))
      refine Ev.bnx (copies_ev hN (w := R_s_thrown_isMarked w 0 (upd (R_isMarked w) m 1)) (a := 72 * (1 + m)) (b := 0) (n := 72) (by omega) (by omega) (by omega)) ?_
      rintro st ⟨d1, d2⟩
      have d1 : ∀ j, j < 72 → st (0 + j) = R_state w (72 * (1 + m) + j) := d1
      have d2 : ∀ j, ¬ (0 ≤ j ∧ j < 0 + 72) → st j = R_state w j := d2
      refine Ev.ret ⟨rfl, rfl, ?_⟩
      have hg : AGP P (mls m) (c1, c2, c3, c4, c5, c6, c7, c8, c9, c10, c11) := (hc.le h6).symm
      have hmk : upd (R_isMarked w) m 1 = R_isMarked w := by
        funext j
        by_cases c : j = m
        · subst c; rw [pk_us, x2]
        · rw [pk_un c]
      refine ⟨b1, b2, ⟨(x3.moved (b := 0) h6 (fun j hj => d1 j (by omega))).ag hg, x4.ag hg⟩, b4, cpT_R (x5.moved (b := 0) d1), ?_, ?_, b8, foreR_new b9 v3⟩
      · exact ⟨0, q, by omega, hq1, rfl, rfl, hq2, fun i hi => absurd hi (Nat.not_lt_zero _)⟩
      · intro i hi
        show (Bl_laid v0 i = 0 ∧ upd (R_isMarked w) m 1 i = 0) ∨ (Bl_laid v0 i = 1 ∧ upd (R_isMarked w) m 1 i = 1 ∧ LR P (72 * (1 + i)) st (mls i) ∧ LI P (mls i) ∧ taleR P (72 * (1 + i)) st (mts i))
        rw [hmk]
        rcases b7 i hi with x | ⟨y1, y2, y3, y4, y5⟩
        · exact Or.inl x
        · exact Or.inr ⟨y1, y2, y3.keep h6 (fun j x y => d2 j (by omega)), y4, y5.keep (fun j x y => d2 j (by omega))⟩
