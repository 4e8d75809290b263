/-! ===== days of the class ===== -/
def selfOk (P : Nat) (self : Nat → Int32) : Prop := ∀ l, l < P → ∃ j, j < P ∧ self l = nI j
theorem lives_loop {N : Nat} (hN : 10000 ≤ N) {v : VLives} {v1 : VTown} {v2 : VLaws} {P : Nat} {sg y1 y3 : Int32} (hP : tpl v1 P) (hs : selfOk P (Lives_self v)) (h0 : lawOk v2 0) (h1 : lawOk v2 1) : ∀ (r k fuel : Nat) (s : T3) (fa sk : Nat → Int32), k + r = P → r < fuel → ∃ fa' sk', f_Lives_passDays_L10 N fuel v v1 v2 y1 sg y3 (nI k) s.1 s.2.1 s.2.2 fa sk = some ((livesS v1 v2 P sg (Lives_hidden v) (Lives_self v) r k s).1, (livesS v1 v2 P sg (Lives_hidden v) (Lives_self v) r k s).2.1, (livesS v1 v2 P sg (Lives_hidden v) (Lives_self v) r k s).2.2, fa', sk')
  | _, _, 0, _, _, _, _, h => absurd h (Nat.not_lt_zero _)
  | 0, k, fuel + 1, s, fa, sk, hk, hf => by
    have h4 := hP.2
    refine ⟨fa, sk, ?_⟩
    rw [f_Lives_passDays_L10, hP.1]
    repeat (first | (with_reducible refine zletE ?_) | (with_reducible refine zifn ?_ ?_; · (first | with_reducible assumption | decide | (simp (disch := omega) only [zlit, nI_add, pk_mul, pk_sub, zsubm, nI_clamp, nI_leI, nI_ltI, nI_eq, zeqF, Nat.reduceEqDiff, zleF, zleT, zltF, zltT, zneg1, zneg1L, zneg2, zneg0, eq_self, or_self, false_or, or_false, Nat.not_lt_zero, not_false_eq_true, not_true_eq_false]; done))) | (with_reducible refine zifp ?_ ?_; · (first | with_reducible assumption | decide | (simp (disch := omega) only [zlit, nI_add, pk_mul, pk_sub, zsubm, nI_clamp, nI_leI, nI_ltI, nI_eq, zeqF, Nat.reduceEqDiff, zleF, zleT, zltF, zltT, zneg1, zneg1L, zneg2, zneg0, eq_self, or_self, false_or, or_false, Nat.not_lt_zero, not_false_eq_true, not_true_eq_false]; done))) | (with_reducible refine bnd (x := some _) rfl ?_))
    rfl
  | r + 1, k, fuel + 1, s, fa, sk, hk, hf => by
    have h4 := hP.2
    obtain ⟨j, hj, hsj⟩ := hs k (by omega)
    obtain ⟨fa1, sk1, e1⟩ := spend_ok hN (v := Lives_s_purse_debt_home v s.1 s.2.1 s.2.2) (v2 := Laws_s_facts_stack v2 fa sk) (sg := sg) hP (l := k) (by omega) hj hsj h0
    have e1 : f_Lives_spend N (Lives_s_purse_debt_home v s.1 s.2.1 s.2.2) v1 (Laws_s_facts_stack v2 fa sk) (nI k) sg = some ((spendS v1 v2 P sg (Lives_hidden v) (Lives_self v) s k).1, (spendS v1 v2 P sg (Lives_hidden v) (Lives_self v) s k).2.1, fa1, sk1) := e1
    obtain ⟨fa2, sk2, e2⟩ := mend_ok hN (v := Lives_s_purse_debt_home v (spendS v1 v2 P sg (Lives_hidden v) (Lives_self v) s k).1 (spendS v1 v2 P sg (Lives_hidden v) (Lives_self v) s k).2.1 s.2.2) (v2 := Laws_s_facts_stack v2 fa1 sk1) hP (l := k) (by omega) hj hsj h1
    have e2 : f_Lives_mend N (Lives_s_purse_debt_home v (spendS v1 v2 P sg (Lives_hidden v) (Lives_self v) s k).1 (spendS v1 v2 P sg (Lives_hidden v) (Lives_self v) s k).2.1 s.2.2) v1 (Laws_s_facts_stack v2 fa1 sk1) (nI k) = some ((mendS v1 v2 (Lives_hidden v) (Lives_self v) ((spendS v1 v2 P sg (Lives_hidden v) (Lives_self v) s k).1, (spendS v1 v2 P sg (Lives_hidden v) (Lives_self v) s k).2.1, s.2.2) k).2.2, fa2, sk2) := e2
    have e3 : (spendS v1 v2 P sg (Lives_hidden v) (Lives_self v) s k).2.2 = s.2.2 := by
      unfold spendS spend2
      split <;> rfl
    obtain ⟨fa3, sk3, e4⟩ := lives_loop hN hP hs h0 h1 (sg := sg) (y1 := y1) (y3 := y3) r (k + 1) fuel (lifeS v1 v2 P sg (Lives_hidden v) (Lives_self v) s k) fa2 sk2 (by omega) (by omega)
    refine ⟨fa3, sk3, ?_⟩
    rw [f_Lives_passDays_L10, hP.1]
    repeat (first | (with_reducible refine zletE ?_) | (with_reducible refine zifn ?_ ?_; · (first | with_reducible assumption | decide | (simp (disch := omega) only [zlit, nI_add, pk_mul, pk_sub, zsubm, nI_clamp, nI_leI, nI_ltI, nI_eq, zeqF, Nat.reduceEqDiff, zleF, zleT, zltF, zltT, zneg1, zneg1L, zneg2, zneg0, eq_self, or_self, false_or, or_false, Nat.not_lt_zero, not_false_eq_true, not_true_eq_false]; done))) | (with_reducible refine zifp ?_ ?_; · (first | with_reducible assumption | decide | (simp (disch := omega) only [zlit, nI_add, pk_mul, pk_sub, zsubm, nI_clamp, nI_leI, nI_ltI, nI_eq, zeqF, Nat.reduceEqDiff, zleF, zleT, zltF, zltT, zneg1, zneg1L, zneg2, zneg0, eq_self, or_self, false_or, or_false, Nat.not_lt_zero, not_false_eq_true, not_true_eq_false]; done))) | (with_reducible refine bnd (e1) ?_) | (with_reducible refine bnd (e2) ?_) | (with_reducible refine bnd (x := some _) rfl ?_))
    have e5 : mendS v1 v2 (Lives_hidden v) (Lives_self v) ((spendS v1 v2 P sg (Lives_hidden v) (Lives_self v) s k).1, (spendS v1 v2 P sg (Lives_hidden v) (Lives_self v) s k).2.1, s.2.2) k = lifeS v1 v2 P sg (Lives_hidden v) (Lives_self v) s k := by
      rw [← e3]
      rfl
    rw [show nI k + 1 = nI (k + 1) from nI_1 k]
    refine Eq.trans ?_ e4
    rw [← e5]
    rfl
theorem livesS_fs (v1 : VTown) (v2 : VLaws) (P : Nat) (sg : Int32) (hid self fa sk : Nat → Int32) : ∀ (r k : Nat) (s : T3), livesS v1 (Laws_s_facts_stack v2 fa sk) P sg hid self r k s = livesS v1 v2 P sg hid self r k s
  | 0, _, _ => rfl
  | r + 1, k, s => livesS_fs v1 v2 P sg hid self fa sk r (k + 1) (lifeS v1 v2 P sg hid self s k)
theorem dayS_fs (v1 : VTown) (v2 : VLaws) (P : Nat) (sg : Int32) (hid self fa sk : Nat → Int32) (s : T3) : dayS v1 (Laws_s_facts_stack v2 fa sk) P sg hid self s = dayS v1 v2 P sg hid self s := livesS_fs v1 v2 P sg hid self fa sk P 0 s
theorem daysS_fs (v1 : VTown) (v2 : VLaws) (P : Nat) (sg : Int32) (hid self fa sk : Nat → Int32) : ∀ (n : Nat) (s : T3), daysS v1 (Laws_s_facts_stack v2 fa sk) P sg hid self n s = daysS v1 v2 P sg hid self n s
  | 0, _ => rfl
  | n + 1, s => by
    show daysS v1 (Laws_s_facts_stack v2 fa sk) P sg hid self n (dayS v1 (Laws_s_facts_stack v2 fa sk) P sg hid self s) = daysS v1 v2 P sg hid self n (dayS v1 v2 P sg hid self s)
    rw [dayS_fs, daysS_fs]
theorem dayS_ok {N : Nat} (hN : 10000 ≤ N) {v : VLives} {v1 : VTown} {v2 : VLaws} {P : Nat} {sg y1 y3 : Int32} (hP : tpl v1 P) (hs : selfOk P (Lives_self v)) (h0 : lawOk v2 0) (h1 : lawOk v2 1) (s : T3) (fa sk : Nat → Int32) : ∃ fa' sk', f_Lives_passDays_L10 N N v v1 v2 y1 sg y3 0 s.1 s.2.1 s.2.2 fa sk = some ((dayS v1 v2 P sg (Lives_hidden v) (Lives_self v) s).1, (dayS v1 v2 P sg (Lives_hidden v) (Lives_self v) s).2.1, (dayS v1 v2 P sg (Lives_hidden v) (Lives_self v) s).2.2, fa', sk') :=
  lives_loop hN hP hs h0 h1 P 0 N s fa sk (by omega) (by have := hP.2; omega)
theorem days_loop {N : Nat} (hN : 10000 ≤ N) {v : VLives} {v1 : VTown} {v2 : VLaws} {P n : Nat} {sg : Int32} (hn : n ≤ 7) (hP : tpl v1 P) (hs : selfOk P (Lives_self v)) (h0 : lawOk v2 0) (h1 : lawOk v2 1) : ∀ (r k fuel : Nat) (s : T3) (d : Int32) (fa sk : Nat → Int32), k + r = n → r < fuel → ∃ fa' sk', f_Lives_passDays_L2 N fuel v v1 v2 (nI n) sg (nI k) s.1 s.2.1 s.2.2 d fa sk = some ((daysS v1 v2 P sg (Lives_hidden v) (Lives_self v) r s).1, (daysS v1 v2 P sg (Lives_hidden v) (Lives_self v) r s).2.1, (daysS v1 v2 P sg (Lives_hidden v) (Lives_self v) r s).2.2, d + nI r, fa', sk')
  | _, _, 0, _, _, _, _, _, h => absurd h (Nat.not_lt_zero _)
  | 0, k, fuel + 1, s, d, fa, sk, hk, hf => by
    refine ⟨fa, sk, ?_⟩
    rw [f_Lives_passDays_L2]
    repeat (first | (with_reducible refine zletE ?_) | (with_reducible refine zifn ?_ ?_; · (first | with_reducible assumption | decide | (simp (disch := omega) only [zlit, nI_add, pk_mul, pk_sub, zsubm, nI_clamp, nI_leI, nI_ltI, nI_eq, zeqF, Nat.reduceEqDiff, zleF, zleT, zltF, zltT, zneg1, zneg1L, zneg2, zneg0, eq_self, or_self, false_or, or_false, Nat.not_lt_zero, not_false_eq_true, not_true_eq_false]; done))) | (with_reducible refine zifp ?_ ?_; · (first | with_reducible assumption | decide | (simp (disch := omega) only [zlit, nI_add, pk_mul, pk_sub, zsubm, nI_clamp, nI_leI, nI_ltI, nI_eq, zeqF, Nat.reduceEqDiff, zleF, zleT, zltF, zltT, zneg1, zneg1L, zneg2, zneg0, eq_self, or_self, false_or, or_false, Nat.not_lt_zero, not_false_eq_true, not_true_eq_false]; done))) | (with_reducible refine bnd (x := some _) rfl ?_))
    rw [nI_0, show d + 0 = d by grind]
    rfl
  | r + 1, k, fuel + 1, s, d, fa, sk, hk, hf => by
    obtain ⟨fa1, sk1, e1⟩ := dayS_ok hN (v := Lives_s_purse_debt_home_days v s.1 s.2.1 s.2.2 d) (v2 := Laws_s_facts_stack v2 fa sk) (sg := sg) (y1 := nI n) (y3 := nI k) hP hs h0 h1 s fa sk
    rw [dayS_fs] at e1
    have e1 : f_Lives_passDays_L10 N N (Lives_s_purse_debt_home_days v s.1 s.2.1 s.2.2 d) v1 (Laws_s_facts_stack v2 fa sk) (nI n) sg (nI k) 0 s.1 s.2.1 s.2.2 fa sk = some ((dayS v1 v2 P sg (Lives_hidden v) (Lives_self v) s).1, (dayS v1 v2 P sg (Lives_hidden v) (Lives_self v) s).2.1, (dayS v1 v2 P sg (Lives_hidden v) (Lives_self v) s).2.2, fa1, sk1) := e1
    obtain ⟨fa3, sk3, e4⟩ := days_loop hN hn hP hs h0 h1 (sg := sg) r (k + 1) fuel (dayS v1 v2 P sg (Lives_hidden v) (Lives_self v) s) (d + 1) fa1 sk1 (by omega) (by omega)
    refine ⟨fa3, sk3, ?_⟩
    rw [f_Lives_passDays_L2]
    repeat (first | (with_reducible refine zletE ?_) | (with_reducible refine zifn ?_ ?_; · (first | with_reducible assumption | decide | (simp (disch := omega) only [zlit, nI_add, pk_mul, pk_sub, zsubm, nI_clamp, nI_leI, nI_ltI, nI_eq, zeqF, Nat.reduceEqDiff, zleF, zleT, zltF, zltT, zneg1, zneg1L, zneg2, zneg0, eq_self, or_self, false_or, or_false, Nat.not_lt_zero, not_false_eq_true, not_true_eq_false]; done))) | (with_reducible refine zifp ?_ ?_; · (first | with_reducible assumption | decide | (simp (disch := omega) only [zlit, nI_add, pk_mul, pk_sub, zsubm, nI_clamp, nI_leI, nI_ltI, nI_eq, zeqF, Nat.reduceEqDiff, zleF, zleT, zltF, zltT, zneg1, zneg1L, zneg2, zneg0, eq_self, or_self, false_or, or_false, Nat.not_lt_zero, not_false_eq_true, not_true_eq_false]; done))) | (with_reducible refine bnd (e1) ?_) | (with_reducible refine bnd (x := some _) rfl ?_))
    rw [show nI k + 1 = nI (k + 1) from nI_1 k]
    refine Eq.trans e4 ?_
    rw [nI_succ, show d + 1 + nI r = d + (nI r + 1) by grind]
    rfl
theorem passDays_ok {N : Nat} (hN : 10000 ≤ N) {v : VLives} {v1 : VTown} {v2 : VLaws} {P n : Nat} {sg : Int32} (hn : n ≤ 7) (hP : tpl v1 P) (hs : selfOk P (Lives_self v)) (h0 : lawOk v2 0) (h1 : lawOk v2 1) : ∃ fa' sk', f_Lives_passDays N v v1 v2 (nI n) sg = some ((daysS v1 v2 P sg (Lives_hidden v) (Lives_self v) n (Lives_purse v, Lives_debt v, Lives_home v)).1, (daysS v1 v2 P sg (Lives_hidden v) (Lives_self v) n (Lives_purse v, Lives_debt v, Lives_home v)).2.1, (daysS v1 v2 P sg (Lives_hidden v) (Lives_self v) n (Lives_purse v, Lives_debt v, Lives_home v)).2.2, Lives_days v + nI n, fa', sk') := by
  obtain ⟨fa, sk, e⟩ := days_loop hN hn hP hs h0 h1 (sg := sg) n 0 N (Lives_purse v, Lives_debt v, Lives_home v) (Lives_days v) (Laws_facts v2) (Laws_stack v2) (by omega) (by omega)
  refine ⟨fa, sk, ?_⟩
  unfold f_Lives_passDays
  have e' : f_Lives_passDays_L2 N N v v1 v2 (nI n) sg 0 (Lives_purse v) (Lives_debt v) (Lives_home v) (Lives_days v) (Laws_facts v2) (Laws_stack v2) = _ := e
  rw [e']
  rfl
