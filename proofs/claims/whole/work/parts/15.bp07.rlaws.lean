/-! ===== the reference's Es ===== -/
def opc (c : Int32) : Int32 := if 0 ≤ c then 1 else if (-5) ≤ c then 2 else if c = (-147) then 3 else if c = (-43) then 4 else if c = (-45) then 5 else if c = (-42) then 6 else if c = (-60) then 7 else if c = (-61) then 8 else if c = (-148) then 9 else 10
def arc (c : Int32) : Int32 := if 0 ≤ c then c else (-1) - c
def lawRel (tw op ar : Nat → Int32) (v2 : VLaws) (k : Nat) : Prop := lawOk v2 k ∧ ((Laws_to v2 k ≤ Laws_from v2 k ∧ tw (3 + k) = (-1)) ∨ ∃ f t s : Nat, Laws_from v2 k = nI f ∧ Laws_to v2 k = nI t ∧ f < t ∧ t ≤ 1000 ∧ tw (3 + k) = nI s ∧ s + (t - f) < 1100 ∧ (∀ j, j < t - f → op (s + j) = opc (Laws_codes v2 (f + j)) ∧ ((-5) ≤ Laws_codes v2 (f + j) → ar (s + j) = arc (Laws_codes v2 (f + j)))) ∧ op (s + (t - f)) = 0)
theorem both_ok (N : Nat) {c : Int32} (h : isJ c) (x y : Int32) : f_R_both N (opc c) x y = some (joinS (-c) x y) := by
  rcases h with rfl | rfl | rfl | rfl | rfl | rfl | rfl
  · rfl
  · rfl
  · rfl
  · show (if y ≤ x then some 0 else some 1) = some (if y ≤ x then 0 else 1)
    split <;> rfl
  · show (if x = y then some 1 else some 0) = some (if x = y then 1 else 0)
    split <;> rfl
  · show (if x = 0 then some 0 else if y = 0 then some 0 else some 1) = some (if x = 0 then 0 else if y = 0 then 0 else 1)
    repeat' split
    all_goals rfl
  · show (if x = 0 then (if y = 0 then some 0 else some 1) else some 1) = some (if x = 0 then (if y = 0 then 0 else 1) else 1)
    repeat' split
    all_goals rfl
theorem opc_join {c : Int32} (h : isJ c) : ¬ opc c = 0 ∧ ¬ opc c = 1 ∧ ¬ opc c = 2 ∧ ¬ opc c = 3 := by
  rcases h with rfl | rfl | rfl | rfl | rfl | rfl | rfl <;> decide
theorem worth_loop (N : Nat) {w : VR} {f : Nat → Int32} {s n0 nf : Nat} {fx : Nat → Int32} (hf : ∀ j, j < nf → R_facts w j = fx j) (hn : nf ≤ 5) (hs : s + n0 < 1100) (hend : R_op w (s + n0) = 0) (b : Nat) (hb : b + n0 ≤ 1000) (hop : ∀ j, j < n0 → R_op w (s + j) = opc (f (b + j)) ∧ ((-5) ≤ f (b + j) → R_arg w (s + j) = arc (f (b + j)))) : ∀ (n i fuel e : Nat) (st : List Int32) (pl : Nat → Int32), i + n = n0 → n < fuel → st.length ≤ 64 → stk pl st → wfC nf (seg f (b + i) n) st.length e → ∃ pl', f_R_worthAt_L4 N fuel w (nI st.length) (nI (s + i)) pl = some pl' ∧ stk pl' (crun fx (seg f (b + i) n) st)
  | _, _, 0, _, _, _, _, h, _, _, _ => absurd h (Nat.not_lt_zero _)
  | 0, i, fuel + 1, e, st, pl, h1, h2, hl, h3, h4 => by
    refine ⟨pl, ?_, h3⟩
    rw [f_R_worthAt_L4, nI_clamp (n := s + i) (by omega), show s + i = s + n0 by omega, hend]
    repeat (first | (with_reducible refine zletE ?_) | (with_reducible refine zifn ?_ ?_; · (first | with_reducible assumption | decide | (simp (disch := omega) only [zlit, nI_add, pk_mul, pk_sub, zsubm, nI_clamp, nI_leI, nI_ltI, nI_eq, zeqF, Nat.reduceEqDiff, zleF, zleT, zltF, zltT, zneg1, zneg1L, zneg2, zneg0, eq_self, or_self, false_or, or_false, Nat.not_lt_zero, not_false_eq_true, not_true_eq_false]; done))) | (with_reducible refine zifp ?_ ?_; · (first | with_reducible assumption | decide | (simp (disch := omega) only [zlit, nI_add, pk_mul, pk_sub, zsubm, nI_clamp, nI_leI, nI_ltI, nI_eq, zeqF, Nat.reduceEqDiff, zleF, zleT, zltF, zltT, zneg1, zneg1L, zneg2, zneg0, eq_self, or_self, false_or, or_false, Nat.not_lt_zero, not_false_eq_true, not_true_eq_false]; done))) | (with_reducible refine bnd (x := some _) rfl ?_))
    rfl
  | n + 1, i, fuel + 1, e, st, pl, h1, h2, hl, h3, h4 => by
    obtain ⟨ho, ha⟩ := hop i (by omega)
    rw [f_R_worthAt_L4, nI_clamp (n := s + i) (by omega), ho, show nI (s + i) + 1 = nI (s + (i + 1)) from nI_1 _]
    show ∃ pl', _ = some pl' ∧ stk pl' (crun fx (seg f (b + (i + 1)) n) (cstep fx (f (b + i)) st))
    have ih := worth_loop N hf hn hs hend b hb hop n (i + 1) fuel e
    rcases h4 with ⟨g1, g2, g3⟩ | ⟨g1, g2, g3⟩ | ⟨g1, g2, g3⟩
    · rcases g1 with g | ⟨j, hj, g⟩
      · obtain ⟨c1, c2, c3, c4⟩ := code_num g
        rw [cstep, if_pos c2, if_pos g]
        obtain ⟨pl', q1, q2⟩ := ih (f (b + i) :: st) (upd pl st.length (f (b + i))) (by omega) (by omega) g2 (stk_push h3 rfl) g3
        refine ⟨pl', ?_, q2⟩
        have e1 : opc (f (b + i)) = 1 := if_pos g
        have e2 : R_arg w (s + i) = f (b + i) := by rw [ha c2, arc, if_pos g]
        rw [e1, e2, nI_clamp (n := st.length) (by omega), nI_1 st.length]
        repeat (first | (with_reducible refine zletE ?_) | (with_reducible refine zifn ?_ ?_; · (first | with_reducible assumption | decide | (simp (disch := omega) only [zlit, nI_add, pk_mul, pk_sub, zsubm, nI_clamp, nI_leI, nI_ltI, nI_eq, zeqF, Nat.reduceEqDiff, zleF, zleT, zltF, zltT, zneg1, zneg1L, zneg2, zneg0, eq_self, or_self, false_or, or_false, Nat.not_lt_zero, not_false_eq_true, not_true_eq_false]; done))) | (with_reducible refine zifp ?_ ?_; · (first | with_reducible assumption | decide | (simp (disch := omega) only [zlit, nI_add, pk_mul, pk_sub, zsubm, nI_clamp, nI_leI, nI_ltI, nI_eq, zeqF, Nat.reduceEqDiff, zleF, zleT, zltF, zltT, zneg1, zneg1L, zneg2, zneg0, eq_self, or_self, false_or, or_false, Nat.not_lt_zero, not_false_eq_true, not_true_eq_false]; done))) | (with_reducible refine bnd (x := some _) rfl ?_))
        exact q1
      · obtain ⟨c1, c2, c3, c4, c5, c6⟩ := code_fact j (by omega)
        rw [← g] at c1 c2 c3 c4 c5 c6
        rw [cstep, if_pos c2, if_neg c4, c6, nI_clamp (n := j) (by omega)]
        obtain ⟨pl', q1, q2⟩ := ih (fx j :: st) (upd pl st.length (fx j)) (by omega) (by omega) g2 (stk_push h3 rfl) g3
        refine ⟨pl', ?_, q2⟩
        have e1 : opc (f (b + i)) = 2 := by rw [opc, if_neg c4, if_pos c2]
        have e2 : R_arg w (s + i) = nI j := by rw [ha c2, arc, if_neg c4, c6]
        rw [e1, e2, nI_clamp (n := st.length) (by omega), nI_clamp (n := j) (by omega), hf j hj, nI_1 st.length]
        repeat (first | (with_reducible refine zletE ?_) | (with_reducible refine zifn ?_ ?_; · (first | with_reducible assumption | decide | (simp (disch := omega) only [zlit, nI_add, pk_mul, pk_sub, zsubm, nI_clamp, nI_leI, nI_ltI, nI_eq, zeqF, Nat.reduceEqDiff, zleF, zleT, zltF, zltT, zneg1, zneg1L, zneg2, zneg0, eq_self, or_self, false_or, or_false, Nat.not_lt_zero, not_false_eq_true, not_true_eq_false]; done))) | (with_reducible refine zifp ?_ ?_; · (first | with_reducible assumption | decide | (simp (disch := omega) only [zlit, nI_add, pk_mul, pk_sub, zsubm, nI_clamp, nI_leI, nI_ltI, nI_eq, zeqF, Nat.reduceEqDiff, zleF, zleT, zltF, zltT, zneg1, zneg1L, zneg2, zneg0, eq_self, or_self, false_or, or_false, Nat.not_lt_zero, not_false_eq_true, not_true_eq_false]; done))) | (with_reducible refine bnd (x := some _) rfl ?_))
        exact q1
    · have e1 : opc (f (b + i)) = 3 := by rw [g1]; decide
      rw [e1]
      cases st with
      | nil => exact absurd g2 (by simp)
      | cons x r =>
        have hl' : r.length + 1 ≤ 64 := hl
        have e6 : cstep fx (f (b + i)) (x :: r) = (if x = 0 then 1 else 0) :: r := by rw [cstep, if_neg (by rw [g1]; decide), if_pos g1]; rfl
        rw [e6]
        obtain ⟨pl', q1, q2⟩ := ih ((if x = 0 then 1 else 0) :: r) (upd pl r.length (if x = 0 then 1 else 0)) (by omega) (by omega) hl ⟨pk_us, stk_upd h3.2 (Nat.le_refl _)⟩ g3
        refine ⟨pl', ?_, q2⟩
        have e7 : nI (x :: r).length - 1 = nI r.length := nI_pred _
        rw [e7, nI_clamp (n := r.length) (by omega), h3.1]
        repeat (first | (with_reducible refine zletE ?_) | (with_reducible refine zifn ?_ ?_; · (first | with_reducible assumption | decide | (simp (disch := omega) only [zlit, nI_add, pk_mul, pk_sub, zsubm, nI_clamp, nI_leI, nI_ltI, nI_eq, zeqF, Nat.reduceEqDiff, zleF, zleT, zltF, zltT, zneg1, zneg1L, zneg2, zneg0, eq_self, or_self, false_or, or_false, Nat.not_lt_zero, not_false_eq_true, not_true_eq_false]; done))) | (with_reducible refine zifp ?_ ?_; · (first | with_reducible assumption | decide | (simp (disch := omega) only [zlit, nI_add, pk_mul, pk_sub, zsubm, nI_clamp, nI_leI, nI_ltI, nI_eq, zeqF, Nat.reduceEqDiff, zleF, zleT, zltF, zltT, zneg1, zneg1L, zneg2, zneg0, eq_self, or_self, false_or, or_false, Nat.not_lt_zero, not_false_eq_true, not_true_eq_false]; done))) | (with_reducible refine bnd (x := some _) rfl ?_))
        exact q1
    · obtain ⟨-, g5, g6⟩ := code_join g1
      obtain ⟨o0, o1, o2, o3⟩ := opc_join g1
      match st, g2, g3, h3, hl with
      | [], g2, _, _, _ => exact absurd g2 (by simp)
      | [x], g2, _, _, _ => exact absurd g2 (by simp)
      | y :: x :: r, _, g3, h3, hl =>
        have hl' : r.length + 1 + 1 ≤ 64 := hl
        have e6 : cstep fx (f (b + i)) (y :: x :: r) = joinS (-(f (b + i))) x y :: r := by rw [cstep, if_neg g5, if_neg g6]; rfl
        rw [e6]
        obtain ⟨pl', q1, q2⟩ := ih (joinS (-(f (b + i))) x y :: r) (upd pl r.length (joinS (-(f (b + i))) x y)) (by omega) (by omega) (by show r.length + 1 ≤ 64; omega) ⟨pk_us, stk_upd h3.2.2 (Nat.le_refl _)⟩ g3
        refine ⟨pl', ?_, q2⟩
        have e7 : nI (y :: x :: r).length + (-1) = nI (r.length + 1) := pk_m1 _
        have h5 : pl (r.length + 1) = y := h3.1
        rw [e7, show nI (r.length + 1) - 1 = nI r.length from nI_pred _, nI_clamp (n := r.length) (by omega), nI_clamp (n := r.length + 1) (by omega), h5, h3.2.1]
        repeat (first | (with_reducible refine zletE ?_) | (with_reducible refine zifn ?_ ?_; · (first | with_reducible assumption | decide | (simp (disch := omega) only [zlit, nI_add, pk_mul, pk_sub, zsubm, nI_clamp, nI_leI, nI_ltI, nI_eq, zeqF, Nat.reduceEqDiff, zleF, zleT, zltF, zltT, zneg1, zneg1L, zneg2, zneg0, eq_self, or_self, false_or, or_false, Nat.not_lt_zero, not_false_eq_true, not_true_eq_false]; done))) | (with_reducible refine zifp ?_ ?_; · (first | with_reducible assumption | decide | (simp (disch := omega) only [zlit, nI_add, pk_mul, pk_sub, zsubm, nI_clamp, nI_leI, nI_ltI, nI_eq, zeqF, Nat.reduceEqDiff, zleF, zleT, zltF, zltT, zneg1, zneg1L, zneg2, zneg0, eq_self, or_self, false_or, or_false, Nat.not_lt_zero, not_false_eq_true, not_true_eq_false]; done))) | (with_reducible refine bnd (both_ok N g1 x y) ?_) | (with_reducible refine bnd (x := some _) rfl ?_))
        exact q1
theorem worthAt_ok {N : Nat} (hN : 10000 ≤ N) {w : VR} {v2 : VLaws} {k : Nat} (h : lawRel (R_towns w) (R_op w) (R_arg w) v2 k) (h0 : 0 ≤ R_towns w (3 + k)) {fx : Nat → Int32} (hf : ∀ j, j < nfOf k → R_facts w j = fx j) : ∃ pl, f_R_worthAt N w (R_towns w (3 + k)) = some (lawS v2 k fx, pl) := by
  obtain ⟨h1, ⟨-, h2⟩ | ⟨f, t, s, h2, h3, h4, h5, h6, h7, h8, h9⟩⟩ := h
  · rw [h2] at h0
    exact absurd h0 (by decide)
  · obtain ⟨f', t', k1, k2, k3, k4, k5⟩ := h1
    have e1 : f' = f := (nI_eq (by omega) (by omega)).mp (k1.symm.trans h2)
    have e2 : t' = t := (nI_eq (by omega) (by omega)).mp (k2.symm.trans h3)
    subst e1
    subst e2
    have hw := k5 h4
    obtain ⟨pl, q1, q2⟩ := worth_loop N (f := Laws_codes v2) hf (nfOf_le k) h7 h9 f' (by omega) h8 (t' - f') 0 N 1 [] (R_pile w) (by omega) (by omega) (Nat.zero_le _) trivial hw
    have hl := crun_len (fx := fx) (st := []) hw (nfOf_le k)
    have e3 : lawS v2 k fx = (crun fx (seg (Laws_codes v2) f' (t' - f')) []).headD 0 := by
      unfold lawS lawCs
      rw [h2, h3, if_neg (fun q => absurd ((nI_leI (by omega) (by omega)).mp q) (by omega)), nI_clamp (by omega), nI_clamp (by omega)]
    rw [e3]
    refine ⟨pl, ?_⟩
    unfold f_R_worthAt
    rw [h6]
    have q3 : f_R_worthAt_L4 N N w 0 (nI s) (R_pile w) = some pl := q1
    rw [q3]
    match hm : crun fx (seg (Laws_codes v2) f' (t' - f')) [], hl, q2 with
    | [], hl, _ => exact absurd hl (by simp)
    | x :: y :: r, hl, _ => exact absurd hl (by simp)
    | [x], _, q2 =>
      have q4 : pl 0 = x := q2.1
      show some (pl 0, pl) = some (x, pl)
      rw [q4]
theorem untold_ok {tw op ar : Nat → Int32} {v2 : VLaws} {k : Nat} (h : lawRel tw op ar v2 k) (h0 : ¬ 0 ≤ tw (3 + k)) (fx : Nat → Int32) : lawS v2 k fx = untS k fx := by
  obtain ⟨h1, ⟨h2, -⟩ | ⟨f, t, s, h2, h3, h4, h5, h6, h7, h8, h9⟩⟩ := h
  · unfold lawS
    rw [if_pos h2]
  · rw [h6] at h0
    exact absurd (nI_pos' (by omega)) h0
