/-! ===== the Es: what a law comes to ===== -/
def stk (sk : Nat → Int32) : List Int32 → Prop
  | [] => True
  | x :: r => sk r.length = x ∧ stk sk r
theorem stk_upd {sk : Nat → Int32} {n : Nat} {x : Int32} : ∀ {st : List Int32}, stk sk st → st.length ≤ n → stk (upd sk n x) st
  | [], _, _ => trivial
  | y :: r, h, hn => by
    have h2 : r.length + 1 ≤ n := hn
    refine ⟨?_, stk_upd h.2 (by omega)⟩
    rw [pk_un (by omega)]
    exact h.1
theorem stk_push {sk : Nat → Int32} {n : Nat} {x : Int32} {st : List Int32} (h : stk sk st) (hn : n = st.length) : stk (upd sk n x) (x :: st) := by
  subst hn
  exact ⟨pk_us, stk_upd h (Nat.le_refl _)⟩
def joinS (t x y : Int32) : Int32 := if t = 43 then x + y else if t = 45 then x - y else if t = 60 then (if y ≤ x then 0 else 1) else if t = 61 then (if x = y then 1 else 0) else if t = 148 then (if x = 0 then 0 else if y = 0 then 0 else 1) else if t = 149 then (if x = 0 then (if y = 0 then 0 else 1) else 1) else x * y
theorem join_ok (N : Nat) (t x y : Int32) : f_Laws_join N t x y = some (joinS t x y) := by
  unfold f_Laws_join joinS
  repeat' split
  all_goals first | rfl | contradiction
def cnot : List Int32 → List Int32
  | x :: r => (if x = 0 then 1 else 0) :: r
  | [] => []
def cjn (t : Int32) : List Int32 → List Int32
  | y :: x :: r => joinS t x y :: r
  | r => r
def cstep (fx : Nat → Int32) (c : Int32) (st : List Int32) : List Int32 :=
  if (-5) ≤ c then (if 0 ≤ c then c else fx ((-1) - c).toNatClampNeg) :: st
  else if c = (-147) then cnot st
  else cjn (-c) st
def crun (fx : Nat → Int32) : List Int32 → List Int32 → List Int32
  | [], st => st
  | c :: cs, st => crun fx cs (cstep fx c st)
def isJ (c : Int32) : Prop := c = (-43) ∨ c = (-45) ∨ c = (-42) ∨ c = (-60) ∨ c = (-61) ∨ c = (-148) ∨ c = (-149)
def wfC (nf : Nat) : List Int32 → Nat → Nat → Prop
  | [], d, e => d = e
  | c :: cs, d, e => ((0 ≤ c ∨ ∃ j, j < nf ∧ c = (-1) - nI j) ∧ d < 64 ∧ wfC nf cs (d + 1) e) ∨ (c = (-147) ∧ 1 ≤ d ∧ wfC nf cs d e) ∨ (isJ c ∧ 2 ≤ d ∧ wfC nf cs (d - 1) e)
theorem wfC_app {nf : Nat} : ∀ {a b : List Int32} {d m e : Nat}, wfC nf a d m → wfC nf b m e → wfC nf (a ++ b) d e
  | [], b, d, m, e, h1, h2 => by
    have : d = m := h1
    subst this
    exact h2
  | c :: cs, b, d, m, e, h1, h2 => by
    rcases h1 with ⟨g1, g2, g3⟩ | ⟨g1, g2, g3⟩ | ⟨g1, g2, g3⟩
    · exact Or.inl ⟨g1, g2, wfC_app g3 h2⟩
    · exact Or.inr (Or.inl ⟨g1, g2, wfC_app g3 h2⟩)
    · exact Or.inr (Or.inr ⟨g1, g2, wfC_app g3 h2⟩)
def seg (f : Nat → Int32) : Nat → Nat → List Int32
  | _, 0 => []
  | i, n + 1 => f i :: seg f (i + 1) n
theorem seg_cong {f g : Nat → Int32} : ∀ {n i k : Nat}, (∀ j, j < n → f (i + j) = g (k + j)) → seg f i n = seg g k n
  | 0, _, _, _ => rfl
  | n + 1, i, k, h => by
    show f i :: seg f (i + 1) n = g k :: seg g (k + 1) n
    rw [show f i = g k from h 0 (by omega), seg_cong (i := i + 1) (k := k + 1) (fun j hj => by
      have := h (j + 1) (by omega)
      rw [show i + 1 + j = i + (j + 1) by omega, show k + 1 + j = k + (j + 1) by omega]
      exact this)]
theorem seg_app {f : Nat → Int32} : ∀ {n m i : Nat}, seg f i (n + m) = seg f i n ++ seg f (i + n) m
  | 0, m, i => by simp [seg]
  | n + 1, m, i => by
    rw [show n + 1 + m = (n + m) + 1 by omega]
    show f i :: seg f (i + 1) (n + m) = f i :: seg f (i + 1) n ++ seg f (i + (n + 1)) m
    rw [seg_app (n := n), show i + 1 + n = i + (n + 1) by omega]
    rfl
theorem code_num {c : Int32} (h : 0 ≤ c) : ¬ c < (-5) ∧ (-5) ≤ c ∧ ¬ c < 0 ∧ ¬ c = (-147) := by
  refine ⟨?_, ?_, ?_, ?_⟩ <;> grind
theorem code_fact : ∀ j, j < 5 → ¬ ((-1) - nI j) < (-5) ∧ (-5) ≤ ((-1) - nI j) ∧ ((-1) - nI j) < 0 ∧ ¬ 0 ≤ ((-1) - nI j) ∧ ¬ ((-1) - nI j) = (-147) ∧ (-1) - ((-1) - nI j) = nI j := by decide +kernel
theorem code_join {c : Int32} (h : isJ c) : c < (-5) ∧ ¬ (-5) ≤ c ∧ ¬ c = (-147) := by
  rcases h with rfl | rfl | rfl | rfl | rfl | rfl | rfl <;> decide
theorem crun_len {nf : Nat} {fx : Nat → Int32} : ∀ {cs st : List Int32} {e : Nat}, wfC nf cs st.length e → nf ≤ 5 → (crun fx cs st).length = e
  | [], st, e, h, _ => h
  | c :: cs, st, e, h, hn => by
    show (crun fx cs (cstep fx c st)).length = e
    rcases h with ⟨g1, g2, g3⟩ | ⟨g1, g2, g3⟩ | ⟨g1, g2, g3⟩
    · have e5 : (-5) ≤ c := by
        rcases g1 with g | ⟨j, hj, rfl⟩
        · exact (code_num g).2.1
        · exact (code_fact j (by omega)).2.1
      exact crun_len (nf := nf) (by rw [cstep, if_pos e5]; exact g3) hn
    · subst g1
      cases st with
      | nil => exact absurd g2 (by simp)
      | cons x r => exact crun_len (nf := nf) (by rw [cstep, if_neg (by decide), if_pos rfl]; exact g3) hn
    · obtain ⟨-, g5, g6⟩ := code_join g1
      match st, g2, g3 with
      | [], g2, _ => exact absurd g2 (by simp)
      | [x], g2, _ => exact absurd g2 (by simp)
      | y :: x :: r, _, g3 => exact crun_len (nf := nf) (by rw [cstep, if_neg g5, if_neg g6]; exact g3) hn
theorem crun_cong {nf : Nat} {fx fy : Nat → Int32} (hf : ∀ j, j < nf → fx j = fy j) (hn : nf ≤ 5) : ∀ {cs st : List Int32} {e : Nat}, wfC nf cs st.length e → crun fx cs st = crun fy cs st
  | [], st, e, _ => rfl
  | c :: cs, st, e, h => by
    show crun fx cs (cstep fx c st) = crun fy cs (cstep fy c st)
    rcases h with ⟨g1, g2, g3⟩ | ⟨g1, g2, g3⟩ | ⟨g1, g2, g3⟩
    · have e6 : cstep fx c st = cstep fy c st := by
        rcases g1 with g | ⟨j, hj, rfl⟩
        · obtain ⟨-, g4, -, -⟩ := code_num g
          rw [cstep, cstep, if_pos g4, if_pos g4, if_pos g, if_pos g]
        · obtain ⟨-, g4, -, g5, -, g6⟩ := code_fact j (by omega)
          rw [cstep, cstep, if_pos g4, if_pos g4, if_neg g5, if_neg g5, g6, nI_clamp (by omega), hf j hj]
      have e7 : (cstep fy c st).length = st.length + 1 := by
        have e5 : (-5) ≤ c := by
          rcases g1 with g | ⟨j, hj, rfl⟩
          · exact (code_num g).2.1
          · exact (code_fact j (by omega)).2.1
        rw [cstep, if_pos e5]
        rfl
      rw [e6]
      exact crun_cong hf hn (by rw [e7]; exact g3)
    · subst g1
      cases st with
      | nil => exact absurd g2 (by simp)
      | cons x r =>
        have e6 : ∀ f : Nat → Int32, cstep f (-147) (x :: r) = (if x = 0 then 1 else 0) :: r := fun f => by rw [cstep, if_neg (by decide), if_pos rfl]; rfl
        rw [e6, e6]
        exact crun_cong hf hn g3
    · obtain ⟨-, g5, g6⟩ := code_join g1
      match st, g2, g3 with
      | [], g2, _ => exact absurd g2 (by simp)
      | [x], g2, _ => exact absurd g2 (by simp)
      | y :: x :: r, _, g3 =>
        have e6 : ∀ f : Nat → Int32, cstep f c (y :: x :: r) = joinS (-c) x y :: r := fun f => by rw [cstep, if_neg g5, if_neg g6]; rfl
        rw [e6, e6]
        exact crun_cong hf hn g3
theorem val_loop (N : Nat) {v : VLaws} {k t nf : Nat} (hk : k < 4) (ht : t ≤ 1000) (hto : Laws_to v k = nI t) (hn : nf ≤ 5) : ∀ (n i fuel e : Nat) (st : List Int32) (sk : Nat → Int32), i + n = t → n < fuel → st.length ≤ 64 → stk sk st → wfC nf (seg (Laws_codes v) i n) st.length e → ∃ sk', f_Laws_valueOf_L23 N fuel v (nI k) (nI st.length) (nI i) sk = some (nI (crun (Laws_facts v) (seg (Laws_codes v) i n) st).length, sk') ∧ stk sk' (crun (Laws_facts v) (seg (Laws_codes v) i n) st)
  | 0, i, 0, e, st, sk, h1, h2, hs, h3, h4 => absurd h2 (by omega)
  | 0, i, fuel + 1, e, st, sk, h1, h2, hs, h3, h4 => by
    refine ⟨sk, ?_, h3⟩
    rw [f_Laws_valueOf_L23]
    simp (disch := omega) only [zlet, Option.bind_some, zlit, nI_add, pk_mul, pk_sub, zsubm, nI_clamp, nI_leI, nI_ltI, nI_eq, zeqF, Nat.reduceEqDiff, zleF, zleT, zltF, zltT, zneg1, zneg1L, zneg2, zneg0, eq_self, or_self, false_or, or_false, ↓reduceIte, Nat.not_lt_zero, not_false_eq_true, not_true_eq_false, Nat.add_sub_cancel, List.length_cons, List.length_nil, hto]
    rfl
  | n + 1, i, 0, e, st, sk, h1, h2, hs, h3, h4 => absurd h2 (by omega)
  | n + 1, i, fuel + 1, e, st, sk, h1, h2, hs, h3, h4 => by
    rw [f_Laws_valueOf_L23]
    show ∃ sk', _ = some (nI (crun (Laws_facts v) (seg (Laws_codes v) (i + 1) n) (cstep (Laws_facts v) (Laws_codes v i) st)).length, sk') ∧ stk sk' (crun (Laws_facts v) (seg (Laws_codes v) (i + 1) n) (cstep (Laws_facts v) (Laws_codes v i) st))
    have hl := crun_len (fx := Laws_facts v) h4 hn
    rcases h4 with ⟨g1, g2, g3⟩ | ⟨g1, g2, g3⟩ | ⟨g1, g2, g3⟩
    · rcases g1 with g | ⟨j, hj, g⟩
      · obtain ⟨c1, c2, c3, c4⟩ := code_num g
        rw [cstep, if_pos c2, if_pos g]
        have := val_loop N hk ht hto hn n (i + 1) fuel e (Laws_codes v i :: st) (upd sk st.length (Laws_codes v i)) (by omega) (by omega) g2 (stk_push h3 rfl) g3
        obtain ⟨sk', q1, q2⟩ := this
        refine ⟨sk', ?_, q2⟩
        rw [← q1]
        have d1 : ¬ Laws_codes v i < -nI 5 := c1
        have d3 : ¬ Laws_codes v i < nI 0 := c3
        simp (disch := omega) only [zlet, Option.bind_some, zlit, nI_add, pk_mul, pk_sub, zsubm, nI_clamp, nI_leI, nI_ltI, nI_eq, zeqF, Nat.reduceEqDiff, zleF, zleT, zltF, zltT, zneg1, zneg1L, zneg2, zneg0, eq_self, or_self, false_or, or_false, ↓reduceIte, Nat.not_lt_zero, not_false_eq_true, not_true_eq_false, Nat.add_sub_cancel, List.length_cons, List.length_nil, hto, d1, d3]
      · obtain ⟨c1, c2, c3, c4, c5, c6⟩ := code_fact j (by omega)
        rw [← g] at c1 c2 c3 c4 c5 c6
        rw [cstep, if_pos c2, if_neg c4, c6, nI_clamp (n := j) (by omega)]
        have := val_loop N hk ht hto hn n (i + 1) fuel e (Laws_facts v j :: st) (upd sk st.length (Laws_facts v j)) (by omega) (by omega) g2 (stk_push h3 rfl) g3
        obtain ⟨sk', q1, q2⟩ := this
        refine ⟨sk', ?_, q2⟩
        rw [← q1]
        have d1 : ¬ Laws_codes v i < -nI 5 := c1
        have d3 : Laws_codes v i < nI 0 := c3
        have c7 : -nI 1 - Laws_codes v i = nI j := c6
        simp (disch := omega) only [zlet, Option.bind_some, zlit, nI_add, pk_mul, pk_sub, zsubm, nI_clamp, nI_leI, nI_ltI, nI_eq, zeqF, Nat.reduceEqDiff, zleF, zleT, zltF, zltT, zneg1, zneg1L, zneg2, zneg0, eq_self, or_self, false_or, or_false, ↓reduceIte, Nat.not_lt_zero, not_false_eq_true, not_true_eq_false, Nat.add_sub_cancel, List.length_cons, List.length_nil, hto, d1, d3, c7]
    · cases st with
      | nil => exact absurd g2 (by simp)
      | cons x r =>
        have e6 : cstep (Laws_facts v) (Laws_codes v i) (x :: r) = (if x = 0 then 1 else 0) :: r := by rw [cstep, if_neg (by rw [g1]; decide), if_pos g1]; rfl
        rw [e6]
        have := val_loop N hk ht hto hn n (i + 1) fuel e ((if x = 0 then 1 else 0) :: r) (upd sk r.length (if x = 0 then 1 else 0)) (by omega) (by omega) hs ⟨pk_us, stk_upd h3.2 (Nat.le_refl _)⟩ g3
        obtain ⟨sk', q1, q2⟩ := this
        refine ⟨sk', ?_, q2⟩
        rw [← q1]
        have h6 : r.length + 1 ≤ 64 := hs
        have d1 : Laws_codes v i < -nI 5 := by rw [g1]; decide
        have d2 : Laws_codes v i = -nI 147 := g1
        have d4 : (-nI 147 < -nI 5) = True := by decide
        simp (disch := omega) only [zlet, Option.bind_some, zlit, nI_add, pk_mul, pk_sub, zsubm, nI_clamp, nI_leI, nI_ltI, nI_eq, zeqF, Nat.reduceEqDiff, zleF, zleT, zltF, zltT, zneg1, zneg1L, zneg2, zneg0, eq_self, or_self, false_or, or_false, ↓reduceIte, Nat.not_lt_zero, not_false_eq_true, not_true_eq_false, Nat.add_sub_cancel, List.length_cons, List.length_nil, hto, d2, d4, h3.1]
        rfl
    · obtain ⟨c1, g5, g6⟩ := code_join g1
      match st, g2, g3, h3, hl, hs with
      | [], g2, _, _, _, _ => exact absurd g2 (by simp)
      | [x], g2, _, _, _, _ => exact absurd g2 (by simp)
      | y :: x :: r, _, g3, h3, hl, hs =>
        have h6 : r.length + 1 + 1 ≤ 64 := hs
        have e6 : cstep (Laws_facts v) (Laws_codes v i) (y :: x :: r) = joinS (-(Laws_codes v i)) x y :: r := by rw [cstep, if_neg g5, if_neg g6]; rfl
        rw [e6]
        have := val_loop N hk ht hto hn n (i + 1) fuel e (joinS (-(Laws_codes v i)) x y :: r) (upd sk r.length (joinS (-(Laws_codes v i)) x y)) (by omega) (by omega) (by show r.length + 1 ≤ 64; omega) ⟨pk_us, stk_upd h3.2.2 (Nat.le_refl _)⟩ g3
        obtain ⟨sk', q1, q2⟩ := this
        refine ⟨sk', ?_, q2⟩
        rw [← q1]
        have d1 : Laws_codes v i < -nI 5 := c1
        have d2 : ¬ Laws_codes v i = -nI 147 := g6
        have d3 : ¬ -nI 5 ≤ Laws_codes v i := g5
        have h5 : sk (r.length + 1) = y := h3.1
        simp (disch := omega) only [zlet, Option.bind_some, zlit, nI_add, pk_mul, pk_sub, zsubm, nI_clamp, nI_leI, nI_ltI, nI_eq, zeqF, Nat.reduceEqDiff, zleF, zleT, zltF, zltT, zneg1, zneg1L, zneg2, zneg0, eq_self, or_self, false_or, or_false, ↓reduceIte, Nat.not_lt_zero, not_false_eq_true, not_true_eq_false, Nat.add_sub_cancel, List.length_cons, List.length_nil, hto, d1, d2, d3, h5, h3.2.1, join_ok]
def untS (k : Nat) (fx : Nat → Int32) : Int32 := if k = 0 then fx 3 * 2 else if k = 1 then (if fx 3 ≤ 4 then (if 3 ≤ fx 3 then 0 else (-1)) else 1) else if k = 2 then (fx 0 - fx 1 * 2) + fx 2 * 10 else (fx 0 - fx 1) + fx 2 * 5
def lawCs (v : VLaws) (k : Nat) : List Int32 := seg (Laws_codes v) (Laws_from v k).toNatClampNeg ((Laws_to v k).toNatClampNeg - (Laws_from v k).toNatClampNeg)
def lawS (v : VLaws) (k : Nat) (fx : Nat → Int32) : Int32 := if Laws_to v k ≤ Laws_from v k then untS k fx else (crun fx (lawCs v k) []).headD 0
def nfOf (k : Nat) : Nat := if k = 2 then 3 else 5
def lawOk (v : VLaws) (k : Nat) : Prop := ∃ f t : Nat, Laws_from v k = nI f ∧ Laws_to v k = nI t ∧ f ≤ t ∧ t ≤ 1000 ∧ (f < t → wfC (nfOf k) (seg (Laws_codes v) f (t - f)) 0 1)
theorem nfOf_le (k : Nat) : nfOf k ≤ 5 := by
  unfold nfOf
  split <;> decide
theorem lawS_cong {v : VLaws} {k : Nat} (h : lawOk v k) {fx fy : Nat → Int32} (hf : ∀ j, j < nfOf k → fx j = fy j) (hk : k < 4) : lawS v k fx = lawS v k fy := by
  obtain ⟨f, t, h1, h2, h3, h4, h5⟩ := h
  unfold lawS
  by_cases hc : Laws_to v k ≤ Laws_from v k
  · rw [if_pos hc, if_pos hc]
    unfold untS
    have g0 := hf 0 (by unfold nfOf; split <;> decide)
    have g1 := hf 1 (by unfold nfOf; split <;> decide)
    have g2 := hf 2 (by unfold nfOf; split <;> decide)
    by_cases k2 : k = 2
    · subst k2
      rw [if_neg (by decide), if_neg (by decide), if_pos rfl, if_neg (by decide), if_neg (by decide), if_pos rfl, g0, g1, g2]
    · have g3 := hf 3 (by unfold nfOf; rw [if_neg k2]; decide)
      simp only [g0, g1, g2, g3]
  · rw [if_neg hc, if_neg hc, lawCs]
    rw [h1, h2] at hc ⊢
    rw [nI_clamp (by omega), nI_clamp (by omega)]
    rw [nI_leI (by omega) (by omega)] at hc
    rw [crun_cong hf (nfOf_le k) (st := []) (h5 (by omega))]
theorem value_ok {N : Nat} (hN : 10000 ≤ N) {v : VLaws} {k : Nat} (hk : k < 4) (h : lawOk v k) : ∃ sk, f_Laws_valueOf N v (nI k) = some (lawS v k (Laws_facts v), sk) := by
  obtain ⟨f, t, h1, h2, h3, h4, h5⟩ := h
  unfold f_Laws_valueOf f_Laws_isTold
  by_cases hc : t ≤ f
  · refine ⟨Laws_stack v, ?_⟩
    have e1 : lawS v k (Laws_facts v) = untS k (Laws_facts v) := by
      unfold lawS
      rw [h1, h2, if_pos (nI_le hc (by omega))]
    rw [e1]
    simp (disch := omega) only [zlet, Option.bind_some, zlit, nI_add, pk_mul, pk_sub, zsubm, nI_clamp, nI_leI, nI_ltI, nI_eq, zeqF, Nat.reduceEqDiff, zleF, zleT, zltF, zltT, zneg1, zneg1L, zneg2, zneg0, eq_self, or_self, false_or, or_false, ↓reduceIte, Nat.not_lt_zero, not_false_eq_true, not_true_eq_false, Nat.add_sub_cancel, List.length_cons, List.length_nil, h1, h2]
    unfold f_Laws_untold untS
    have hk4 : k = 0 ∨ k = 1 ∨ k = 2 ∨ k = 3 := by omega
    rcases hk4 with rfl | rfl | rfl | rfl <;> simp <;> (repeat' split) <;> first | rfl | contradiction
  · have hw := h5 (by omega)
    obtain ⟨sk', q1, q2⟩ := val_loop N hk h4 h2 (nfOf_le k) (t - f) f N 1 [] (Laws_stack v) (by omega) (by omega) (Nat.zero_le _) trivial hw
    have hl := crun_len (fx := Laws_facts v) (st := []) hw (nfOf_le k)
    have e1 : lawS v k (Laws_facts v) = (crun (Laws_facts v) (seg (Laws_codes v) f (t - f)) []).headD 0 := by
      unfold lawS lawCs
      rw [h1, h2, if_neg (fun q => absurd ((nI_leI (by omega) (by omega)).mp q) hc), nI_clamp (by omega), nI_clamp (by omega)]
    rw [e1]
    refine ⟨sk', ?_⟩
    match hm : crun (Laws_facts v) (seg (Laws_codes v) f (t - f)) [], hl, q2 with
    | [], hl, _ => exact absurd hl (by simp)
    | x :: y :: r, hl, _ => exact absurd hl (by simp)
    | [x], _, q2 =>
      rw [hm] at q1
      have q3 : f_Laws_valueOf_L23 N N v (nI k) (nI 0) (nI f) (Laws_stack v) = some (nI 1, sk') := q1
      have q4 : sk' 0 = x := q2.1
      simp (disch := omega) only [zlet, Option.bind_some, zlit, nI_add, pk_mul, pk_sub, zsubm, nI_clamp, nI_leI, nI_ltI, nI_eq, zeqF, Nat.reduceEqDiff, zleF, zleT, zltF, zltT, zneg1, zneg1L, zneg2, zneg0, eq_self, or_self, false_or, or_false, ↓reduceIte, Nat.not_lt_zero, not_false_eq_true, not_true_eq_false, Nat.add_sub_cancel, List.length_cons, List.length_nil, h1, h2, q3]
      simp [q4]
