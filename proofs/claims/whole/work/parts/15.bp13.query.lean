/-! ===== what is asked and changes nothing ===== -/
theorem pigeon : ∀ (n : Nat) (f : Nat → Nat), (∀ i, i < n → f i < n) → (∀ i j, i < n → j < n → f i = f j → i = j) → ∀ p, p < n → ∃ i, i < n ∧ f i = p
  | 0, _, _, _, p, hp => absurd hp (Nat.not_lt_zero _)
  | n + 1, f, hf, hi, p, hp => by
    have hm := hf n (by omega)
    have ih := pigeon n (fun i => if f i = n then f n else f i) (fun i hin => by
      show (if f i = n then f n else f i) < n
      have h1 := hf i (by omega)
      have h2 : ¬ f n = f i := fun e => by have := hi n i (by omega) (by omega) e; omega
      split
      · omega
      · omega) (fun i j hin hjn e => by
      have h1 : ¬ f n = f i := fun e => by have := hi n i (by omega) (by omega) e; omega
      have h2 : ¬ f n = f j := fun e => by have := hi n j (by omega) (by omega) e; omega
      have e2 : (if f i = n then f n else f i) = (if f j = n then f n else f j) := e
      by_cases a : f i = n
      · by_cases b : f j = n
        · exact hi i j (by omega) (by omega) (a.trans b.symm)
        · rw [if_pos a, if_neg b] at e2; exact absurd e2 h2
      · by_cases b : f j = n
        · rw [if_neg a, if_pos b] at e2; exact absurd e2.symm h1
        · rw [if_neg a, if_neg b] at e2; exact hi i j (by omega) (by omega) e2)
    by_cases hpn : f n = p
    · exact ⟨n, by omega, hpn⟩
    · by_cases hp2 : p = n
      · subst hp2
        obtain ⟨i, h1, h2⟩ := ih (f p) (by omega)
        have h2 : (if f i = p then f p else f i) = f p := h2
        by_cases a : f i = p
        · exact ⟨i, by omega, a⟩
        · rw [if_neg a] at h2
          have := hi i p (by omega) (by omega) h2
          omega
      · obtain ⟨i, h1, h2⟩ := ih p (by omega)
        have h2 : (if f i = n then f n else f i) = p := h2
        by_cases a : f i = n
        · rw [if_pos a] at h2; exact ⟨n, by omega, h2⟩
        · rw [if_neg a] at h2; exact ⟨i, by omega, h2⟩
theorem led_ex {P : Nat} {v : VLives} (hP : P ≤ 6) (h : LI P v) {p : Nat} (hp : p < P) : ∃ l, l < P ∧ Lives_self v l = nI p := by
  obtain ⟨i, h1, h2⟩ := pigeon P (fun l => (Lives_self v l).toNatClampNeg) (fun i hi => by
    obtain ⟨j, hj, e⟩ := h.2.2.1 i hi
    show (Lives_self v i).toNatClampNeg < P
    rw [e, nI_clamp (by omega)]
    exact hj) (fun i j hi hj e => by
    obtain ⟨a, ha, e1⟩ := h.2.2.1 i hi
    obtain ⟨b, hb, e2⟩ := h.2.2.1 j hj
    have e3 : (Lives_self v i).toNatClampNeg = (Lives_self v j).toNatClampNeg := e
    rw [e1, e2, nI_clamp (by omega), nI_clamp (by omega)] at e3
    exact h.2.2.2.1 i j hi hj (by rw [e1, e2, e3])) p hp
  obtain ⟨j, hj, e⟩ := h.2.2.1 i h1
  have h2 : (Lives_self v i).toNatClampNeg = p := h2
  rw [e, nI_clamp (by omega)] at h2
  exact ⟨i, h1, by rw [e, h2]⟩
theorem ledBy_loop (N : Nat) {v : VLives} {v1 : VTown} {v2 : VLaws} {P : Nat} {x : Int32} (hP : tpl v1 P) : ∀ (r k fuel : Nat), k + r = P → r < fuel → Ev (f_Lives_ledBy_L2 N fuel v v1 v2 x (nI k)) (fun q => (q = Sum.inr () ∧ ∀ l, k ≤ l → l < P → ¬ Lives_self v l = x) ∨ ∃ l, k ≤ l ∧ l < P ∧ q = Sum.inl (nI l) ∧ Lives_self v l = x)
  | _, _, 0, _, h => absurd h (Nat.not_lt_zero _)
  | 0, k, fuel + 1, h1, h2 => by
    have h6 := hP.2
    rw [f_Lives_ledBy_L2, hP.1]
    repeat (first | (with_reducible refine Ev.letE ?_) | (with_reducible refine Ev.ifn ?_ ?_; · (first | with_reducible assumption | decide | (simp (disch := omega) only [zlit, nI_add, pk_mul, pk_sub, zsubm, nI_clamp, nI_leI, nI_ltI, nI_eq, zeqF, Nat.reduceEqDiff, zleF, zleT, zltF, zltT, zneg1, zneg1L, zneg2, zneg0, eq_self, or_self, false_or, or_false, Nat.not_lt_zero, not_false_eq_true, not_true_eq_false]; done))) | (with_reducible refine Ev.ifp ?_ ?_; · (first | with_reducible assumption | decide | (simp (disch := omega) only [zlit, nI_add, pk_mul, pk_sub, zsubm, nI_clamp, nI_leI, nI_ltI, nI_eq, zeqF, Nat.reduceEqDiff, zleF, zleT, zltF, zltT, zneg1, zneg1L, zneg2, zneg0, eq_self, or_self, false_or, or_false, Nat.not_lt_zero, not_false_eq_true, not_true_eq_false]; done))) | (with_reducible refine Ev.bnd (x := some _) rfl ?_))
    exact Ev.ret (Or.inl ⟨rfl, fun l h3 h4 => absurd h4 (by omega)⟩)
  | r + 1, k, fuel + 1, h1, h2 => by
    have h6 := hP.2
    rw [f_Lives_ledBy_L2, hP.1, nI_clamp (n := k) (by omega), show nI k + 1 = nI (k + 1) from nI_1 k]
    by_cases hs : Lives_self v k = x
    · repeat (first | (with_reducible refine Ev.letE ?_) | (with_reducible refine Ev.ifn ?_ ?_; · (first | with_reducible assumption | decide | (simp (disch := omega) only [zlit, nI_add, pk_mul, pk_sub, zsubm, nI_clamp, nI_leI, nI_ltI, nI_eq, zeqF, Nat.reduceEqDiff, zleF, zleT, zltF, zltT, zneg1, zneg1L, zneg2, zneg0, eq_self, or_self, false_or, or_false, Nat.not_lt_zero, not_false_eq_true, not_true_eq_false]; done))) | (with_reducible refine Ev.ifp ?_ ?_; · (first | with_reducible assumption | decide | (simp (disch := omega) only [zlit, nI_add, pk_mul, pk_sub, zsubm, nI_clamp, nI_leI, nI_ltI, nI_eq, zeqF, Nat.reduceEqDiff, zleF, zleT, zltF, zltT, zneg1, zneg1L, zneg2, zneg0, eq_self, or_self, false_or, or_false, Nat.not_lt_zero, not_false_eq_true, not_true_eq_false]; done))) | (with_reducible refine Ev.bnd (x := some _) rfl ?_))
      exact Ev.ret (Or.inr ⟨k, by omega, by omega, rfl, hs⟩)
    · repeat (first | (with_reducible refine Ev.letE ?_) | (with_reducible refine Ev.ifn ?_ ?_; · (first | with_reducible assumption | decide | (simp (disch := omega) only [zlit, nI_add, pk_mul, pk_sub, zsubm, nI_clamp, nI_leI, nI_ltI, nI_eq, zeqF, Nat.reduceEqDiff, zleF, zleT, zltF, zltT, zneg1, zneg1L, zneg2, zneg0, eq_self, or_self, false_or, or_false, Nat.not_lt_zero, not_false_eq_true, not_true_eq_false]; done))) | (with_reducible refine Ev.ifp ?_ ?_; · (first | with_reducible assumption | decide | (simp (disch := omega) only [zlit, nI_add, pk_mul, pk_sub, zsubm, nI_clamp, nI_leI, nI_ltI, nI_eq, zeqF, Nat.reduceEqDiff, zleF, zleT, zltF, zltT, zneg1, zneg1L, zneg2, zneg0, eq_self, or_self, false_or, or_false, Nat.not_lt_zero, not_false_eq_true, not_true_eq_false]; done))) | (with_reducible refine Ev.bnd (x := some _) rfl ?_))
      refine (ledBy_loop N hP r (k + 1) fuel (by omega) (by omega)).mono ?_
      rintro q (⟨q1, q2⟩ | ⟨l, q1, q2, q3, q4⟩)
      · refine Or.inl ⟨q1, fun l h3 h4 => ?_⟩
        by_cases e : l = k
        · subst e; exact hs
        · exact q2 l (by omega) h4
      · exact Or.inr ⟨l, by omega, q2, q3, q4⟩
theorem ledBy_ev {N : Nat} (hN : 10000 ≤ N) {v : VLives} {v1 : VTown} {v2 : VLaws} {P : Nat} (hP : tpl v1 P) (x : Int32) : Ev (f_Lives_ledBy N v v1 v2 x) (fun q => (q = (-1) ∧ ∀ l, l < P → ¬ Lives_self v l = x) ∨ ∃ l, l < P ∧ q = nI l ∧ Lives_self v l = x) := by
  have h6 := hP.2
  unfold f_Lives_ledBy
  refine Ev.bnx (ledBy_loop N hP P 0 N (by omega) (by omega)) ?_
  rintro q (⟨rfl, q2⟩ | ⟨l, q1, q2, rfl, q4⟩)
  · exact Ev.ret (Or.inl ⟨rfl, fun l hl => q2 l (by omega) hl⟩)
  · exact Ev.ret (Or.inr ⟨l, q2, rfl, q4⟩)
theorem ledBy_ok {N : Nat} (hN : 10000 ≤ N) {v : VLives} {v1 : VTown} {v2 : VLaws} {P p l : Nat} (hP : tpl v1 P) (hi : LI P v) (hl : l < P) (h : Lives_self v l = nI p) : f_Lives_ledBy N v v1 v2 (nI p) = some (nI l) := by
  obtain ⟨q, e, (⟨-, q2⟩ | ⟨k, q1, q2, q3⟩)⟩ := ledBy_ev hN (v := v) (v2 := v2) hP (nI p)
  · exact absurd h (q2 l hl)
  · have := hi.2.2.2.1 k l q1 hl (q3.trans h.symm)
    subst this
    rw [e, q2]
theorem rledBy_loop (N : Nat) {w : VR} {v : VLives} {P b p l : Nat} (hb : b ≤ 1584) (hP : P ≤ 6) (h : LR P b (R_state w) v) (hi : LI P v) (hl : l < P) (hs : Lives_self v l = nI p) : ∀ (r k fuel : Nat), k + r = l → r < fuel → f_R_ledBy_L2 N fuel w (nI b) (nI p) (nI k) = some (nI l)
  | _, _, 0, _, h => absurd h (Nat.not_lt_zero _)
  | 0, k, fuel + 1, h1, h2 => by
    have h1 : k = l := h1
    subst h1
    rw [f_R_ledBy_L2, show Int32.toNatClampNeg ((nI b + 28) + nI k) = b + 28 + k from ix (c := 28) (by omega), (h.1 k hl).2.2.2.2, hs]
    repeat (first | (with_reducible refine zletE ?_) | (with_reducible refine zifn ?_ ?_; · (first | with_reducible assumption | decide | (simp (disch := omega) only [zlit, nI_add, pk_mul, pk_sub, zsubm, nI_clamp, nI_leI, nI_ltI, nI_eq, zeqF, Nat.reduceEqDiff, zleF, zleT, zltF, zltT, zneg1, zneg1L, zneg2, zneg0, eq_self, or_self, false_or, or_false, Nat.not_lt_zero, not_false_eq_true, not_true_eq_false]; done))) | (with_reducible refine zifp ?_ ?_; · (first | with_reducible assumption | decide | (simp (disch := omega) only [zlit, nI_add, pk_mul, pk_sub, zsubm, nI_clamp, nI_leI, nI_ltI, nI_eq, zeqF, Nat.reduceEqDiff, zleF, zleT, zltF, zltT, zneg1, zneg1L, zneg2, zneg0, eq_self, or_self, false_or, or_false, Nat.not_lt_zero, not_false_eq_true, not_true_eq_false]; done))) | (with_reducible refine bnd (x := some _) rfl ?_))
    rfl
  | r + 1, k, fuel + 1, h1, h2 => by
    rw [f_R_ledBy_L2, show Int32.toNatClampNeg ((nI b + 28) + nI k) = b + 28 + k from ix (c := 28) (by omega), (h.1 k (by omega)).2.2.2.2, show nI k + 1 = nI (k + 1) from nI_1 k]
    have hk : ¬ Lives_self v k = nI p := fun e => by
      have := hi.2.2.2.1 k l (by omega) hl (e.trans hs.symm)
      omega
    repeat (first | (with_reducible refine zletE ?_) | (with_reducible refine zifn ?_ ?_; · (first | with_reducible assumption | decide | (simp (disch := omega) only [zlit, nI_add, pk_mul, pk_sub, zsubm, nI_clamp, nI_leI, nI_ltI, nI_eq, zeqF, Nat.reduceEqDiff, zleF, zleT, zltF, zltT, zneg1, zneg1L, zneg2, zneg0, eq_self, or_self, false_or, or_false, Nat.not_lt_zero, not_false_eq_true, not_true_eq_false]; done))) | (with_reducible refine zifp ?_ ?_; · (first | with_reducible assumption | decide | (simp (disch := omega) only [zlit, nI_add, pk_mul, pk_sub, zsubm, nI_clamp, nI_leI, nI_ltI, nI_eq, zeqF, Nat.reduceEqDiff, zleF, zleT, zltF, zltT, zneg1, zneg1L, zneg2, zneg0, eq_self, or_self, false_or, or_false, Nat.not_lt_zero, not_false_eq_true, not_true_eq_false]; done))) | (with_reducible refine bnd (x := some _) rfl ?_))
    exact rledBy_loop N hb hP h hi hl hs r (k + 1) fuel (by omega) (by omega)
theorem rledBy_ok {N : Nat} (hN : 10000 ≤ N) {w : VR} {v : VLives} {P b p l : Nat} (hb : b ≤ 1584) (hP : P ≤ 6) (h : LR P b (R_state w) v) (hi : LI P v) (hl : l < P) (hs : Lives_self v l = nI p) : f_R_ledBy N w (nI b) (nI p) = some (nI l) := by
  unfold f_R_ledBy
  rw [show f_R_ledBy_L2 N N w (nI b) (nI p) 0 = _ from rledBy_loop N hb hP h hi hl hs l 0 N (by omega) (by omega)]
  rfl
theorem rperson_loop (N : Nat) {w : VR} {v1 : VTown} {v2 : VLaws} {v : VLives} {P p l : Nat} {y2 : Int32} (hT : townR w v1 v2 P) (h : LR P 0 (R_state w) v) (hi : LI P v) (hl : l < P) (hs : Lives_self v l = nI p) : ∀ (r k fuel : Nat) (x : Int32), k + r = P → r < fuel → f_R_person_L29 N fuel w (nI p) y2 x (nI k) = some (if k ≤ l then nI l else x)
  | _, _, 0, _, _, h => absurd h (Nat.not_lt_zero _)
  | 0, k, fuel + 1, x, h1, h2 => by
    have h6 := hT.1.2
    have hpe := people_ok (N := N) hT
    rw [f_R_person_L29, if_neg (show ¬ k ≤ l by omega)]
    repeat (first | (with_reducible refine zletE ?_) | (with_reducible refine zifn ?_ ?_; · (first | with_reducible assumption | decide | (simp (disch := omega) only [zlit, nI_add, pk_mul, pk_sub, zsubm, nI_clamp, nI_leI, nI_ltI, nI_eq, zeqF, Nat.reduceEqDiff, zleF, zleT, zltF, zltT, zneg1, zneg1L, zneg2, zneg0, eq_self, or_self, false_or, or_false, Nat.not_lt_zero, not_false_eq_true, not_true_eq_false]; done))) | (with_reducible refine zifp ?_ ?_; · (first | with_reducible assumption | decide | (simp (disch := omega) only [zlit, nI_add, pk_mul, pk_sub, zsubm, nI_clamp, nI_leI, nI_ltI, nI_eq, zeqF, Nat.reduceEqDiff, zleF, zleT, zltF, zltT, zneg1, zneg1L, zneg2, zneg0, eq_self, or_self, false_or, or_false, Nat.not_lt_zero, not_false_eq_true, not_true_eq_false]; done))) | (with_reducible refine bnd (hpe) ?_) | (with_reducible refine bnd (x := some _) rfl ?_))
    rfl
  | r + 1, k, fuel + 1, x, h1, h2 => by
    have h6 := hT.1.2
    have hpe := people_ok (N := N) hT
    have e1 : R_state w (28 + k) = Lives_self v k := by
      have := (h.1 k (by omega)).2.2.2.2
      rw [show 0 + 28 + k = 28 + k by omega] at this
      exact this
    rw [f_R_person_L29, show (28 : Int32) + nI k = nI (28 + k) from nI_add 28 k, nI_clamp (n := 28 + k) (by omega), e1, show nI k + 1 = nI (k + 1) from nI_1 k]
    have e2 : (if Lives_self v k = nI p then nI k else x) = (if k = l then nI l else x) := by
      by_cases e : k = l
      · subst e; rw [if_pos hs, if_pos rfl]
      · rw [if_neg e, if_neg (fun q => e (hi.2.2.2.1 k l (by omega) hl (q.trans hs.symm)))]
    repeat (first | (with_reducible refine zletG (e2) ?_) | (with_reducible refine zletE ?_) | (with_reducible refine zifn ?_ ?_; · (first | with_reducible assumption | decide | (simp (disch := omega) only [zlit, nI_add, pk_mul, pk_sub, zsubm, nI_clamp, nI_leI, nI_ltI, nI_eq, zeqF, Nat.reduceEqDiff, zleF, zleT, zltF, zltT, zneg1, zneg1L, zneg2, zneg0, eq_self, or_self, false_or, or_false, Nat.not_lt_zero, not_false_eq_true, not_true_eq_false]; done))) | (with_reducible refine zifp ?_ ?_; · (first | with_reducible assumption | decide | (simp (disch := omega) only [zlit, nI_add, pk_mul, pk_sub, zsubm, nI_clamp, nI_leI, nI_ltI, nI_eq, zeqF, Nat.reduceEqDiff, zleF, zleT, zltF, zltT, zneg1, zneg1L, zneg2, zneg0, eq_self, or_self, false_or, or_false, Nat.not_lt_zero, not_false_eq_true, not_true_eq_false]; done))) | (with_reducible refine bnd (hpe) ?_) | (with_reducible refine bnd (x := some _) rfl ?_))
    rw [rperson_loop N hT h hi hl hs r (k + 1) fuel _ (by omega) (by omega)]
    by_cases e : k = l
    · rw [if_pos e, if_neg (by omega), if_pos (by omega)]
    · rw [if_neg e]
      by_cases e2 : k ≤ l
      · rw [if_pos e2, if_pos (by omega)]
      · rw [if_neg e2, if_neg (by omega)]
theorem q_person {N : Nat} (hN : 10000 ≤ N) {v0 : VBl} {v1 : VTape} {v2 : VTown} {v3 : VLaws} {v4 : VReader} {v5 : VTown} {v6 : VLaws} {v7 : VYear} {v8 : VYear} {v9 : VLots} {v10 : VLives} {v11 : VLives} {v13 : VTales} {v17 : VForecast} {v18 : VLives} {v19 : VDeeds} {v20 : VPairs} {und mls : Nat → VLives} {mts : Nat → VTales} {w : VR} {P L g : Nat} (h : RELx P L g v0 v1 v2 v3 v7 v9 v10 v13 v17 und mls mts w) (a1 a2 : Int32) : ∃ a, f_Bl_person N v0 v1 v2 v3 v4 v5 v6 v7 v8 v9 v10 v11 v13 v17 v18 v19 v20 und mls mts a1 a2 = some a ∧ f_R_person N w a1 a2 = some (a, 0) := by
  obtain ⟨⟨hT, hB, hG, -⟩, -, ⟨hR, hI⟩, -⟩ := h
  have hP := hT.1
  have h6 := hT.1.2
  have hT' : townR (R_thrown_s w 0) v2 v3 P := hT
  have hR' : LR P 0 (R_state (R_thrown_s w 0)) v10 := hR
  unfold f_Bl_person f_R_person
  rcases isPerson_both (N := N) hT' a1 with ⟨e1, e2⟩ | ⟨p, hp, rfl, e1, e2⟩
  · refine ⟨-1, ?_, ?_⟩
    · repeat (first | (with_reducible refine zletE ?_) | (with_reducible refine zifn ?_ ?_; · (first | with_reducible assumption | decide | (simp (disch := omega) only [zlit, nI_add, pk_mul, pk_sub, zsubm, nI_clamp, nI_leI, nI_ltI, nI_eq, zeqF, Nat.reduceEqDiff, zleF, zleT, zltF, zltT, zneg1, zneg1L, zneg2, zneg0, eq_self, or_self, false_or, or_false, Nat.not_lt_zero, not_false_eq_true, not_true_eq_false]; done))) | (with_reducible refine zifp ?_ ?_; · (first | with_reducible assumption | decide | (simp (disch := omega) only [zlit, nI_add, pk_mul, pk_sub, zsubm, nI_clamp, nI_leI, nI_ltI, nI_eq, zeqF, Nat.reduceEqDiff, zleF, zleT, zltF, zltT, zneg1, zneg1L, zneg2, zneg0, eq_self, or_self, false_or, or_false, Nat.not_lt_zero, not_false_eq_true, not_true_eq_false]; done))) | (with_reducible refine bnd (e1) ?_) | (with_reducible refine bnd (x := some _) rfl ?_))
      rfl
    · repeat (first | (with_reducible refine zletE ?_) | (with_reducible refine zifn ?_ ?_; · (first | with_reducible assumption | decide | (simp (disch := omega) only [zlit, nI_add, pk_mul, pk_sub, zsubm, nI_clamp, nI_leI, nI_ltI, nI_eq, zeqF, Nat.reduceEqDiff, zleF, zleT, zltF, zltT, zneg1, zneg1L, zneg2, zneg0, eq_self, or_self, false_or, or_false, Nat.not_lt_zero, not_false_eq_true, not_true_eq_false]; done))) | (with_reducible refine zifp ?_ ?_; · (first | with_reducible assumption | decide | (simp (disch := omega) only [zlit, nI_add, pk_mul, pk_sub, zsubm, nI_clamp, nI_leI, nI_ltI, nI_eq, zeqF, Nat.reduceEqDiff, zleF, zleT, zltF, zltT, zneg1, zneg1L, zneg2, zneg0, eq_self, or_self, false_or, or_false, Nat.not_lt_zero, not_false_eq_true, not_true_eq_false]; done))) | (with_reducible refine bnd (e2) ?_) | (with_reducible refine bnd (x := some _) rfl ?_))
      rfl
  · obtain ⟨l, hl, hs⟩ := led_ex h6 hI hp
    have hle := ledBy_ok hN (v2 := v3) hT.1 hI hl hs
    have hrl := rperson_loop N (y2 := a2) hT' hR' hI hl hs P 0 N (-1) (by omega) (by omega)
    rw [if_pos (Nat.zero_le _)] at hrl
    have hrl : f_R_person_L29 N N (R_thrown_s w 0) (nI p) a2 (-1) 0 = some (nI l) := hrl
    by_cases c0 : a2 = 0
    · subst c0
      refine ⟨Town_kinds v2 p, ?_, ?_⟩
      · repeat (first | (with_reducible refine zletE ?_) | (with_reducible refine zifn ?_ ?_; · (first | with_reducible assumption | decide | (simp (disch := omega) only [zlit, nI_add, pk_mul, pk_sub, zsubm, nI_clamp, nI_leI, nI_ltI, nI_eq, zeqF, Nat.reduceEqDiff, zleF, zleT, zltF, zltT, zneg1, zneg1L, zneg2, zneg0, eq_self, or_self, false_or, or_false, Nat.not_lt_zero, not_false_eq_true, not_true_eq_false]; done))) | (with_reducible refine zifp ?_ ?_; · (first | with_reducible assumption | decide | (simp (disch := omega) only [zlit, nI_add, pk_mul, pk_sub, zsubm, nI_clamp, nI_leI, nI_ltI, nI_eq, zeqF, Nat.reduceEqDiff, zleF, zleT, zltF, zltT, zneg1, zneg1L, zneg2, zneg0, eq_self, or_self, false_or, or_false, Nat.not_lt_zero, not_false_eq_true, not_true_eq_false]; done))) | (with_reducible refine bnd (e1) ?_) | (with_reducible refine bnd (kindOf_ok hP hp) ?_) | (with_reducible refine bnd (x := some _) rfl ?_))
        rfl
      · repeat (first | (with_reducible refine zletE ?_) | (with_reducible refine zifn ?_ ?_; · (first | with_reducible assumption | decide | (simp (disch := omega) only [zlit, nI_add, pk_mul, pk_sub, zsubm, nI_clamp, nI_leI, nI_ltI, nI_eq, zeqF, Nat.reduceEqDiff, zleF, zleT, zltF, zltT, zneg1, zneg1L, zneg2, zneg0, eq_self, or_self, false_or, or_false, Nat.not_lt_zero, not_false_eq_true, not_true_eq_false]; done))) | (with_reducible refine zifp ?_ ?_; · (first | with_reducible assumption | decide | (simp (disch := omega) only [zlit, nI_add, pk_mul, pk_sub, zsubm, nI_clamp, nI_leI, nI_ltI, nI_eq, zeqF, Nat.reduceEqDiff, zleF, zleT, zltF, zltT, zneg1, zneg1L, zneg2, zneg0, eq_self, or_self, false_or, or_false, Nat.not_lt_zero, not_false_eq_true, not_true_eq_false]; done))) | (with_reducible refine bnd (e2) ?_) | (with_reducible refine bnd (within_yes (by decide) (by decide)) ?_) | (with_reducible refine bnd (hrl) ?_) | (with_reducible refine bnd ((person_at hT' hp).1) ?_) | (with_reducible refine bnd (x := some _) rfl ?_))
        rfl
    · by_cases c1 : a2 = 1
      · subst c1
        refine ⟨Town_skills v2 p, ?_, ?_⟩
        · repeat (first | (with_reducible refine zletE ?_) | (with_reducible refine zifn ?_ ?_; · (first | with_reducible assumption | decide | (simp (disch := omega) only [zlit, nI_add, pk_mul, pk_sub, zsubm, nI_clamp, nI_leI, nI_ltI, nI_eq, zeqF, Nat.reduceEqDiff, zleF, zleT, zltF, zltT, zneg1, zneg1L, zneg2, zneg0, eq_self, or_self, false_or, or_false, Nat.not_lt_zero, not_false_eq_true, not_true_eq_false]; done))) | (with_reducible refine zifp ?_ ?_; · (first | with_reducible assumption | decide | (simp (disch := omega) only [zlit, nI_add, pk_mul, pk_sub, zsubm, nI_clamp, nI_leI, nI_ltI, nI_eq, zeqF, Nat.reduceEqDiff, zleF, zleT, zltF, zltT, zneg1, zneg1L, zneg2, zneg0, eq_self, or_self, false_or, or_false, Nat.not_lt_zero, not_false_eq_true, not_true_eq_false]; done))) | (with_reducible refine bnd (e1) ?_) | (with_reducible refine bnd (skillOf_ok hP hp) ?_) | (with_reducible refine bnd (x := some _) rfl ?_))
          rfl
        · repeat (first | (with_reducible refine zletE ?_) | (with_reducible refine zifn ?_ ?_; · (first | with_reducible assumption | decide | (simp (disch := omega) only [zlit, nI_add, pk_mul, pk_sub, zsubm, nI_clamp, nI_leI, nI_ltI, nI_eq, zeqF, Nat.reduceEqDiff, zleF, zleT, zltF, zltT, zneg1, zneg1L, zneg2, zneg0, eq_self, or_self, false_or, or_false, Nat.not_lt_zero, not_false_eq_true, not_true_eq_false]; done))) | (with_reducible refine zifp ?_ ?_; · (first | with_reducible assumption | decide | (simp (disch := omega) only [zlit, nI_add, pk_mul, pk_sub, zsubm, nI_clamp, nI_leI, nI_ltI, nI_eq, zeqF, Nat.reduceEqDiff, zleF, zleT, zltF, zltT, zneg1, zneg1L, zneg2, zneg0, eq_self, or_self, false_or, or_false, Nat.not_lt_zero, not_false_eq_true, not_true_eq_false]; done))) | (with_reducible refine bnd (e2) ?_) | (with_reducible refine bnd (within_yes (by decide) (by decide)) ?_) | (with_reducible refine bnd (hrl) ?_) | (with_reducible refine bnd ((person_at hT' hp).2.1) ?_) | (with_reducible refine bnd (x := some _) rfl ?_))
          rfl
      · by_cases c2 : a2 = 2
        · subst c2
          refine ⟨nI l, ?_, ?_⟩
          · repeat (first | (with_reducible refine zletE ?_) | (with_reducible refine zifn ?_ ?_; · (first | with_reducible assumption | decide | (simp (disch := omega) only [zlit, nI_add, pk_mul, pk_sub, zsubm, nI_clamp, nI_leI, nI_ltI, nI_eq, zeqF, Nat.reduceEqDiff, zleF, zleT, zltF, zltT, zneg1, zneg1L, zneg2, zneg0, eq_self, or_self, false_or, or_false, Nat.not_lt_zero, not_false_eq_true, not_true_eq_false]; done))) | (with_reducible refine zifp ?_ ?_; · (first | with_reducible assumption | decide | (simp (disch := omega) only [zlit, nI_add, pk_mul, pk_sub, zsubm, nI_clamp, nI_leI, nI_ltI, nI_eq, zeqF, Nat.reduceEqDiff, zleF, zleT, zltF, zltT, zneg1, zneg1L, zneg2, zneg0, eq_self, or_self, false_or, or_false, Nat.not_lt_zero, not_false_eq_true, not_true_eq_false]; done))) | (with_reducible refine bnd (e1) ?_) | (with_reducible refine bnd (hle) ?_) | (with_reducible refine bnd (x := some _) rfl ?_))
            rfl
          · repeat (first | (with_reducible refine zletE ?_) | (with_reducible refine zifn ?_ ?_; · (first | with_reducible assumption | decide | (simp (disch := omega) only [zlit, nI_add, pk_mul, pk_sub, zsubm, nI_clamp, nI_leI, nI_ltI, nI_eq, zeqF, Nat.reduceEqDiff, zleF, zleT, zltF, zltT, zneg1, zneg1L, zneg2, zneg0, eq_self, or_self, false_or, or_false, Nat.not_lt_zero, not_false_eq_true, not_true_eq_false]; done))) | (with_reducible refine zifp ?_ ?_; · (first | with_reducible assumption | decide | (simp (disch := omega) only [zlit, nI_add, pk_mul, pk_sub, zsubm, nI_clamp, nI_leI, nI_ltI, nI_eq, zeqF, Nat.reduceEqDiff, zleF, zleT, zltF, zltT, zneg1, zneg1L, zneg2, zneg0, eq_self, or_self, false_or, or_false, Nat.not_lt_zero, not_false_eq_true, not_true_eq_false]; done))) | (with_reducible refine bnd (e2) ?_) | (with_reducible refine bnd (within_yes (by decide) (by decide)) ?_) | (with_reducible refine bnd (hrl) ?_) | (with_reducible refine bnd (x := some _) rfl ?_))
            rfl
        · have hw : f_R_within N a2 0 2 = some 0 := within_no (by
            by_cases q : a2 < 0
            · exact Or.inl q
            · right
              grind)
          refine ⟨-1, ?_, ?_⟩
          · repeat (first | (with_reducible refine zletE ?_) | (with_reducible refine zifn ?_ ?_; · (first | with_reducible assumption | decide | (simp (disch := omega) only [zlit, nI_add, pk_mul, pk_sub, zsubm, nI_clamp, nI_leI, nI_ltI, nI_eq, zeqF, Nat.reduceEqDiff, zleF, zleT, zltF, zltT, zneg1, zneg1L, zneg2, zneg0, eq_self, or_self, false_or, or_false, Nat.not_lt_zero, not_false_eq_true, not_true_eq_false]; done))) | (with_reducible refine zifp ?_ ?_; · (first | with_reducible assumption | decide | (simp (disch := omega) only [zlit, nI_add, pk_mul, pk_sub, zsubm, nI_clamp, nI_leI, nI_ltI, nI_eq, zeqF, Nat.reduceEqDiff, zleF, zleT, zltF, zltT, zneg1, zneg1L, zneg2, zneg0, eq_self, or_self, false_or, or_false, Nat.not_lt_zero, not_false_eq_true, not_true_eq_false]; done))) | (with_reducible refine bnd (e1) ?_) | (with_reducible refine bnd (x := some _) rfl ?_))
            rfl
          · repeat (first | (with_reducible refine zletE ?_) | (with_reducible refine zifn ?_ ?_; · (first | with_reducible assumption | decide | (simp (disch := omega) only [zlit, nI_add, pk_mul, pk_sub, zsubm, nI_clamp, nI_leI, nI_ltI, nI_eq, zeqF, Nat.reduceEqDiff, zleF, zleT, zltF, zltT, zneg1, zneg1L, zneg2, zneg0, eq_self, or_self, false_or, or_false, Nat.not_lt_zero, not_false_eq_true, not_true_eq_false]; done))) | (with_reducible refine zifp ?_ ?_; · (first | with_reducible assumption | decide | (simp (disch := omega) only [zlit, nI_add, pk_mul, pk_sub, zsubm, nI_clamp, nI_leI, nI_ltI, nI_eq, zeqF, Nat.reduceEqDiff, zleF, zleT, zltF, zltT, zneg1, zneg1L, zneg2, zneg0, eq_self, or_self, false_or, or_false, Nat.not_lt_zero, not_false_eq_true, not_true_eq_false]; done))) | (with_reducible refine bnd (e2) ?_) | (with_reducible refine bnd (hw) ?_) | (with_reducible refine bnd (x := some _) rfl ?_))
            rfl
theorem q_life {N : Nat} (hN : 10000 ≤ N) {v0 : VBl} {v1 : VTape} {v2 : VTown} {v3 : VLaws} {v4 : VReader} {v5 : VTown} {v6 : VLaws} {v7 : VYear} {v8 : VYear} {v9 : VLots} {v10 : VLives} {v11 : VLives} {v13 : VTales} {v17 : VForecast} {v18 : VLives} {v19 : VDeeds} {v20 : VPairs} {und mls : Nat → VLives} {mts : Nat → VTales} {w : VR} {P L g : Nat} (h : RELx P L g v0 v1 v2 v3 v7 v9 v10 v13 v17 und mls mts w) (a1 a2 : Int32) : ∃ a, f_Bl_life N v0 v1 v2 v3 v4 v5 v6 v7 v8 v9 v10 v11 v13 v17 v18 v19 v20 und mls mts a1 a2 = some a ∧ f_R_life N w a1 a2 = some (a, 0) := by
  obtain ⟨⟨hT, hB, hG, -⟩, -, ⟨hR, hI⟩, -⟩ := h
  have hP := hT.1
  have h6 := hT.1.2
  have hT' : townR (R_thrown_s w 0) v2 v3 P := hT
  have hR' : LR P 0 (R_state (R_thrown_s w 0)) v10 := hR
  unfold f_Bl_life f_R_life
  rcases isPerson_both (N := N) hT' a1 with ⟨e1, e2⟩ | ⟨l, hl, rfl, e1, e2⟩
  · refine ⟨-1, ?_, ?_⟩
    · repeat (first | (with_reducible refine zletE ?_) | (with_reducible refine zifn ?_ ?_; · (first | with_reducible assumption | decide | (simp (disch := omega) only [zlit, nI_add, pk_mul, pk_sub, zsubm, nI_clamp, nI_leI, nI_ltI, nI_eq, zeqF, Nat.reduceEqDiff, zleF, zleT, zltF, zltT, zneg1, zneg1L, zneg2, zneg0, eq_self, or_self, false_or, or_false, Nat.not_lt_zero, not_false_eq_true, not_true_eq_false]; done))) | (with_reducible refine zifp ?_ ?_; · (first | with_reducible assumption | decide | (simp (disch := omega) only [zlit, nI_add, pk_mul, pk_sub, zsubm, nI_clamp, nI_leI, nI_ltI, nI_eq, zeqF, Nat.reduceEqDiff, zleF, zleT, zltF, zltT, zneg1, zneg1L, zneg2, zneg0, eq_self, or_self, false_or, or_false, Nat.not_lt_zero, not_false_eq_true, not_true_eq_false]; done))) | (with_reducible refine bnd (e1) ?_) | (with_reducible refine bnd (x := some _) rfl ?_))
      rfl
    · repeat (first | (with_reducible refine zletE ?_) | (with_reducible refine zifn ?_ ?_; · (first | with_reducible assumption | decide | (simp (disch := omega) only [zlit, nI_add, pk_mul, pk_sub, zsubm, nI_clamp, nI_leI, nI_ltI, nI_eq, zeqF, Nat.reduceEqDiff, zleF, zleT, zltF, zltT, zneg1, zneg1L, zneg2, zneg0, eq_self, or_self, false_or, or_false, Nat.not_lt_zero, not_false_eq_true, not_true_eq_false]; done))) | (with_reducible refine zifp ?_ ?_; · (first | with_reducible assumption | decide | (simp (disch := omega) only [zlit, nI_add, pk_mul, pk_sub, zsubm, nI_clamp, nI_leI, nI_ltI, nI_eq, zeqF, Nat.reduceEqDiff, zleF, zleT, zltF, zltT, zneg1, zneg1L, zneg2, zneg0, eq_self, or_self, false_or, or_false, Nat.not_lt_zero, not_false_eq_true, not_true_eq_false]; done))) | (with_reducible refine bnd (e2) ?_) | (with_reducible refine bnd (x := some _) rfl ?_))
      rfl
  · obtain ⟨s1, s2, s3, s4, s5⟩ := hR.1 l hl
    have s1 : R_state w (4 + l) = Lives_purse v10 l := by rw [← show 0 + 4 + l = 4 + l by omega]; exact s1
    have s2 : R_state w (10 + l) = Lives_debt v10 l := by rw [← show 0 + 10 + l = 10 + l by omega]; exact s2
    have s3 : R_state w (16 + l) = Lives_home v10 l := by rw [← show 0 + 16 + l = 16 + l by omega]; exact s3
    have s4 : R_state w (22 + l) = Lives_hidden v10 l := by rw [← show 0 + 22 + l = 22 + l by omega]; exact s4
    have s5 : R_state w (28 + l) = Lives_self v10 l := by rw [← show 0 + 28 + l = 28 + l by omega]; exact s5
    rw [show (4 : Int32) + nI l = nI (4 + l) from nI_add 4 l, show (10 : Int32) + nI l = nI (10 + l) from nI_add 10 l, show (16 : Int32) + nI l = nI (16 + l) from nI_add 16 l, show (22 : Int32) + nI l = nI (22 + l) from nI_add 22 l, show (28 : Int32) + nI l = nI (28 + l) from nI_add 28 l, nI_clamp (n := 4 + l) (by omega), nI_clamp (n := 10 + l) (by omega), nI_clamp (n := 16 + l) (by omega), nI_clamp (n := 22 + l) (by omega), nI_clamp (n := 28 + l) (by omega), nI_clamp (n := l) (by omega), s1, s2, s3, s4, s5]
    have hh := rharmOf_ok (N := N) (w := R_thrown_s w 0) (b := 0) (by omega) h6 hl hR'
    have hh : f_R_harmOf N (R_thrown_s w 0) 0 (nI l) 0 = some (hmOf v10 l) ∧ f_R_harmOf N (R_thrown_s w 0) 0 (nI l) 1 = some (gdOf v10 l) := hh
    have hm := harmOf_ok (N := N) (v := v10) (v2 := v3) hT.1 hl
    have hd := goodOf_ok (N := N) (v := v10) (v2 := v3) hT.1 hl
    by_cases c0 : a2 = 0
    · subst c0
      refine ⟨Lives_purse v10 l, ?_, ?_⟩
      · repeat (first | (with_reducible refine zletE ?_) | (with_reducible refine zifn ?_ ?_; · (first | with_reducible assumption | decide | (simp (disch := omega) only [zlit, nI_add, pk_mul, pk_sub, zsubm, nI_clamp, nI_leI, nI_ltI, nI_eq, zeqF, Nat.reduceEqDiff, zleF, zleT, zltF, zltT, zneg1, zneg1L, zneg2, zneg0, eq_self, or_self, false_or, or_false, Nat.not_lt_zero, not_false_eq_true, not_true_eq_false]; done))) | (with_reducible refine zifp ?_ ?_; · (first | with_reducible assumption | decide | (simp (disch := omega) only [zlit, nI_add, pk_mul, pk_sub, zsubm, nI_clamp, nI_leI, nI_ltI, nI_eq, zeqF, Nat.reduceEqDiff, zleF, zleT, zltF, zltT, zneg1, zneg1L, zneg2, zneg0, eq_self, or_self, false_or, or_false, Nat.not_lt_zero, not_false_eq_true, not_true_eq_false]; done))) | (with_reducible refine bnd (e1) ?_) | (with_reducible refine bnd (x := some _) rfl ?_))
        rfl
      · repeat (first | (with_reducible refine zletE ?_) | (with_reducible refine zifn ?_ ?_; · (first | with_reducible assumption | decide | (simp (disch := omega) only [zlit, nI_add, pk_mul, pk_sub, zsubm, nI_clamp, nI_leI, nI_ltI, nI_eq, zeqF, Nat.reduceEqDiff, zleF, zleT, zltF, zltT, zneg1, zneg1L, zneg2, zneg0, eq_self, or_self, false_or, or_false, Nat.not_lt_zero, not_false_eq_true, not_true_eq_false]; done))) | (with_reducible refine zifp ?_ ?_; · (first | with_reducible assumption | decide | (simp (disch := omega) only [zlit, nI_add, pk_mul, pk_sub, zsubm, nI_clamp, nI_leI, nI_ltI, nI_eq, zeqF, Nat.reduceEqDiff, zleF, zleT, zltF, zltT, zneg1, zneg1L, zneg2, zneg0, eq_self, or_self, false_or, or_false, Nat.not_lt_zero, not_false_eq_true, not_true_eq_false]; done))) | (with_reducible refine bnd (e2) ?_) | (with_reducible refine bnd (within_yes (by decide) (by decide)) ?_) | (with_reducible refine bnd (x := some _) rfl ?_))
        rfl
    · by_cases c1 : a2 = 1
      · subst c1
        refine ⟨Lives_debt v10 l, ?_, ?_⟩
        · repeat (first | (with_reducible refine zletE ?_) | (with_reducible refine zifn ?_ ?_; · (first | with_reducible assumption | decide | (simp (disch := omega) only [zlit, nI_add, pk_mul, pk_sub, zsubm, nI_clamp, nI_leI, nI_ltI, nI_eq, zeqF, Nat.reduceEqDiff, zleF, zleT, zltF, zltT, zneg1, zneg1L, zneg2, zneg0, eq_self, or_self, false_or, or_false, Nat.not_lt_zero, not_false_eq_true, not_true_eq_false]; done))) | (with_reducible refine zifp ?_ ?_; · (first | with_reducible assumption | decide | (simp (disch := omega) only [zlit, nI_add, pk_mul, pk_sub, zsubm, nI_clamp, nI_leI, nI_ltI, nI_eq, zeqF, Nat.reduceEqDiff, zleF, zleT, zltF, zltT, zneg1, zneg1L, zneg2, zneg0, eq_self, or_self, false_or, or_false, Nat.not_lt_zero, not_false_eq_true, not_true_eq_false]; done))) | (with_reducible refine bnd (e1) ?_) | (with_reducible refine bnd (x := some _) rfl ?_))
          rfl
        · repeat (first | (with_reducible refine zletE ?_) | (with_reducible refine zifn ?_ ?_; · (first | with_reducible assumption | decide | (simp (disch := omega) only [zlit, nI_add, pk_mul, pk_sub, zsubm, nI_clamp, nI_leI, nI_ltI, nI_eq, zeqF, Nat.reduceEqDiff, zleF, zleT, zltF, zltT, zneg1, zneg1L, zneg2, zneg0, eq_self, or_self, false_or, or_false, Nat.not_lt_zero, not_false_eq_true, not_true_eq_false]; done))) | (with_reducible refine zifp ?_ ?_; · (first | with_reducible assumption | decide | (simp (disch := omega) only [zlit, nI_add, pk_mul, pk_sub, zsubm, nI_clamp, nI_leI, nI_ltI, nI_eq, zeqF, Nat.reduceEqDiff, zleF, zleT, zltF, zltT, zneg1, zneg1L, zneg2, zneg0, eq_self, or_self, false_or, or_false, Nat.not_lt_zero, not_false_eq_true, not_true_eq_false]; done))) | (with_reducible refine bnd (e2) ?_) | (with_reducible refine bnd (within_yes (by decide) (by decide)) ?_) | (with_reducible refine bnd (x := some _) rfl ?_))
          rfl
      · by_cases c2 : a2 = 2
        · subst c2
          refine ⟨Lives_home v10 l, ?_, ?_⟩
          · repeat (first | (with_reducible refine zletE ?_) | (with_reducible refine zifn ?_ ?_; · (first | with_reducible assumption | decide | (simp (disch := omega) only [zlit, nI_add, pk_mul, pk_sub, zsubm, nI_clamp, nI_leI, nI_ltI, nI_eq, zeqF, Nat.reduceEqDiff, zleF, zleT, zltF, zltT, zneg1, zneg1L, zneg2, zneg0, eq_self, or_self, false_or, or_false, Nat.not_lt_zero, not_false_eq_true, not_true_eq_false]; done))) | (with_reducible refine zifp ?_ ?_; · (first | with_reducible assumption | decide | (simp (disch := omega) only [zlit, nI_add, pk_mul, pk_sub, zsubm, nI_clamp, nI_leI, nI_ltI, nI_eq, zeqF, Nat.reduceEqDiff, zleF, zleT, zltF, zltT, zneg1, zneg1L, zneg2, zneg0, eq_self, or_self, false_or, or_false, Nat.not_lt_zero, not_false_eq_true, not_true_eq_false]; done))) | (with_reducible refine bnd (e1) ?_) | (with_reducible refine bnd (x := some _) rfl ?_))
            rfl
          · repeat (first | (with_reducible refine zletE ?_) | (with_reducible refine zifn ?_ ?_; · (first | with_reducible assumption | decide | (simp (disch := omega) only [zlit, nI_add, pk_mul, pk_sub, zsubm, nI_clamp, nI_leI, nI_ltI, nI_eq, zeqF, Nat.reduceEqDiff, zleF, zleT, zltF, zltT, zneg1, zneg1L, zneg2, zneg0, eq_self, or_self, false_or, or_false, Nat.not_lt_zero, not_false_eq_true, not_true_eq_false]; done))) | (with_reducible refine zifp ?_ ?_; · (first | with_reducible assumption | decide | (simp (disch := omega) only [zlit, nI_add, pk_mul, pk_sub, zsubm, nI_clamp, nI_leI, nI_ltI, nI_eq, zeqF, Nat.reduceEqDiff, zleF, zleT, zltF, zltT, zneg1, zneg1L, zneg2, zneg0, eq_self, or_self, false_or, or_false, Nat.not_lt_zero, not_false_eq_true, not_true_eq_false]; done))) | (with_reducible refine bnd (e2) ?_) | (with_reducible refine bnd (within_yes (by decide) (by decide)) ?_) | (with_reducible refine bnd (x := some _) rfl ?_))
            rfl
        · by_cases c3 : a2 = 3
          · subst c3
            refine ⟨Lives_hidden v10 l, ?_, ?_⟩
            · repeat (first | (with_reducible refine zletE ?_) | (with_reducible refine zifn ?_ ?_; · (first | with_reducible assumption | decide | (simp (disch := omega) only [zlit, nI_add, pk_mul, pk_sub, zsubm, nI_clamp, nI_leI, nI_ltI, nI_eq, zeqF, Nat.reduceEqDiff, zleF, zleT, zltF, zltT, zneg1, zneg1L, zneg2, zneg0, eq_self, or_self, false_or, or_false, Nat.not_lt_zero, not_false_eq_true, not_true_eq_false]; done))) | (with_reducible refine zifp ?_ ?_; · (first | with_reducible assumption | decide | (simp (disch := omega) only [zlit, nI_add, pk_mul, pk_sub, zsubm, nI_clamp, nI_leI, nI_ltI, nI_eq, zeqF, Nat.reduceEqDiff, zleF, zleT, zltF, zltT, zneg1, zneg1L, zneg2, zneg0, eq_self, or_self, false_or, or_false, Nat.not_lt_zero, not_false_eq_true, not_true_eq_false]; done))) | (with_reducible refine bnd (e1) ?_) | (with_reducible refine bnd (x := some _) rfl ?_))
              rfl
            · repeat (first | (with_reducible refine zletE ?_) | (with_reducible refine zifn ?_ ?_; · (first | with_reducible assumption | decide | (simp (disch := omega) only [zlit, nI_add, pk_mul, pk_sub, zsubm, nI_clamp, nI_leI, nI_ltI, nI_eq, zeqF, Nat.reduceEqDiff, zleF, zleT, zltF, zltT, zneg1, zneg1L, zneg2, zneg0, eq_self, or_self, false_or, or_false, Nat.not_lt_zero, not_false_eq_true, not_true_eq_false]; done))) | (with_reducible refine zifp ?_ ?_; · (first | with_reducible assumption | decide | (simp (disch := omega) only [zlit, nI_add, pk_mul, pk_sub, zsubm, nI_clamp, nI_leI, nI_ltI, nI_eq, zeqF, Nat.reduceEqDiff, zleF, zleT, zltF, zltT, zneg1, zneg1L, zneg2, zneg0, eq_self, or_self, false_or, or_false, Nat.not_lt_zero, not_false_eq_true, not_true_eq_false]; done))) | (with_reducible refine bnd (e2) ?_) | (with_reducible refine bnd (within_yes (by decide) (by decide)) ?_) | (with_reducible refine bnd (x := some _) rfl ?_))
              rfl
          · by_cases c4 : a2 = 4
            · subst c4
              refine ⟨Lives_self v10 l, ?_, ?_⟩
              · repeat (first | (with_reducible refine zletE ?_) | (with_reducible refine zifn ?_ ?_; · (first | with_reducible assumption | decide | (simp (disch := omega) only [zlit, nI_add, pk_mul, pk_sub, zsubm, nI_clamp, nI_leI, nI_ltI, nI_eq, zeqF, Nat.reduceEqDiff, zleF, zleT, zltF, zltT, zneg1, zneg1L, zneg2, zneg0, eq_self, or_self, false_or, or_false, Nat.not_lt_zero, not_false_eq_true, not_true_eq_false]; done))) | (with_reducible refine zifp ?_ ?_; · (first | with_reducible assumption | decide | (simp (disch := omega) only [zlit, nI_add, pk_mul, pk_sub, zsubm, nI_clamp, nI_leI, nI_ltI, nI_eq, zeqF, Nat.reduceEqDiff, zleF, zleT, zltF, zltT, zneg1, zneg1L, zneg2, zneg0, eq_self, or_self, false_or, or_false, Nat.not_lt_zero, not_false_eq_true, not_true_eq_false]; done))) | (with_reducible refine bnd (e1) ?_) | (with_reducible refine bnd (x := some _) rfl ?_))
                rfl
              · repeat (first | (with_reducible refine zletE ?_) | (with_reducible refine zifn ?_ ?_; · (first | with_reducible assumption | decide | (simp (disch := omega) only [zlit, nI_add, pk_mul, pk_sub, zsubm, nI_clamp, nI_leI, nI_ltI, nI_eq, zeqF, Nat.reduceEqDiff, zleF, zleT, zltF, zltT, zneg1, zneg1L, zneg2, zneg0, eq_self, or_self, false_or, or_false, Nat.not_lt_zero, not_false_eq_true, not_true_eq_false]; done))) | (with_reducible refine zifp ?_ ?_; · (first | with_reducible assumption | decide | (simp (disch := omega) only [zlit, nI_add, pk_mul, pk_sub, zsubm, nI_clamp, nI_leI, nI_ltI, nI_eq, zeqF, Nat.reduceEqDiff, zleF, zleT, zltF, zltT, zneg1, zneg1L, zneg2, zneg0, eq_self, or_self, false_or, or_false, Nat.not_lt_zero, not_false_eq_true, not_true_eq_false]; done))) | (with_reducible refine bnd (e2) ?_) | (with_reducible refine bnd (within_yes (by decide) (by decide)) ?_) | (with_reducible refine bnd (x := some _) rfl ?_))
                rfl
            · by_cases c5 : a2 = 5
              · subst c5
                refine ⟨hmOf v10 l, ?_, ?_⟩
                · repeat (first | (with_reducible refine zletE ?_) | (with_reducible refine zifn ?_ ?_; · (first | with_reducible assumption | decide | (simp (disch := omega) only [zlit, nI_add, pk_mul, pk_sub, zsubm, nI_clamp, nI_leI, nI_ltI, nI_eq, zeqF, Nat.reduceEqDiff, zleF, zleT, zltF, zltT, zneg1, zneg1L, zneg2, zneg0, eq_self, or_self, false_or, or_false, Nat.not_lt_zero, not_false_eq_true, not_true_eq_false]; done))) | (with_reducible refine zifp ?_ ?_; · (first | with_reducible assumption | decide | (simp (disch := omega) only [zlit, nI_add, pk_mul, pk_sub, zsubm, nI_clamp, nI_leI, nI_ltI, nI_eq, zeqF, Nat.reduceEqDiff, zleF, zleT, zltF, zltT, zneg1, zneg1L, zneg2, zneg0, eq_self, or_self, false_or, or_false, Nat.not_lt_zero, not_false_eq_true, not_true_eq_false]; done))) | (with_reducible refine bnd (e1) ?_) | (with_reducible refine bnd (hm) ?_) | (with_reducible refine bnd (x := some _) rfl ?_))
                  rfl
                · rw [show (if (5 : Int32) = 6 then (1 : Int32) else 0) = 0 from rfl]
                  repeat (first | (with_reducible refine zletE ?_) | (with_reducible refine zifn ?_ ?_; · (first | with_reducible assumption | decide | (simp (disch := omega) only [zlit, nI_add, pk_mul, pk_sub, zsubm, nI_clamp, nI_leI, nI_ltI, nI_eq, zeqF, Nat.reduceEqDiff, zleF, zleT, zltF, zltT, zneg1, zneg1L, zneg2, zneg0, eq_self, or_self, false_or, or_false, Nat.not_lt_zero, not_false_eq_true, not_true_eq_false]; done))) | (with_reducible refine zifp ?_ ?_; · (first | with_reducible assumption | decide | (simp (disch := omega) only [zlit, nI_add, pk_mul, pk_sub, zsubm, nI_clamp, nI_leI, nI_ltI, nI_eq, zeqF, Nat.reduceEqDiff, zleF, zleT, zltF, zltT, zneg1, zneg1L, zneg2, zneg0, eq_self, or_self, false_or, or_false, Nat.not_lt_zero, not_false_eq_true, not_true_eq_false]; done))) | (with_reducible refine bnd (e2) ?_) | (with_reducible refine bnd (within_yes (by decide) (by decide)) ?_) | (with_reducible refine bnd (hh.1) ?_) | (with_reducible refine bnd (x := some _) rfl ?_))
                  rfl
              · by_cases c6 : a2 = 6
                · subst c6
                  refine ⟨gdOf v10 l, ?_, ?_⟩
                  · repeat (first | (with_reducible refine zletE ?_) | (with_reducible refine zifn ?_ ?_; · (first | with_reducible assumption | decide | (simp (disch := omega) only [zlit, nI_add, pk_mul, pk_sub, zsubm, nI_clamp, nI_leI, nI_ltI, nI_eq, zeqF, Nat.reduceEqDiff, zleF, zleT, zltF, zltT, zneg1, zneg1L, zneg2, zneg0, eq_self, or_self, false_or, or_false, Nat.not_lt_zero, not_false_eq_true, not_true_eq_false]; done))) | (with_reducible refine zifp ?_ ?_; · (first | with_reducible assumption | decide | (simp (disch := omega) only [zlit, nI_add, pk_mul, pk_sub, zsubm, nI_clamp, nI_leI, nI_ltI, nI_eq, zeqF, Nat.reduceEqDiff, zleF, zleT, zltF, zltT, zneg1, zneg1L, zneg2, zneg0, eq_self, or_self, false_or, or_false, Nat.not_lt_zero, not_false_eq_true, not_true_eq_false]; done))) | (with_reducible refine bnd (e1) ?_) | (with_reducible refine bnd (hd) ?_) | (with_reducible refine bnd (x := some _) rfl ?_))
                    rfl
                  · rw [show (if (6 : Int32) = 6 then (1 : Int32) else 0) = 1 from rfl]
                    repeat (first | (with_reducible refine zletE ?_) | (with_reducible refine zifn ?_ ?_; · (first | with_reducible assumption | decide | (simp (disch := omega) only [zlit, nI_add, pk_mul, pk_sub, zsubm, nI_clamp, nI_leI, nI_ltI, nI_eq, zeqF, Nat.reduceEqDiff, zleF, zleT, zltF, zltT, zneg1, zneg1L, zneg2, zneg0, eq_self, or_self, false_or, or_false, Nat.not_lt_zero, not_false_eq_true, not_true_eq_false]; done))) | (with_reducible refine zifp ?_ ?_; · (first | with_reducible assumption | decide | (simp (disch := omega) only [zlit, nI_add, pk_mul, pk_sub, zsubm, nI_clamp, nI_leI, nI_ltI, nI_eq, zeqF, Nat.reduceEqDiff, zleF, zleT, zltF, zltT, zneg1, zneg1L, zneg2, zneg0, eq_self, or_self, false_or, or_false, Nat.not_lt_zero, not_false_eq_true, not_true_eq_false]; done))) | (with_reducible refine bnd (e2) ?_) | (with_reducible refine bnd (within_yes (by decide) (by decide)) ?_) | (with_reducible refine bnd (hh.2) ?_) | (with_reducible refine bnd (x := some _) rfl ?_))
                    rfl
                · have hw : f_R_within N a2 0 6 = some 0 := within_no (by
                    by_cases q : a2 < 0
                    · exact Or.inl q
                    · right
                      grind)
                  refine ⟨-1, ?_, ?_⟩
                  · repeat (first | (with_reducible refine zletE ?_) | (with_reducible refine zifn ?_ ?_; · (first | with_reducible assumption | decide | (simp (disch := omega) only [zlit, nI_add, pk_mul, pk_sub, zsubm, nI_clamp, nI_leI, nI_ltI, nI_eq, zeqF, Nat.reduceEqDiff, zleF, zleT, zltF, zltT, zneg1, zneg1L, zneg2, zneg0, eq_self, or_self, false_or, or_false, Nat.not_lt_zero, not_false_eq_true, not_true_eq_false]; done))) | (with_reducible refine zifp ?_ ?_; · (first | with_reducible assumption | decide | (simp (disch := omega) only [zlit, nI_add, pk_mul, pk_sub, zsubm, nI_clamp, nI_leI, nI_ltI, nI_eq, zeqF, Nat.reduceEqDiff, zleF, zleT, zltF, zltT, zneg1, zneg1L, zneg2, zneg0, eq_self, or_self, false_or, or_false, Nat.not_lt_zero, not_false_eq_true, not_true_eq_false]; done))) | (with_reducible refine bnd (e1) ?_) | (with_reducible refine bnd (x := some _) rfl ?_))
                    rfl
                  · repeat (first | (with_reducible refine zletE ?_) | (with_reducible refine zifn ?_ ?_; · (first | with_reducible assumption | decide | (simp (disch := omega) only [zlit, nI_add, pk_mul, pk_sub, zsubm, nI_clamp, nI_leI, nI_ltI, nI_eq, zeqF, Nat.reduceEqDiff, zleF, zleT, zltF, zltT, zneg1, zneg1L, zneg2, zneg0, eq_self, or_self, false_or, or_false, Nat.not_lt_zero, not_false_eq_true, not_true_eq_false]; done))) | (with_reducible refine zifp ?_ ?_; · (first | with_reducible assumption | decide | (simp (disch := omega) only [zlit, nI_add, pk_mul, pk_sub, zsubm, nI_clamp, nI_leI, nI_ltI, nI_eq, zeqF, Nat.reduceEqDiff, zleF, zleT, zltF, zltT, zneg1, zneg1L, zneg2, zneg0, eq_self, or_self, false_or, or_false, Nat.not_lt_zero, not_false_eq_true, not_true_eq_false]; done))) | (with_reducible refine bnd (e2) ?_) | (with_reducible refine bnd (hw) ?_) | (with_reducible refine bnd (x := some _) rfl ?_))
                    rfl
theorem q_may {N : Nat} (hN : 10000 ≤ N) {v0 : VBl} {v1 : VTape} {v2 : VTown} {v3 : VLaws} {v4 : VReader} {v5 : VTown} {v6 : VLaws} {v7 : VYear} {v8 : VYear} {v9 : VLots} {v10 : VLives} {v11 : VLives} {v13 : VTales} {v17 : VForecast} {v18 : VLives} {v19 : VDeeds} {v20 : VPairs} {und mls : Nat → VLives} {mts : Nat → VTales} {w : VR} {P L g : Nat} (h : RELx P L g v0 v1 v2 v3 v7 v9 v10 v13 v17 und mls mts w) (a1 a2 : Int32) : ∃ a, f_Bl_may N v0 v1 v2 v3 v4 v5 v6 v7 v8 v9 v10 v11 v13 v17 v18 v19 v20 und mls mts a1 a2 = some a ∧ f_R_may N w a1 a2 = some (a, 0) := by
  obtain ⟨⟨hT, hB, hG, -⟩, -⟩ := h
  have hP := hT.1
  have h6 := hT.1.2
  have hT' : townR (R_thrown_s w 0) v2 v3 P := hT
  unfold f_Bl_may f_R_may
  rcases isPerson_both (N := N) hT' a1 with ⟨e1, e2⟩ | ⟨p, hp, rfl, e1, e2⟩
  · refine ⟨0, ?_, ?_⟩
    · have e3 : f_Town_allows N v2 v3 a1 a2 = some 0 := by
        unfold f_Town_allows
        repeat (first | (with_reducible refine zletE ?_) | (with_reducible refine zifn ?_ ?_; · (first | with_reducible assumption | decide | (simp (disch := omega) only [zlit, nI_add, pk_mul, pk_sub, zsubm, nI_clamp, nI_leI, nI_ltI, nI_eq, zeqF, Nat.reduceEqDiff, zleF, zleT, zltF, zltT, zneg1, zneg1L, zneg2, zneg0, eq_self, or_self, false_or, or_false, Nat.not_lt_zero, not_false_eq_true, not_true_eq_false]; done))) | (with_reducible refine zifp ?_ ?_; · (first | with_reducible assumption | decide | (simp (disch := omega) only [zlit, nI_add, pk_mul, pk_sub, zsubm, nI_clamp, nI_leI, nI_ltI, nI_eq, zeqF, Nat.reduceEqDiff, zleF, zleT, zltF, zltT, zneg1, zneg1L, zneg2, zneg0, eq_self, or_self, false_or, or_false, Nat.not_lt_zero, not_false_eq_true, not_true_eq_false]; done))) | (with_reducible refine bnd (e1) ?_) | (with_reducible refine bnd (x := some _) rfl ?_))
        rfl
      repeat (first | (with_reducible refine zletE ?_) | (with_reducible refine zifn ?_ ?_; · (first | with_reducible assumption | decide | (simp (disch := omega) only [zlit, nI_add, pk_mul, pk_sub, zsubm, nI_clamp, nI_leI, nI_ltI, nI_eq, zeqF, Nat.reduceEqDiff, zleF, zleT, zltF, zltT, zneg1, zneg1L, zneg2, zneg0, eq_self, or_self, false_or, or_false, Nat.not_lt_zero, not_false_eq_true, not_true_eq_false]; done))) | (with_reducible refine zifp ?_ ?_; · (first | with_reducible assumption | decide | (simp (disch := omega) only [zlit, nI_add, pk_mul, pk_sub, zsubm, nI_clamp, nI_leI, nI_ltI, nI_eq, zeqF, Nat.reduceEqDiff, zleF, zleT, zltF, zltT, zneg1, zneg1L, zneg2, zneg0, eq_self, or_self, false_or, or_false, Nat.not_lt_zero, not_false_eq_true, not_true_eq_false]; done))) | (with_reducible refine bnd (e3) ?_) | (with_reducible refine bnd (x := some _) rfl ?_))
      rfl
    · repeat (first | (with_reducible refine zletE ?_) | (with_reducible refine zifn ?_ ?_; · (first | with_reducible assumption | decide | (simp (disch := omega) only [zlit, nI_add, pk_mul, pk_sub, zsubm, nI_clamp, nI_leI, nI_ltI, nI_eq, zeqF, Nat.reduceEqDiff, zleF, zleT, zltF, zltT, zneg1, zneg1L, zneg2, zneg0, eq_self, or_self, false_or, or_false, Nat.not_lt_zero, not_false_eq_true, not_true_eq_false]; done))) | (with_reducible refine zifp ?_ ?_; · (first | with_reducible assumption | decide | (simp (disch := omega) only [zlit, nI_add, pk_mul, pk_sub, zsubm, nI_clamp, nI_leI, nI_ltI, nI_eq, zeqF, Nat.reduceEqDiff, zleF, zleT, zltF, zltT, zneg1, zneg1L, zneg2, zneg0, eq_self, or_self, false_or, or_false, Nat.not_lt_zero, not_false_eq_true, not_true_eq_false]; done))) | (with_reducible refine bnd (e2) ?_) | (with_reducible refine bnd (x := some _) rfl ?_))
      rfl
  · rcases isPerson_both (N := N) hT' a2 with ⟨g1, g2⟩ | ⟨l, hl, rfl, g1, g2⟩
    · refine ⟨0, ?_, ?_⟩
      · have e3 : f_Town_allows N v2 v3 (nI p) a2 = some 0 := by
          unfold f_Town_allows
          repeat (first | (with_reducible refine zletE ?_) | (with_reducible refine zifn ?_ ?_; · (first | with_reducible assumption | decide | (simp (disch := omega) only [zlit, nI_add, pk_mul, pk_sub, zsubm, nI_clamp, nI_leI, nI_ltI, nI_eq, zeqF, Nat.reduceEqDiff, zleF, zleT, zltF, zltT, zneg1, zneg1L, zneg2, zneg0, eq_self, or_self, false_or, or_false, Nat.not_lt_zero, not_false_eq_true, not_true_eq_false]; done))) | (with_reducible refine zifp ?_ ?_; · (first | with_reducible assumption | decide | (simp (disch := omega) only [zlit, nI_add, pk_mul, pk_sub, zsubm, nI_clamp, nI_leI, nI_ltI, nI_eq, zeqF, Nat.reduceEqDiff, zleF, zleT, zltF, zltT, zneg1, zneg1L, zneg2, zneg0, eq_self, or_self, false_or, or_false, Nat.not_lt_zero, not_false_eq_true, not_true_eq_false]; done))) | (with_reducible refine bnd (e1) ?_) | (with_reducible refine bnd (g1) ?_) | (with_reducible refine bnd (x := some _) rfl ?_))
          rfl
        repeat (first | (with_reducible refine zletE ?_) | (with_reducible refine zifn ?_ ?_; · (first | with_reducible assumption | decide | (simp (disch := omega) only [zlit, nI_add, pk_mul, pk_sub, zsubm, nI_clamp, nI_leI, nI_ltI, nI_eq, zeqF, Nat.reduceEqDiff, zleF, zleT, zltF, zltT, zneg1, zneg1L, zneg2, zneg0, eq_self, or_self, false_or, or_false, Nat.not_lt_zero, not_false_eq_true, not_true_eq_false]; done))) | (with_reducible refine zifp ?_ ?_; · (first | with_reducible assumption | decide | (simp (disch := omega) only [zlit, nI_add, pk_mul, pk_sub, zsubm, nI_clamp, nI_leI, nI_ltI, nI_eq, zeqF, Nat.reduceEqDiff, zleF, zleT, zltF, zltT, zneg1, zneg1L, zneg2, zneg0, eq_self, or_self, false_or, or_false, Nat.not_lt_zero, not_false_eq_true, not_true_eq_false]; done))) | (with_reducible refine bnd (e3) ?_) | (with_reducible refine bnd (x := some _) rfl ?_))
        rfl
      · repeat (first | (with_reducible refine zletE ?_) | (with_reducible refine zifn ?_ ?_; · (first | with_reducible assumption | decide | (simp (disch := omega) only [zlit, nI_add, pk_mul, pk_sub, zsubm, nI_clamp, nI_leI, nI_ltI, nI_eq, zeqF, Nat.reduceEqDiff, zleF, zleT, zltF, zltT, zneg1, zneg1L, zneg2, zneg0, eq_self, or_self, false_or, or_false, Nat.not_lt_zero, not_false_eq_true, not_true_eq_false]; done))) | (with_reducible refine zifp ?_ ?_; · (first | with_reducible assumption | decide | (simp (disch := omega) only [zlit, nI_add, pk_mul, pk_sub, zsubm, nI_clamp, nI_leI, nI_ltI, nI_eq, zeqF, Nat.reduceEqDiff, zleF, zleT, zltF, zltT, zneg1, zneg1L, zneg2, zneg0, eq_self, or_self, false_or, or_false, Nat.not_lt_zero, not_false_eq_true, not_true_eq_false]; done))) | (with_reducible refine bnd (e2) ?_) | (with_reducible refine bnd (g2) ?_) | (with_reducible refine bnd (x := some _) rfl ?_))
        rfl
    · obtain ⟨r, r1, r2, r3⟩ := mayBe_ok (N := N) hT' hB hp hl
      rcases r3 with rfl | rfl
      · refine ⟨0, ?_, ?_⟩
        · repeat (first | (with_reducible refine zletE ?_) | (with_reducible refine zifn ?_ ?_; · (first | with_reducible assumption | decide | (simp (disch := omega) only [zlit, nI_add, pk_mul, pk_sub, zsubm, nI_clamp, nI_leI, nI_ltI, nI_eq, zeqF, Nat.reduceEqDiff, zleF, zleT, zltF, zltT, zneg1, zneg1L, zneg2, zneg0, eq_self, or_self, false_or, or_false, Nat.not_lt_zero, not_false_eq_true, not_true_eq_false]; done))) | (with_reducible refine zifp ?_ ?_; · (first | with_reducible assumption | decide | (simp (disch := omega) only [zlit, nI_add, pk_mul, pk_sub, zsubm, nI_clamp, nI_leI, nI_ltI, nI_eq, zeqF, Nat.reduceEqDiff, zleF, zleT, zltF, zltT, zneg1, zneg1L, zneg2, zneg0, eq_self, or_self, false_or, or_false, Nat.not_lt_zero, not_false_eq_true, not_true_eq_false]; done))) | (with_reducible refine bnd (r2) ?_) | (with_reducible refine bnd (x := some _) rfl ?_))
          rfl
        · repeat (first | (with_reducible refine zletE ?_) | (with_reducible refine zifn ?_ ?_; · (first | with_reducible assumption | decide | (simp (disch := omega) only [zlit, nI_add, pk_mul, pk_sub, zsubm, nI_clamp, nI_leI, nI_ltI, nI_eq, zeqF, Nat.reduceEqDiff, zleF, zleT, zltF, zltT, zneg1, zneg1L, zneg2, zneg0, eq_self, or_self, false_or, or_false, Nat.not_lt_zero, not_false_eq_true, not_true_eq_false]; done))) | (with_reducible refine zifp ?_ ?_; · (first | with_reducible assumption | decide | (simp (disch := omega) only [zlit, nI_add, pk_mul, pk_sub, zsubm, nI_clamp, nI_leI, nI_ltI, nI_eq, zeqF, Nat.reduceEqDiff, zleF, zleT, zltF, zltT, zneg1, zneg1L, zneg2, zneg0, eq_self, or_self, false_or, or_false, Nat.not_lt_zero, not_false_eq_true, not_true_eq_false]; done))) | (with_reducible refine bnd (e2) ?_) | (with_reducible refine bnd (g2) ?_) | (with_reducible refine bnd (r1) ?_) | (with_reducible refine bnd (x := some _) rfl ?_))
          rfl
      · refine ⟨1, ?_, ?_⟩
        · repeat (first | (with_reducible refine zletE ?_) | (with_reducible refine zifn ?_ ?_; · (first | with_reducible assumption | decide | (simp (disch := omega) only [zlit, nI_add, pk_mul, pk_sub, zsubm, nI_clamp, nI_leI, nI_ltI, nI_eq, zeqF, Nat.reduceEqDiff, zleF, zleT, zltF, zltT, zneg1, zneg1L, zneg2, zneg0, eq_self, or_self, false_or, or_false, Nat.not_lt_zero, not_false_eq_true, not_true_eq_false]; done))) | (with_reducible refine zifp ?_ ?_; · (first | with_reducible assumption | decide | (simp (disch := omega) only [zlit, nI_add, pk_mul, pk_sub, zsubm, nI_clamp, nI_leI, nI_ltI, nI_eq, zeqF, Nat.reduceEqDiff, zleF, zleT, zltF, zltT, zneg1, zneg1L, zneg2, zneg0, eq_self, or_self, false_or, or_false, Nat.not_lt_zero, not_false_eq_true, not_true_eq_false]; done))) | (with_reducible refine bnd (r2) ?_) | (with_reducible refine bnd (x := some _) rfl ?_))
          rfl
        · repeat (first | (with_reducible refine zletE ?_) | (with_reducible refine zifn ?_ ?_; · (first | with_reducible assumption | decide | (simp (disch := omega) only [zlit, nI_add, pk_mul, pk_sub, zsubm, nI_clamp, nI_leI, nI_ltI, nI_eq, zeqF, Nat.reduceEqDiff, zleF, zleT, zltF, zltT, zneg1, zneg1L, zneg2, zneg0, eq_self, or_self, false_or, or_false, Nat.not_lt_zero, not_false_eq_true, not_true_eq_false]; done))) | (with_reducible refine zifp ?_ ?_; · (first | with_reducible assumption | decide | (simp (disch := omega) only [zlit, nI_add, pk_mul, pk_sub, zsubm, nI_clamp, nI_leI, nI_ltI, nI_eq, zeqF, Nat.reduceEqDiff, zleF, zleT, zltF, zltT, zneg1, zneg1L, zneg2, zneg0, eq_self, or_self, false_or, or_false, Nat.not_lt_zero, not_false_eq_true, not_true_eq_false]; done))) | (with_reducible refine bnd (e2) ?_) | (with_reducible refine bnd (g2) ?_) | (with_reducible refine bnd (r1) ?_) | (with_reducible refine bnd (x := some _) rfl ?_))
          rfl
theorem q_lots {N : Nat} {v0 : VBl} {v1 : VTape} {v2 : VTown} {v3 : VLaws} {v4 : VReader} {v5 : VTown} {v6 : VLaws} {v7 : VYear} {v8 : VYear} {v9 : VLots} {v10 : VLives} {v11 : VLives} {v13 : VTales} {v17 : VForecast} {v18 : VLives} {v19 : VDeeds} {v20 : VPairs} {und mls : Nat → VLives} {mts : Nat → VTales} {w : VR} {P L g : Nat} (h : RELx P L g v0 v1 v2 v3 v7 v9 v10 v13 v17 und mls mts w) : ∃ a, f_Bl_lots N v0 v1 v2 v3 v4 v5 v6 v7 v8 v9 v10 v11 v13 v17 v18 v19 v20 und mls mts = some a ∧ f_R_lots N w = some (a, 0) := by
  obtain ⟨-, hl, -⟩ := h
  refine ⟨nI L, ?_, ?_⟩
  · show some (Lots_count v9) = _
    rw [hl.2.1]
  · show some (R_lotsMany w, (0 : Int32)) = _
    rw [hl.1]
theorem rselfOf_ok {N : Nat} {w : VR} {v : VLots} {P L k l : Nat} (hl : lotsR w v P L) (hk : k < L) (hl2 : l < P) : f_R_selfOf N w (nI k) (nI l) = some (rowOf v k l) := by
  have hL := hl.2.2.1
  unfold f_R_selfOf
  rw [nI_clamp (n := k) (by omega)]
  repeat (first | (with_reducible refine zletE ?_) | (with_reducible refine zifn ?_ ?_; · (first | with_reducible assumption | decide | (simp (disch := omega) only [zlit, nI_add, pk_mul, pk_sub, zsubm, nI_clamp, nI_leI, nI_ltI, nI_eq, zeqF, Nat.reduceEqDiff, zleF, zleT, zltF, zltT, zneg1, zneg1L, zneg2, zneg0, eq_self, or_self, false_or, or_false, Nat.not_lt_zero, not_false_eq_true, not_true_eq_false]; done))) | (with_reducible refine zifp ?_ ?_; · (first | with_reducible assumption | decide | (simp (disch := omega) only [zlit, nI_add, pk_mul, pk_sub, zsubm, nI_clamp, nI_leI, nI_ltI, nI_eq, zeqF, Nat.reduceEqDiff, zleF, zleT, zltF, zltT, zneg1, zneg1L, zneg2, zneg0, eq_self, or_self, false_or, or_false, Nat.not_lt_zero, not_false_eq_true, not_true_eq_false]; done))) | (with_reducible refine bnd (x := some _) rfl ?_))
  exact congrArg some ((hl.2.2.2 k hk).2.2 l hl2)
theorem odds_loop (N : Nat) {v0 : VBl} {v1 : VTape} {v2 : VTown} {v3 : VLaws} {v4 : VReader} {v5 : VTown} {v6 : VLaws} {v7 : VYear} {v8 : VYear} {v9 : VLots} {v10 : VLives} {v11 : VLives} {v13 : VTales} {v17 : VForecast} {v18 : VLives} {v19 : VDeeds} {v20 : VPairs} {und mls : Nat → VLives} {mts : Nat → VTales} {w : VR} {P L : Nat} {l : Nat} {y1 : Int32} (h6 : P ≤ 6) (hl : lotsR w v9 P L) (hl2 : l < P) : ∀ (r k fuel : Nat) (x : Int32), k + r = L → r < fuel → ∃ a, f_Bl_odds_L39 N fuel v0 v1 v2 v3 v4 v5 v6 v7 v8 v9 v10 v11 v13 v17 v18 v19 v20 und mls mts y1 (nI l) x (nI k) = some a ∧ f_R_odds_L35 N fuel w y1 (nI l) x (nI k) = some a
  | _, _, 0, _, _, h => absurd h (Nat.not_lt_zero _)
  | 0, k, fuel + 1, x, h1, h2 => by
    have hL := hl.2.2.1
    refine ⟨x, ?_, ?_⟩
    · rw [f_Bl_odds_L39, hl.2.1]
      repeat (first | (with_reducible refine zletE ?_) | (with_reducible refine zifn ?_ ?_; · (first | with_reducible assumption | decide | (simp (disch := omega) only [zlit, nI_add, pk_mul, pk_sub, zsubm, nI_clamp, nI_leI, nI_ltI, nI_eq, zeqF, Nat.reduceEqDiff, zleF, zleT, zltF, zltT, zneg1, zneg1L, zneg2, zneg0, eq_self, or_self, false_or, or_false, Nat.not_lt_zero, not_false_eq_true, not_true_eq_false]; done))) | (with_reducible refine zifp ?_ ?_; · (first | with_reducible assumption | decide | (simp (disch := omega) only [zlit, nI_add, pk_mul, pk_sub, zsubm, nI_clamp, nI_leI, nI_ltI, nI_eq, zeqF, Nat.reduceEqDiff, zleF, zleT, zltF, zltT, zneg1, zneg1L, zneg2, zneg0, eq_self, or_self, false_or, or_false, Nat.not_lt_zero, not_false_eq_true, not_true_eq_false]; done))) | (with_reducible refine bnd (x := some _) rfl ?_))
      rfl
    · rw [f_R_odds_L35, hl.1]
      repeat (first | (with_reducible refine zletE ?_) | (with_reducible refine zifn ?_ ?_; · (first | with_reducible assumption | decide | (simp (disch := omega) only [zlit, nI_add, pk_mul, pk_sub, zsubm, nI_clamp, nI_leI, nI_ltI, nI_eq, zeqF, Nat.reduceEqDiff, zleF, zleT, zltF, zltT, zneg1, zneg1L, zneg2, zneg0, eq_self, or_self, false_or, or_false, Nat.not_lt_zero, not_false_eq_true, not_true_eq_false]; done))) | (with_reducible refine zifp ?_ ?_; · (first | with_reducible assumption | decide | (simp (disch := omega) only [zlit, nI_add, pk_mul, pk_sub, zsubm, nI_clamp, nI_leI, nI_ltI, nI_eq, zeqF, Nat.reduceEqDiff, zleF, zleT, zltF, zltT, zneg1, zneg1L, zneg2, zneg0, eq_self, or_self, false_or, or_false, Nat.not_lt_zero, not_false_eq_true, not_true_eq_false]; done))) | (with_reducible refine bnd (x := some _) rfl ?_))
      rfl
  | r + 1, k, fuel + 1, x, h1, h2 => by
    have hL := hl.2.2.1
    have e1 := selfIn_ok (N := N) hl.2.1 hL (show k < L by omega) (show l < 6 by omega)
    have e2 := rselfOf_ok (N := N) hl (show k < L by omega) hl2
    obtain ⟨a, q1, q2⟩ := odds_loop N h6 hl hl2 r (k + 1) fuel (if rowOf v9 k l = y1 then x + 1 else x) (by omega) (by omega)
    refine ⟨a, ?_, ?_⟩
    · rw [f_Bl_odds_L39, hl.2.1, show nI k + 1 = nI (k + 1) from nI_1 k]
      repeat (first | (with_reducible refine zletE ?_) | (with_reducible refine zifn ?_ ?_; · (first | with_reducible assumption | decide | (simp (disch := omega) only [zlit, nI_add, pk_mul, pk_sub, zsubm, nI_clamp, nI_leI, nI_ltI, nI_eq, zeqF, Nat.reduceEqDiff, zleF, zleT, zltF, zltT, zneg1, zneg1L, zneg2, zneg0, eq_self, or_self, false_or, or_false, Nat.not_lt_zero, not_false_eq_true, not_true_eq_false]; done))) | (with_reducible refine zifp ?_ ?_; · (first | with_reducible assumption | decide | (simp (disch := omega) only [zlit, nI_add, pk_mul, pk_sub, zsubm, nI_clamp, nI_leI, nI_ltI, nI_eq, zeqF, Nat.reduceEqDiff, zleF, zleT, zltF, zltT, zneg1, zneg1L, zneg2, zneg0, eq_self, or_self, false_or, or_false, Nat.not_lt_zero, not_false_eq_true, not_true_eq_false]; done))) | (with_reducible refine bnd (e1) ?_) | (with_reducible refine bnd (x := some _) rfl ?_))
      exact q1
    · rw [f_R_odds_L35, hl.1, show nI k + 1 = nI (k + 1) from nI_1 k]
      repeat (first | (with_reducible refine zletE ?_) | (with_reducible refine zifn ?_ ?_; · (first | with_reducible assumption | decide | (simp (disch := omega) only [zlit, nI_add, pk_mul, pk_sub, zsubm, nI_clamp, nI_leI, nI_ltI, nI_eq, zeqF, Nat.reduceEqDiff, zleF, zleT, zltF, zltT, zneg1, zneg1L, zneg2, zneg0, eq_self, or_self, false_or, or_false, Nat.not_lt_zero, not_false_eq_true, not_true_eq_false]; done))) | (with_reducible refine zifp ?_ ?_; · (first | with_reducible assumption | decide | (simp (disch := omega) only [zlit, nI_add, pk_mul, pk_sub, zsubm, nI_clamp, nI_leI, nI_ltI, nI_eq, zeqF, Nat.reduceEqDiff, zleF, zleT, zltF, zltT, zneg1, zneg1L, zneg2, zneg0, eq_self, or_self, false_or, or_false, Nat.not_lt_zero, not_false_eq_true, not_true_eq_false]; done))) | (with_reducible refine bnd (e2) ?_) | (with_reducible refine bnd (x := some _) rfl ?_))
      have e3 : x + (if rowOf v9 k l = y1 then 1 else 0) = (if rowOf v9 k l = y1 then x + 1 else x) := by
        split
        · rfl
        · grind
      rw [e3]
      exact q2
theorem q_odds {N : Nat} (hN : 10000 ≤ N) {v0 : VBl} {v1 : VTape} {v2 : VTown} {v3 : VLaws} {v4 : VReader} {v5 : VTown} {v6 : VLaws} {v7 : VYear} {v8 : VYear} {v9 : VLots} {v10 : VLives} {v11 : VLives} {v13 : VTales} {v17 : VForecast} {v18 : VLives} {v19 : VDeeds} {v20 : VPairs} {und mls : Nat → VLives} {mts : Nat → VTales} {w : VR} {P L g : Nat} (h : RELx P L g v0 v1 v2 v3 v7 v9 v10 v13 v17 und mls mts w) (a1 a2 : Int32) : ∃ a, f_Bl_odds N v0 v1 v2 v3 v4 v5 v6 v7 v8 v9 v10 v11 v13 v17 v18 v19 v20 und mls mts a1 a2 = some a ∧ f_R_odds N w a1 a2 = some (a, 0) := by
  obtain ⟨⟨hT, hB, hG, -⟩, hl, -⟩ := h
  have h6 := hT.1.2
  have hL := hl.2.2.1
  have hT' : townR (R_thrown_s w 0) v2 v3 P := hT
  have hl' : lotsR (R_thrown_s w 0) v9 P L := hl
  unfold f_Bl_odds f_R_odds
  rw [hl.1, hl.2.1]
  rcases isPerson_both (N := N) hT' a1 with ⟨e1, e2⟩ | ⟨p, hp, rfl, e1, e2⟩
  · refine ⟨-1, ?_, ?_⟩
    · repeat (first | (with_reducible refine zletE ?_) | (with_reducible refine zifn ?_ ?_; · (first | with_reducible assumption | decide | (simp (disch := omega) only [zlit, nI_add, pk_mul, pk_sub, zsubm, nI_clamp, nI_leI, nI_ltI, nI_eq, zeqF, Nat.reduceEqDiff, zleF, zleT, zltF, zltT, zneg1, zneg1L, zneg2, zneg0, eq_self, or_self, false_or, or_false, Nat.not_lt_zero, not_false_eq_true, not_true_eq_false]; done))) | (with_reducible refine zifp ?_ ?_; · (first | with_reducible assumption | decide | (simp (disch := omega) only [zlit, nI_add, pk_mul, pk_sub, zsubm, nI_clamp, nI_leI, nI_ltI, nI_eq, zeqF, Nat.reduceEqDiff, zleF, zleT, zltF, zltT, zneg1, zneg1L, zneg2, zneg0, eq_self, or_self, false_or, or_false, Nat.not_lt_zero, not_false_eq_true, not_true_eq_false]; done))) | (with_reducible refine bnd (e1) ?_) | (with_reducible refine bnd (x := some _) rfl ?_))
      rfl
    · repeat (first | (with_reducible refine zletE ?_) | (with_reducible refine zifn ?_ ?_; · (first | with_reducible assumption | decide | (simp (disch := omega) only [zlit, nI_add, pk_mul, pk_sub, zsubm, nI_clamp, nI_leI, nI_ltI, nI_eq, zeqF, Nat.reduceEqDiff, zleF, zleT, zltF, zltT, zneg1, zneg1L, zneg2, zneg0, eq_self, or_self, false_or, or_false, Nat.not_lt_zero, not_false_eq_true, not_true_eq_false]; done))) | (with_reducible refine zifp ?_ ?_; · (first | with_reducible assumption | decide | (simp (disch := omega) only [zlit, nI_add, pk_mul, pk_sub, zsubm, nI_clamp, nI_leI, nI_ltI, nI_eq, zeqF, Nat.reduceEqDiff, zleF, zleT, zltF, zltT, zneg1, zneg1L, zneg2, zneg0, eq_self, or_self, false_or, or_false, Nat.not_lt_zero, not_false_eq_true, not_true_eq_false]; done))) | (with_reducible refine bnd (e2) ?_) | (with_reducible refine bnd (x := some _) rfl ?_))
      rfl
  · rcases isPerson_both (N := N) hT' a2 with ⟨g1, g2⟩ | ⟨l, hl2, rfl, g1, g2⟩
    · refine ⟨-1, ?_, ?_⟩
      · repeat (first | (with_reducible refine zletE ?_) | (with_reducible refine zifn ?_ ?_; · (first | with_reducible assumption | decide | (simp (disch := omega) only [zlit, nI_add, pk_mul, pk_sub, zsubm, nI_clamp, nI_leI, nI_ltI, nI_eq, zeqF, Nat.reduceEqDiff, zleF, zleT, zltF, zltT, zneg1, zneg1L, zneg2, zneg0, eq_self, or_self, false_or, or_false, Nat.not_lt_zero, not_false_eq_true, not_true_eq_false]; done))) | (with_reducible refine zifp ?_ ?_; · (first | with_reducible assumption | decide | (simp (disch := omega) only [zlit, nI_add, pk_mul, pk_sub, zsubm, nI_clamp, nI_leI, nI_ltI, nI_eq, zeqF, Nat.reduceEqDiff, zleF, zleT, zltF, zltT, zneg1, zneg1L, zneg2, zneg0, eq_self, or_self, false_or, or_false, Nat.not_lt_zero, not_false_eq_true, not_true_eq_false]; done))) | (with_reducible refine bnd (e1) ?_) | (with_reducible refine bnd (g1) ?_) | (with_reducible refine bnd (x := some _) rfl ?_))
        rfl
      · repeat (first | (with_reducible refine zletE ?_) | (with_reducible refine zifn ?_ ?_; · (first | with_reducible assumption | decide | (simp (disch := omega) only [zlit, nI_add, pk_mul, pk_sub, zsubm, nI_clamp, nI_leI, nI_ltI, nI_eq, zeqF, Nat.reduceEqDiff, zleF, zleT, zltF, zltT, zneg1, zneg1L, zneg2, zneg0, eq_self, or_self, false_or, or_false, Nat.not_lt_zero, not_false_eq_true, not_true_eq_false]; done))) | (with_reducible refine zifp ?_ ?_; · (first | with_reducible assumption | decide | (simp (disch := omega) only [zlit, nI_add, pk_mul, pk_sub, zsubm, nI_clamp, nI_leI, nI_ltI, nI_eq, zeqF, Nat.reduceEqDiff, zleF, zleT, zltF, zltT, zneg1, zneg1L, zneg2, zneg0, eq_self, or_self, false_or, or_false, Nat.not_lt_zero, not_false_eq_true, not_true_eq_false]; done))) | (with_reducible refine bnd (e2) ?_) | (with_reducible refine bnd (g2) ?_) | (with_reducible refine bnd (x := some _) rfl ?_))
        rfl
    · by_cases hz : L = 0
      · have hz2 : ¬ 0 < nI L := by rw [hz]; decide
        have hz3 : nI L = 0 := by rw [hz]; rfl
        refine ⟨-1, ?_, ?_⟩
        · repeat (first | (with_reducible refine zletE ?_) | (with_reducible refine zifn ?_ ?_; · (first | with_reducible assumption | decide | (simp (disch := omega) only [zlit, nI_add, pk_mul, pk_sub, zsubm, nI_clamp, nI_leI, nI_ltI, nI_eq, zeqF, Nat.reduceEqDiff, zleF, zleT, zltF, zltT, zneg1, zneg1L, zneg2, zneg0, eq_self, or_self, false_or, or_false, Nat.not_lt_zero, not_false_eq_true, not_true_eq_false]; done))) | (with_reducible refine zifp ?_ ?_; · (first | with_reducible assumption | decide | (simp (disch := omega) only [zlit, nI_add, pk_mul, pk_sub, zsubm, nI_clamp, nI_leI, nI_ltI, nI_eq, zeqF, Nat.reduceEqDiff, zleF, zleT, zltF, zltT, zneg1, zneg1L, zneg2, zneg0, eq_self, or_self, false_or, or_false, Nat.not_lt_zero, not_false_eq_true, not_true_eq_false]; done))) | (with_reducible refine bnd (e1) ?_) | (with_reducible refine bnd (g1) ?_) | (with_reducible refine bnd (x := some _) rfl ?_))
          rfl
        · repeat (first | (with_reducible refine zletE ?_) | (with_reducible refine zifn ?_ ?_; · (first | with_reducible assumption | decide | (simp (disch := omega) only [zlit, nI_add, pk_mul, pk_sub, zsubm, nI_clamp, nI_leI, nI_ltI, nI_eq, zeqF, Nat.reduceEqDiff, zleF, zleT, zltF, zltT, zneg1, zneg1L, zneg2, zneg0, eq_self, or_self, false_or, or_false, Nat.not_lt_zero, not_false_eq_true, not_true_eq_false]; done))) | (with_reducible refine zifp ?_ ?_; · (first | with_reducible assumption | decide | (simp (disch := omega) only [zlit, nI_add, pk_mul, pk_sub, zsubm, nI_clamp, nI_leI, nI_ltI, nI_eq, zeqF, Nat.reduceEqDiff, zleF, zleT, zltF, zltT, zneg1, zneg1L, zneg2, zneg0, eq_self, or_self, false_or, or_false, Nat.not_lt_zero, not_false_eq_true, not_true_eq_false]; done))) | (with_reducible refine bnd (e2) ?_) | (with_reducible refine bnd (g2) ?_) | (with_reducible refine bnd (x := some _) rfl ?_))
          rfl
      · obtain ⟨a, q1, q2⟩ := odds_loop N (v0 := v0) (v1 := v1) (v2 := v2) (v3 := v3) (v4 := v4) (v5 := v5) (v6 := v6) (v7 := v7) (v8 := v8) (v10 := v10) (v11 := v11) (v13 := v13) (v17 := v17) (v18 := v18) (v19 := v19) (v20 := v20) (und := und) (mls := mls) (mts := mts) (w := R_thrown_s w 0) (y1 := nI p) h6 hl' hl2 L 0 N 0 (by omega) (by omega)
        have q1 : f_Bl_odds_L39 N N v0 v1 v2 v3 v4 v5 v6 v7 v8 v9 v10 v11 v13 v17 v18 v19 v20 und mls mts (nI p) (nI l) 0 0 = some a := q1
        have q2 : f_R_odds_L35 N N (R_thrown_s w 0) (nI p) (nI l) 0 0 = some a := q2
        have hz2 : 0 < nI L := nI_lt (a := 0) (by omega) (by omega)
        have hz3 : ¬ nI L = 0 := nI_ne0 (by omega) (by omega)
        refine ⟨a * 1000000 / nI L, ?_, ?_⟩
        · repeat (first | (with_reducible refine zletE ?_) | (with_reducible refine zifn ?_ ?_; · (first | with_reducible assumption | decide | (simp (disch := omega) only [zlit, nI_add, pk_mul, pk_sub, zsubm, nI_clamp, nI_leI, nI_ltI, nI_eq, zeqF, Nat.reduceEqDiff, zleF, zleT, zltF, zltT, zneg1, zneg1L, zneg2, zneg0, eq_self, or_self, false_or, or_false, Nat.not_lt_zero, not_false_eq_true, not_true_eq_false]; done))) | (with_reducible refine zifp ?_ ?_; · (first | with_reducible assumption | decide | (simp (disch := omega) only [zlit, nI_add, pk_mul, pk_sub, zsubm, nI_clamp, nI_leI, nI_ltI, nI_eq, zeqF, Nat.reduceEqDiff, zleF, zleT, zltF, zltT, zneg1, zneg1L, zneg2, zneg0, eq_self, or_self, false_or, or_false, Nat.not_lt_zero, not_false_eq_true, not_true_eq_false]; done))) | (with_reducible refine bnd (e1) ?_) | (with_reducible refine bnd (g1) ?_) | (with_reducible refine bnd (q1) ?_) | (with_reducible refine bnd (x := some _) rfl ?_))
          rfl
        · repeat (first | (with_reducible refine zletE ?_) | (with_reducible refine zifn ?_ ?_; · (first | with_reducible assumption | decide | (simp (disch := omega) only [zlit, nI_add, pk_mul, pk_sub, zsubm, nI_clamp, nI_leI, nI_ltI, nI_eq, zeqF, Nat.reduceEqDiff, zleF, zleT, zltF, zltT, zneg1, zneg1L, zneg2, zneg0, eq_self, or_self, false_or, or_false, Nat.not_lt_zero, not_false_eq_true, not_true_eq_false]; done))) | (with_reducible refine zifp ?_ ?_; · (first | with_reducible assumption | decide | (simp (disch := omega) only [zlit, nI_add, pk_mul, pk_sub, zsubm, nI_clamp, nI_leI, nI_ltI, nI_eq, zeqF, Nat.reduceEqDiff, zleF, zleT, zltF, zltT, zneg1, zneg1L, zneg2, zneg0, eq_self, or_self, false_or, or_false, Nat.not_lt_zero, not_false_eq_true, not_true_eq_false]; done))) | (with_reducible refine bnd (e2) ?_) | (with_reducible refine bnd (g2) ?_) | (with_reducible refine bnd (q2) ?_) | (with_reducible refine bnd (x := some _) rfl ?_))
          rfl
theorem rpurses_loop (N : Nat) {w : VR} {v1 : VTown} {v2 : VLaws} {v : VLives} {P b : Nat} (hb : b ≤ 1584) (hT : townR w v1 v2 P) (h : LR P b (R_state w) v) : ∀ (r k fuel : Nat) (a : Int32), k + r = P → r < fuel → f_R_pursesOf_L4 N fuel w (nI b) a (nI k) = some (sumN (Lives_purse v) r k a)
  | _, _, 0, _, _, h => absurd h (Nat.not_lt_zero _)
  | 0, k, fuel + 1, a, h1, h2 => by
    have h6 := hT.1.2
    have hpe := people_ok (N := N) hT
    rw [f_R_pursesOf_L4]
    repeat (first | (with_reducible refine zletE ?_) | (with_reducible refine zifn ?_ ?_; · (first | with_reducible assumption | decide | (simp (disch := omega) only [zlit, nI_add, pk_mul, pk_sub, zsubm, nI_clamp, nI_leI, nI_ltI, nI_eq, zeqF, Nat.reduceEqDiff, zleF, zleT, zltF, zltT, zneg1, zneg1L, zneg2, zneg0, eq_self, or_self, false_or, or_false, Nat.not_lt_zero, not_false_eq_true, not_true_eq_false]; done))) | (with_reducible refine zifp ?_ ?_; · (first | with_reducible assumption | decide | (simp (disch := omega) only [zlit, nI_add, pk_mul, pk_sub, zsubm, nI_clamp, nI_leI, nI_ltI, nI_eq, zeqF, Nat.reduceEqDiff, zleF, zleT, zltF, zltT, zneg1, zneg1L, zneg2, zneg0, eq_self, or_self, false_or, or_false, Nat.not_lt_zero, not_false_eq_true, not_true_eq_false]; done))) | (with_reducible refine bnd (hpe) ?_) | (with_reducible refine bnd (x := some _) rfl ?_))
    rfl
  | r + 1, k, fuel + 1, a, h1, h2 => by
    have h6 := hT.1.2
    have hpe := people_ok (N := N) hT
    rw [f_R_pursesOf_L4, show Int32.toNatClampNeg ((nI b + 4) + nI k) = b + 4 + k from ix (c := 4) (by omega), (h.1 k (by omega)).1, show nI k + 1 = nI (k + 1) from nI_1 k]
    repeat (first | (with_reducible refine zletE ?_) | (with_reducible refine zifn ?_ ?_; · (first | with_reducible assumption | decide | (simp (disch := omega) only [zlit, nI_add, pk_mul, pk_sub, zsubm, nI_clamp, nI_leI, nI_ltI, nI_eq, zeqF, Nat.reduceEqDiff, zleF, zleT, zltF, zltT, zneg1, zneg1L, zneg2, zneg0, eq_self, or_self, false_or, or_false, Nat.not_lt_zero, not_false_eq_true, not_true_eq_false]; done))) | (with_reducible refine zifp ?_ ?_; · (first | with_reducible assumption | decide | (simp (disch := omega) only [zlit, nI_add, pk_mul, pk_sub, zsubm, nI_clamp, nI_leI, nI_ltI, nI_eq, zeqF, Nat.reduceEqDiff, zleF, zleT, zltF, zltT, zneg1, zneg1L, zneg2, zneg0, eq_self, or_self, false_or, or_false, Nat.not_lt_zero, not_false_eq_true, not_true_eq_false]; done))) | (with_reducible refine bnd (hpe) ?_) | (with_reducible refine bnd (x := some _) rfl ?_))
    exact rpurses_loop N hb hT h r (k + 1) fuel _ (by omega) (by omega)
theorem rpurses_ok {N : Nat} (hN : 10000 ≤ N) {w : VR} {v1 : VTown} {v2 : VLaws} {v : VLives} {P b : Nat} (hb : b ≤ 1584) (hT : townR w v1 v2 P) (h : LR P b (R_state w) v) : f_R_pursesOf N w (nI b) = some (sumN (Lives_purse v) P 0 0) := by
  have h6 := hT.1.2
  unfold f_R_pursesOf
  rw [show f_R_pursesOf_L4 N N w (nI b) 0 0 = _ from rpurses_loop N hb hT h P 0 N 0 (by omega) (by omega)]
  rfl
theorem rdebts_loop (N : Nat) {w : VR} {v1 : VTown} {v2 : VLaws} {v : VLives} {P : Nat} (hT : townR w v1 v2 P) (h : LR P 0 (R_state w) v) : ∀ (r k fuel : Nat) (a : Int32), k + r = P → r < fuel → f_R_debtsOf_L4 N fuel w a (nI k) = some (sumN (Lives_debt v) r k a)
  | _, _, 0, _, _, h => absurd h (Nat.not_lt_zero _)
  | 0, k, fuel + 1, a, h1, h2 => by
    have h6 := hT.1.2
    have hpe := people_ok (N := N) hT
    rw [f_R_debtsOf_L4]
    repeat (first | (with_reducible refine zletE ?_) | (with_reducible refine zifn ?_ ?_; · (first | with_reducible assumption | decide | (simp (disch := omega) only [zlit, nI_add, pk_mul, pk_sub, zsubm, nI_clamp, nI_leI, nI_ltI, nI_eq, zeqF, Nat.reduceEqDiff, zleF, zleT, zltF, zltT, zneg1, zneg1L, zneg2, zneg0, eq_self, or_self, false_or, or_false, Nat.not_lt_zero, not_false_eq_true, not_true_eq_false]; done))) | (with_reducible refine zifp ?_ ?_; · (first | with_reducible assumption | decide | (simp (disch := omega) only [zlit, nI_add, pk_mul, pk_sub, zsubm, nI_clamp, nI_leI, nI_ltI, nI_eq, zeqF, Nat.reduceEqDiff, zleF, zleT, zltF, zltT, zneg1, zneg1L, zneg2, zneg0, eq_self, or_self, false_or, or_false, Nat.not_lt_zero, not_false_eq_true, not_true_eq_false]; done))) | (with_reducible refine bnd (hpe) ?_) | (with_reducible refine bnd (x := some _) rfl ?_))
    rfl
  | r + 1, k, fuel + 1, a, h1, h2 => by
    have h6 := hT.1.2
    have hpe := people_ok (N := N) hT
    have e1 : R_state w (10 + k) = Lives_debt v k := by rw [← show 0 + 10 + k = 10 + k by omega]; exact (h.1 k (by omega)).2.1
    rw [f_R_debtsOf_L4, show (10 : Int32) + nI k = nI (10 + k) from nI_add 10 k, nI_clamp (n := 10 + k) (by omega), e1, show nI k + 1 = nI (k + 1) from nI_1 k]
    repeat (first | (with_reducible refine zletE ?_) | (with_reducible refine zifn ?_ ?_; · (first | with_reducible assumption | decide | (simp (disch := omega) only [zlit, nI_add, pk_mul, pk_sub, zsubm, nI_clamp, nI_leI, nI_ltI, nI_eq, zeqF, Nat.reduceEqDiff, zleF, zleT, zltF, zltT, zneg1, zneg1L, zneg2, zneg0, eq_self, or_self, false_or, or_false, Nat.not_lt_zero, not_false_eq_true, not_true_eq_false]; done))) | (with_reducible refine zifp ?_ ?_; · (first | with_reducible assumption | decide | (simp (disch := omega) only [zlit, nI_add, pk_mul, pk_sub, zsubm, nI_clamp, nI_leI, nI_ltI, nI_eq, zeqF, Nat.reduceEqDiff, zleF, zleT, zltF, zltT, zneg1, zneg1L, zneg2, zneg0, eq_self, or_self, false_or, or_false, Nat.not_lt_zero, not_false_eq_true, not_true_eq_false]; done))) | (with_reducible refine bnd (hpe) ?_) | (with_reducible refine bnd (x := some _) rfl ?_))
    exact rdebts_loop N hT h r (k + 1) fuel _ (by omega) (by omega)
theorem rdebts_ok {N : Nat} (hN : 10000 ≤ N) {w : VR} {v1 : VTown} {v2 : VLaws} {v : VLives} {P : Nat} (hT : townR w v1 v2 P) (h : LR P 0 (R_state w) v) : f_R_debtsOf N w = some (sumN (Lives_debt v) P 0 0) := by
  have h6 := hT.1.2
  unfold f_R_debtsOf
  rw [show f_R_debtsOf_L4 N N w 0 0 = _ from rdebts_loop N hT h P 0 N 0 (by omega) (by omega)]
  rfl
theorem q_count {N : Nat} (hN : 10000 ≤ N) {v0 : VBl} {v1 : VTape} {v2 : VTown} {v3 : VLaws} {v4 : VReader} {v5 : VTown} {v6 : VLaws} {v7 : VYear} {v8 : VYear} {v9 : VLots} {v10 : VLives} {v11 : VLives} {v13 : VTales} {v17 : VForecast} {v18 : VLives} {v19 : VDeeds} {v20 : VPairs} {und mls : Nat → VLives} {mts : Nat → VTales} {w : VR} {P L g : Nat} (h : RELx P L g v0 v1 v2 v3 v7 v9 v10 v13 v17 und mls mts w) (a1 : Int32) : ∃ a, f_Bl_count N v0 v1 v2 v3 v4 v5 v6 v7 v8 v9 v10 v11 v13 v17 v18 v19 v20 und mls mts a1 = some a ∧ f_R_count N w a1 = some (a, 0) := by
  obtain ⟨⟨hT, hB, hG, -⟩, hl, ⟨hR, hI⟩, hta, htl, hu, hm, hpl, hf⟩ := h
  have hT' : townR (R_thrown_s w 0) v2 v3 P := hT
  have hR' : LR P 0 (R_state (R_thrown_s w 0)) v10 := hR
  have e7 := rpurses_ok hN (b := 0) (by omega) hT' hR'
  have e7 : f_R_pursesOf N (R_thrown_s w 0) 0 = _ := e7
  have e8 := rdebts_ok hN hT' hR'
  have c7 := sumPurse_ok hN (v := v10) (v2 := v3) hT.1
  have c8 := sumDebt_ok hN (v := v10) (v2 := v3) hT.1
  obtain ⟨tn, -, t1, t2, -⟩ := hta
  obtain ⟨ln, -, l1, l2, -⟩ := htl
  obtain ⟨un, q, -, -, u1, u2, -⟩ := hu
  obtain ⟨pn, -, p1, p2, -⟩ := hpl
  unfold f_Bl_count f_R_count
  rw [e7, e8, c7, c8]
  have r0 : R_state w (Int32.toNatClampNeg 0) = Lives_away v10 := hR.2.1
  have r1 : R_state w (Int32.toNatClampNeg 1) = Lives_days v10 := hR.2.2.1
  have r2 : R_state w (Int32.toNatClampNeg 2) = Lives_homes v10 := hR.2.2.2.1
  have r3 : R_state w (Int32.toNatClampNeg 3) = Lives_harm v10 := hR.2.2.2.2.1
  have r46 : R_state w (Int32.toNatClampNeg 46) = nI ln := l2
  have rl : R_lines w (Int32.toNatClampNeg 0) = nI pn := p2
  rw [r0, r1, r2, r3, r46, rl, hT.1.1, hB.1, hG.2.1, t1, l1, u1, p1, u2, t2]
  by_cases c : a1 = 0
  · subst c
    exact ⟨nI P, rfl, congrArg (fun x => some (x, (0 : Int32))) hT.2.1⟩
  by_cases c1 : a1 = 1
  · subst c1
    exact ⟨R_towns w 1, rfl, rfl⟩
  by_cases c2 : a1 = 2
  · subst c2
    exact ⟨nI g, rfl, congrArg (fun x => some (x, (0 : Int32))) hG.2.2.1⟩
  by_cases c3 : a1 = 3
  · subst c3
    rcases hR.2.2.2.2.2.1 with ha | ha
    · rw [ha]
      exact ⟨0, rfl, rfl⟩
    · rw [ha]
      exact ⟨1, rfl, rfl⟩
  by_cases c4 : a1 = 4
  · subst c4; exact ⟨_, rfl, rfl⟩
  by_cases c5 : a1 = 5
  · subst c5; exact ⟨_, rfl, rfl⟩
  by_cases c6 : a1 = 6
  · subst c6; exact ⟨_, rfl, rfl⟩
  by_cases c7 : a1 = 7
  · subst c7; exact ⟨_, rfl, rfl⟩
  by_cases c8 : a1 = 8
  · subst c8; exact ⟨_, rfl, rfl⟩
  by_cases c9 : a1 = 9
  · subst c9; exact ⟨_, rfl, rfl⟩
  by_cases c10 : a1 = 10
  · subst c10; exact ⟨_, rfl, rfl⟩
  by_cases c11 : a1 = 11
  · subst c11; exact ⟨_, rfl, rfl⟩
  by_cases c12 : a1 = 12
  · subst c12; exact ⟨_, rfl, rfl⟩
  refine ⟨-1, ?_, ?_⟩
  · rw [if_neg c, if_neg c1, if_neg c2, if_neg c3, if_neg c4, if_neg c5, if_neg c6, if_neg c7, if_neg c8, if_neg c9, if_neg c10, if_neg c11, if_neg c12]
  · rw [if_neg c, if_neg c1, if_neg c2, if_neg c3, if_neg c4, if_neg c5, if_neg c6, if_neg c7, if_neg c8, if_neg c9, if_neg c10, if_neg c11, if_neg c12]
