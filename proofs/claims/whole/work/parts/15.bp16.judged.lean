/-! ===== a YEAR judged ===== -/
def startV (v2 : VTown) : VLives := (Town_purses v2, Town_debts v2, Town_homes v2, (fun _ => 0), (fun l => nI l), (fun _ => 0), (fun _ => 0), 0, 0, 0, 0)
theorem LI_start {P : Nat} {v2 : VTown} (h6 : P ≤ 6) (h : toldR v2 P) : LI P (startV v2) := by
  refine ⟨fun l hl => ?_, fun l _ => ⟨0, by omega, rfl⟩, fun l hl => ⟨l, hl, rfl⟩, fun l m hl hm e => (nI_eq (by omega) (by omega)).mp e, ⟨0, by omega, rfl⟩, fun _ l _ => rfl, fun l hl => (h l hl).2.2.1, fun e => absurd rfl e⟩
  obtain ⟨⟨n, hn, e1⟩, ⟨m, hm, e2⟩, -⟩ := h l hl
  exact ⟨⟨n, by omega, e1⟩, ⟨m, hm, e2⟩⟩
theorem begin_ev {N : Nat} (hN : 10000 ≤ N) {v : VLives} {v1 : VTown} {v2 : VLaws} : Ev (f_Lives_begin N v v1 v2) (fun q => AGP 6 (q.1, q.2.1, q.2.2.1, q.2.2.2.1, q.2.2.2.2.1, Lives_worthThen v, Lives_homeThen v, q.2.2.2.2.2.1, q.2.2.2.2.2.2.1, q.2.2.2.2.2.2.2.1, q.2.2.2.2.2.2.2.2) (startV v1)) := by
  unfold f_Lives_begin
  refine Ev.bnx (comeBack_ev hN) ?_
  rintro ⟨q1, q2, q3, q4⟩ ⟨c1, c2, c3⟩
  have c2 : q3 = 0 := c2
  repeat (first | (with_reducible refine Ev.letE ?_) | (with_reducible refine Ev.ifn ?_ ?_; · (first | with_reducible assumption | decide | (simp (disch := omega) only [zlit, nI_add, pk_mul, pk_sub, zsubm, nI_clamp, nI_leI, nI_ltI, nI_eq, zeqF, Nat.reduceEqDiff, zleF, zleT, zltF, zltT, zneg1, zneg1L, zneg2, zneg0, eq_self, or_self, false_or, or_false, Nat.not_lt_zero, not_false_eq_true, not_true_eq_false]; done))) | (with_reducible refine Ev.ifp ?_ ?_; · (first | with_reducible assumption | decide | (simp (disch := omega) only [zlit, nI_add, pk_mul, pk_sub, zsubm, nI_clamp, nI_leI, nI_ltI, nI_eq, zeqF, Nat.reduceEqDiff, zleF, zleT, zltF, zltT, zneg1, zneg1L, zneg2, zneg0, eq_self, or_self, false_or, or_false, Nat.not_lt_zero, not_false_eq_true, not_true_eq_false]; done))) | (with_reducible refine Ev.bnd (x := some _) rfl ?_))
  have hc : ∀ f g : Nat → Int32, ∀ l, l < 6 → va_cpy f g (Int32.toNatClampNeg 0) (Int32.toNatClampNeg 0) (Int32.toNatClampNeg 6) l = f l := fun f g l hl => by
    show (if 0 ≤ l ∧ l < 0 + 6 then f (0 + (l - 0)) else g l) = f l
    rw [if_pos ⟨by omega, by omega⟩, show 0 + (l - 0) = l by omega]
  refine Ev.ret ⟨fun l hl => ⟨hc _ _ l hl, hc _ _ l hl, hc _ _ l hl, (c1 l hl).1, (c1 l hl).2⟩, c2, c3, rfl, rfl, fun h => absurd c2 h⟩
theorem starts_zero (N : Nat) {w : VR} {b : Nat} (hb : b ≤ 1584) : ∀ (r k fuel : Nat) (st : Nat → Int32), k + r = 46 → r < fuel → Ev (f_R_starts_L2 N fuel w (nI b) (nI k) st) (fun q => (∀ j, k ≤ j → j < 46 → q (b + j) = 0) ∧ (∀ j, ¬ (b + k ≤ j ∧ j < b + 46) → q j = st j))
  | _, _, 0, _, _, h => absurd h (Nat.not_lt_zero _)
  | 0, k, fuel + 1, st, h1, h2 => by
    rw [f_R_starts_L2]
    repeat (first | (with_reducible refine Ev.letE ?_) | (with_reducible refine Ev.ifn ?_ ?_; · (first | with_reducible assumption | decide | (simp (disch := omega) only [zlit, nI_add, pk_mul, pk_sub, zsubm, nI_clamp, nI_leI, nI_ltI, nI_eq, zeqF, Nat.reduceEqDiff, zleF, zleT, zltF, zltT, zneg1, zneg1L, zneg2, zneg0, eq_self, or_self, false_or, or_false, Nat.not_lt_zero, not_false_eq_true, not_true_eq_false]; done))) | (with_reducible refine Ev.ifp ?_ ?_; · (first | with_reducible assumption | decide | (simp (disch := omega) only [zlit, nI_add, pk_mul, pk_sub, zsubm, nI_clamp, nI_leI, nI_ltI, nI_eq, zeqF, Nat.reduceEqDiff, zleF, zleT, zltF, zltT, zneg1, zneg1L, zneg2, zneg0, eq_self, or_self, false_or, or_false, Nat.not_lt_zero, not_false_eq_true, not_true_eq_false]; done))) | (with_reducible refine Ev.bnd (x := some _) rfl ?_))
    exact Ev.ret ⟨fun j h3 h4 => absurd h4 (by omega), fun j h3 => rfl⟩
  | r + 1, k, fuel + 1, st, h1, h2 => by
    rw [f_R_starts_L2, nI_add, nI_clamp (n := b + k) (by omega), show nI k + 1 = nI (k + 1) from nI_1 k]
    repeat (first | (with_reducible refine Ev.letE ?_) | (with_reducible refine Ev.ifn ?_ ?_; · (first | with_reducible assumption | decide | (simp (disch := omega) only [zlit, nI_add, pk_mul, pk_sub, zsubm, nI_clamp, nI_leI, nI_ltI, nI_eq, zeqF, Nat.reduceEqDiff, zleF, zleT, zltF, zltT, zneg1, zneg1L, zneg2, zneg0, eq_self, or_self, false_or, or_false, Nat.not_lt_zero, not_false_eq_true, not_true_eq_false]; done))) | (with_reducible refine Ev.ifp ?_ ?_; · (first | with_reducible assumption | decide | (simp (disch := omega) only [zlit, nI_add, pk_mul, pk_sub, zsubm, nI_clamp, nI_leI, nI_ltI, nI_eq, zeqF, Nat.reduceEqDiff, zleF, zleT, zltF, zltT, zneg1, zneg1L, zneg2, zneg0, eq_self, or_self, false_or, or_false, Nat.not_lt_zero, not_false_eq_true, not_true_eq_false]; done))) | (with_reducible refine Ev.bnd (x := some _) rfl ?_))
    refine (starts_zero N hb r (k + 1) fuel _ (by omega) (by omega)).mono ?_
    rintro q ⟨q1, q2⟩
    refine ⟨fun j h3 h4 => ?_, fun j h3 => ?_⟩
    · by_cases e : j = k
      · subst e; rw [q2 _ (by omega), pk_us]
      · exact q1 j (by omega) h4
    · rw [q2 j (by omega), pk_un (by omega)]
theorem starts_loop (N : Nat) {w : VR} {v1 : VTown} {v2 : VLaws} {P b : Nat} (hb : b ≤ 1584) (hT : townR w v1 v2 P) : ∀ (r k fuel : Nat) (st : Nat → Int32), k + r = P → r < fuel → Ev (f_R_starts_L25 N fuel w (nI b) (nI k) st) (fun q => (∀ l, k ≤ l → l < P → q (b + 4 + l) = Town_purses v1 l ∧ q (b + 10 + l) = Town_debts v1 l ∧ q (b + 16 + l) = Town_homes v1 l ∧ q (b + 28 + l) = nI l) ∧ (∀ j, (∀ l, k ≤ l → l < P → ¬ j = b + 4 + l ∧ ¬ j = b + 10 + l ∧ ¬ j = b + 16 + l ∧ ¬ j = b + 28 + l) → q j = st j))
  | _, _, 0, _, _, h => absurd h (Nat.not_lt_zero _)
  | 0, k, fuel + 1, st, h1, h2 => by
    have h6 := hT.1.2
    rw [f_R_starts_L25]
    have hpe := people_ok (N := N) (w := R_state_s w st) hT
    repeat (first | (with_reducible refine Ev.letE ?_) | (with_reducible refine Ev.ifn ?_ ?_; · (first | with_reducible assumption | decide | (simp (disch := omega) only [zlit, nI_add, pk_mul, pk_sub, zsubm, nI_clamp, nI_leI, nI_ltI, nI_eq, zeqF, Nat.reduceEqDiff, zleF, zleT, zltF, zltT, zneg1, zneg1L, zneg2, zneg0, eq_self, or_self, false_or, or_false, Nat.not_lt_zero, not_false_eq_true, not_true_eq_false]; done))) | (with_reducible refine Ev.ifp ?_ ?_; · (first | with_reducible assumption | decide | (simp (disch := omega) only [zlit, nI_add, pk_mul, pk_sub, zsubm, nI_clamp, nI_leI, nI_ltI, nI_eq, zeqF, Nat.reduceEqDiff, zleF, zleT, zltF, zltT, zneg1, zneg1L, zneg2, zneg0, eq_self, or_self, false_or, or_false, Nat.not_lt_zero, not_false_eq_true, not_true_eq_false]; done))) | (with_reducible refine Ev.bnd (hpe) ?_) | (with_reducible refine Ev.bnd (x := some _) rfl ?_))
    exact Ev.ret ⟨fun l h3 h4 => absurd h4 (by omega), fun j h3 => rfl⟩
  | r + 1, k, fuel + 1, st, h1, h2 => by
    have h6 := hT.1.2
    have hpe := people_ok (N := N) (w := R_state_s w st) hT
    have p2 : ∀ s, f_R_personOf N (R_state_s w s) (nI k) 2 = some (Town_purses v1 k) := fun s => (person_at (w := R_state_s w s) hT (show k < P by omega)).2.2.1
    have p3 : ∀ s, f_R_personOf N (R_state_s w s) (nI k) 3 = some (Town_debts v1 k) := fun s => (person_at (w := R_state_s w s) hT (show k < P by omega)).2.2.2.1
    have p4 : ∀ s, f_R_personOf N (R_state_s w s) (nI k) 4 = some (Town_homes v1 k) := fun s => (person_at (w := R_state_s w s) hT (show k < P by omega)).2.2.2.2
    rw [f_R_starts_L25, show Int32.toNatClampNeg ((nI b + 28) + nI k) = b + 28 + k from ix (c := 28) (by omega), show Int32.toNatClampNeg ((nI b + 4) + nI k) = b + 4 + k from ix (c := 4) (by omega), show Int32.toNatClampNeg ((nI b + 10) + nI k) = b + 10 + k from ix (c := 10) (by omega), show Int32.toNatClampNeg ((nI b + 16) + nI k) = b + 16 + k from ix (c := 16) (by omega), show nI k + 1 = nI (k + 1) from nI_1 k]
    refine Ev.bnd hpe ?_
    refine Ev.ifn (by first | with_reducible assumption | decide | (simp (disch := omega) only [zlit, nI_add, pk_mul, pk_sub, zsubm, nI_clamp, nI_leI, nI_ltI, nI_eq, zeqF, Nat.reduceEqDiff, zleF, zleT, zltF, zltT, zneg1, zneg1L, zneg2, zneg0, eq_self, or_self, false_or, or_false, Nat.not_lt_zero, not_false_eq_true, not_true_eq_false]; done)) ?_
    refine Ev.bnd (p2 _) ?_
    refine Ev.ifn (by first | with_reducible assumption | decide | (simp (disch := omega) only [zlit, nI_add, pk_mul, pk_sub, zsubm, nI_clamp, nI_leI, nI_ltI, nI_eq, zeqF, Nat.reduceEqDiff, zleF, zleT, zltF, zltT, zneg1, zneg1L, zneg2, zneg0, eq_self, or_self, false_or, or_false, Nat.not_lt_zero, not_false_eq_true, not_true_eq_false]; done)) ?_
    refine Ev.bnd (p3 _) ?_
    refine Ev.letE ?_
    refine Ev.ifn (by first | with_reducible assumption | decide | (simp (disch := omega) only [zlit, nI_add, pk_mul, pk_sub, zsubm, nI_clamp, nI_leI, nI_ltI, nI_eq, zeqF, Nat.reduceEqDiff, zleF, zleT, zltF, zltT, zneg1, zneg1L, zneg2, zneg0, eq_self, or_self, false_or, or_false, Nat.not_lt_zero, not_false_eq_true, not_true_eq_false]; done)) ?_
    refine Ev.bnd (p4 _) ?_
    refine Ev.letE ?_
    refine Ev.ifn (by first | with_reducible assumption | decide | (simp (disch := omega) only [zlit, nI_add, pk_mul, pk_sub, zsubm, nI_clamp, nI_leI, nI_ltI, nI_eq, zeqF, Nat.reduceEqDiff, zleF, zleT, zltF, zltT, zneg1, zneg1L, zneg2, zneg0, eq_self, or_self, false_or, or_false, Nat.not_lt_zero, not_false_eq_true, not_true_eq_false]; done)) ?_
    refine Ev.ifn (by first | with_reducible assumption | decide | (simp (disch := omega) only [zlit, nI_add, pk_mul, pk_sub, zsubm, nI_clamp, nI_leI, nI_ltI, nI_eq, zeqF, Nat.reduceEqDiff, zleF, zleT, zltF, zltT, zneg1, zneg1L, zneg2, zneg0, eq_self, or_self, false_or, or_false, Nat.not_lt_zero, not_false_eq_true, not_true_eq_false]; done)) ?_
    refine (starts_loop N hb hT r (k + 1) fuel _ (by omega) (by omega)).mono ?_
    rintro q ⟨q1, q2⟩
    refine ⟨fun l h3 h4 => ?_, fun j h3 => ?_⟩
    · by_cases e : l = k
      · subst e
        refine ⟨?_, ?_, ?_, ?_⟩
        · rw [q2 _ (fun i hi hi2 => by omega), pk_un (by omega), pk_un (by omega), pk_un (by omega), pk_us]
        · rw [q2 _ (fun i hi hi2 => by omega), pk_un (by omega), pk_un (by omega), pk_us]
        · rw [q2 _ (fun i hi hi2 => by omega), pk_un (by omega), pk_us]
        · rw [q2 _ (fun i hi hi2 => by omega), pk_us]
      · exact q1 l (by omega) h4
    · have h5 := h3 k (Nat.le_refl _) (by omega)
      rw [q2 j (fun l hl hl2 => h3 l (by omega) hl2), pk_un h5.2.2.2, pk_un h5.2.2.1, pk_un h5.2.1, pk_un h5.1]
theorem starts_ev {N : Nat} (hN : 10000 ≤ N) {w : VR} {v1 : VTown} {v2 : VLaws} {P b : Nat} (hb : b ≤ 1584) (hT : townR w v1 v2 P) : Ev (f_R_starts N w (nI b)) (fun q => LR P b q (startV v1) ∧ Fr b (b + 46) (R_state w) q) := by
  have h6 := hT.1.2
  unfold f_R_starts
  refine Ev.bnx (starts_zero N hb 46 0 N (R_state w) (by omega) (by omega)) ?_
  rintro s1 ⟨a1, a2⟩
  refine Ev.bnx (starts_loop N (w := R_state_s w s1) hb hT P 0 N s1 (by omega) (by omega)) ?_
  rintro s2 ⟨b1, b2⟩
  refine Ev.ret ⟨⟨fun l hl => ?_, ?_, ?_, ?_, ?_, Or.inl rfl, fun e => absurd rfl e⟩, fun j hj => ?_⟩
  · obtain ⟨c1, c2, c3, c4⟩ := b1 l (by omega) hl
    refine ⟨c1, c2, c3, ?_, c4⟩
    rw [b2 _ (fun i _ hi => by omega), show b + 22 + l = b + (22 + l) by omega]
    exact a1 _ (by omega) (by omega)
  · rw [b2 _ (fun i _ hi => by omega)]; exact a1 0 (by omega) (by omega)
  · rw [b2 _ (fun i _ hi => by omega)]; exact a1 1 (by omega) (by omega)
  · rw [b2 _ (fun i _ hi => by omega)]; exact a1 2 (by omega) (by omega)
  · rw [b2 _ (fun i _ hi => by omega)]; exact a1 3 (by omega) (by omega)
  · rw [b2 _ (fun i _ hi => by omega), a2 _ (by omega)]
theorem hide_both {N : Nat} {w : VR} {v : VLives} {v2 : VTown} {v3 : VLaws} {P b l c : Nat} (hb : b ≤ 1584) (hT : townR w v2 v3 P) (hR : LR P b (R_state w) v) (hI : LI P v) (hl : l < P) (hc : c ≤ 999) :
    (f_Lives_hideCoins N v v2 v3 (nI l) (nI c) = some (0, Lives_hidden v) ∧ f_R_mayHide N w (nI b) (nI l) (nI c) = some 0) ∨ (f_Lives_hideCoins N v v2 v3 (nI l) (nI c) = some (1, upd (Lives_hidden v) l (nI c)) ∧ f_R_mayHide N w (nI b) (nI l) (nI c) = some 1) := by
  have hP := hT.1
  have h6 := hT.1.2
  have e1 := has_ok (N := N) (v2 := v3) hP hl
  obtain ⟨⟨pn, hpn, hpe⟩, -⟩ := hI.1 l hl
  have hpe : Lives_purse v l = nI pn := hpe
  have s1 : R_state w (b + 4 + l) = Lives_purse v l := (hR.1 l hl).1
  unfold f_Lives_hideCoins f_R_mayHide
  rw [show nI b + 0 = nI (b + 0) from nI_add b 0, nI_clamp (n := b + 0) (by omega), hR.2.1, show Int32.toNatClampNeg ((nI b + 4) + nI l) = b + 4 + l from ix (c := 4) (by omega), s1, nI_clamp (n := l) (by omega), hpe]
  by_cases hz : Lives_away v = 0
  · by_cases hlt : pn < c
    · left
      constructor
      · repeat (first | (with_reducible refine zletE ?_) | (with_reducible refine zifn ?_ ?_; · (first | with_reducible assumption | decide | (simp (disch := omega) only [zlit, nI_add, pk_mul, pk_sub, zsubm, nI_clamp, nI_leI, nI_ltI, nI_eq, zeqF, Nat.reduceEqDiff, zleF, zleT, zltF, zltT, zneg1, zneg1L, zneg2, zneg0, eq_self, or_self, false_or, or_false, Nat.not_lt_zero, not_false_eq_true, not_true_eq_false]; done))) | (with_reducible refine zifp ?_ ?_; · (first | with_reducible assumption | decide | (simp (disch := omega) only [zlit, nI_add, pk_mul, pk_sub, zsubm, nI_clamp, nI_leI, nI_ltI, nI_eq, zeqF, Nat.reduceEqDiff, zleF, zleT, zltF, zltT, zneg1, zneg1L, zneg2, zneg0, eq_self, or_self, false_or, or_false, Nat.not_lt_zero, not_false_eq_true, not_true_eq_false]; done))) | (with_reducible refine bnd (e1) ?_) | (with_reducible refine bnd (x := some _) rfl ?_))
        rfl
      · repeat (first | (with_reducible refine zletE ?_) | (with_reducible refine zifn ?_ ?_; · (first | with_reducible assumption | decide | (simp (disch := omega) only [zlit, nI_add, pk_mul, pk_sub, zsubm, nI_clamp, nI_leI, nI_ltI, nI_eq, zeqF, Nat.reduceEqDiff, zleF, zleT, zltF, zltT, zneg1, zneg1L, zneg2, zneg0, eq_self, or_self, false_or, or_false, Nat.not_lt_zero, not_false_eq_true, not_true_eq_false]; done))) | (with_reducible refine zifp ?_ ?_; · (first | with_reducible assumption | decide | (simp (disch := omega) only [zlit, nI_add, pk_mul, pk_sub, zsubm, nI_clamp, nI_leI, nI_ltI, nI_eq, zeqF, Nat.reduceEqDiff, zleF, zleT, zltF, zltT, zneg1, zneg1L, zneg2, zneg0, eq_self, or_self, false_or, or_false, Nat.not_lt_zero, not_false_eq_true, not_true_eq_false]; done))) | (with_reducible refine bnd (x := some _) rfl ?_))
        rfl
    · right
      constructor
      · repeat (first | (with_reducible refine zletE ?_) | (with_reducible refine zifn ?_ ?_; · (first | with_reducible assumption | decide | (simp (disch := omega) only [zlit, nI_add, pk_mul, pk_sub, zsubm, nI_clamp, nI_leI, nI_ltI, nI_eq, zeqF, Nat.reduceEqDiff, zleF, zleT, zltF, zltT, zneg1, zneg1L, zneg2, zneg0, eq_self, or_self, false_or, or_false, Nat.not_lt_zero, not_false_eq_true, not_true_eq_false]; done))) | (with_reducible refine zifp ?_ ?_; · (first | with_reducible assumption | decide | (simp (disch := omega) only [zlit, nI_add, pk_mul, pk_sub, zsubm, nI_clamp, nI_leI, nI_ltI, nI_eq, zeqF, Nat.reduceEqDiff, zleF, zleT, zltF, zltT, zneg1, zneg1L, zneg2, zneg0, eq_self, or_self, false_or, or_false, Nat.not_lt_zero, not_false_eq_true, not_true_eq_false]; done))) | (with_reducible refine bnd (e1) ?_) | (with_reducible refine bnd (x := some _) rfl ?_))
        rfl
      · repeat (first | (with_reducible refine zletE ?_) | (with_reducible refine zifn ?_ ?_; · (first | with_reducible assumption | decide | (simp (disch := omega) only [zlit, nI_add, pk_mul, pk_sub, zsubm, nI_clamp, nI_leI, nI_ltI, nI_eq, zeqF, Nat.reduceEqDiff, zleF, zleT, zltF, zltT, zneg1, zneg1L, zneg2, zneg0, eq_self, or_self, false_or, or_false, Nat.not_lt_zero, not_false_eq_true, not_true_eq_false]; done))) | (with_reducible refine zifp ?_ ?_; · (first | with_reducible assumption | decide | (simp (disch := omega) only [zlit, nI_add, pk_mul, pk_sub, zsubm, nI_clamp, nI_leI, nI_ltI, nI_eq, zeqF, Nat.reduceEqDiff, zleF, zleT, zltF, zltT, zneg1, zneg1L, zneg2, zneg0, eq_self, or_self, false_or, or_false, Nat.not_lt_zero, not_false_eq_true, not_true_eq_false]; done))) | (with_reducible refine bnd (x := some _) rfl ?_))
        rfl
  · left
    constructor
    · repeat (first | (with_reducible refine zletE ?_) | (with_reducible refine zifn ?_ ?_; · (first | with_reducible assumption | decide | (simp (disch := omega) only [zlit, nI_add, pk_mul, pk_sub, zsubm, nI_clamp, nI_leI, nI_ltI, nI_eq, zeqF, Nat.reduceEqDiff, zleF, zleT, zltF, zltT, zneg1, zneg1L, zneg2, zneg0, eq_self, or_self, false_or, or_false, Nat.not_lt_zero, not_false_eq_true, not_true_eq_false]; done))) | (with_reducible refine zifp ?_ ?_; · (first | with_reducible assumption | decide | (simp (disch := omega) only [zlit, nI_add, pk_mul, pk_sub, zsubm, nI_clamp, nI_leI, nI_ltI, nI_eq, zeqF, Nat.reduceEqDiff, zleF, zleT, zltF, zltT, zneg1, zneg1L, zneg2, zneg0, eq_self, or_self, false_or, or_false, Nat.not_lt_zero, not_false_eq_true, not_true_eq_false]; done))) | (with_reducible refine bnd (x := some _) rfl ?_))
      rfl
    · repeat (first | (with_reducible refine zletE ?_) | (with_reducible refine zifn ?_ ?_; · (first | with_reducible assumption | decide | (simp (disch := omega) only [zlit, nI_add, pk_mul, pk_sub, zsubm, nI_clamp, nI_leI, nI_ltI, nI_eq, zeqF, Nat.reduceEqDiff, zleF, zleT, zltF, zltT, zneg1, zneg1L, zneg2, zneg0, eq_self, or_self, false_or, or_false, Nat.not_lt_zero, not_false_eq_true, not_true_eq_false]; done))) | (with_reducible refine zifp ?_ ?_; · (first | with_reducible assumption | decide | (simp (disch := omega) only [zlit, nI_add, pk_mul, pk_sub, zsubm, nI_clamp, nI_leI, nI_ltI, nI_eq, zeqF, Nat.reduceEqDiff, zleF, zleT, zltF, zltT, zneg1, zneg1L, zneg2, zneg0, eq_self, or_self, false_or, or_false, Nat.not_lt_zero, not_false_eq_true, not_true_eq_false]; done))) | (with_reducible refine bnd (x := some _) rfl ?_))
      rfl
theorem lot_both {N : Nat} (hN : 10000 ≤ N) {w : VR} {v : VLives} {v2 : VTown} {v3 : VLaws} {v9 : VLots} {P L b c : Nat} (hb : b ≤ 1584) (hT : townR w v2 v3 P) (hl : lotsR w v9 P L) (hR : LR P b (R_state w) v) (hI : LI P v) (hc : c ≤ 9999) :
    (f_Lives_drawLot N v v2 v3 v9 (nI c) = some (-1, Lives_self v, Lives_worthThen v, Lives_homeThen v, Lives_away v, Lives_days v) ∧ f_R_mayLeave N w (nI b) = some 0) ∨ ∃ p, p < L ∧ Ev (f_Lives_drawLot N v v2 v3 v9 (nI c)) (fun q => q.1 = nI p ∧ AGP 6 (Lives_s_self_worthThen_homeThen_away_days v q.2.1 q.2.2.1 q.2.2.2.1 q.2.2.2.2.1 q.2.2.2.2.2) (leaveV v (rowOf v9 p))) ∧ f_R_mayLeave N w (nI b) = some 1 ∧ ∀ w' : VR, R_g w' = (nI c).toInt64 → f_R_draw N w' (R_lotsMany w) = some (nI p, lN (nxt c)) := by
  have hP := hT.1
  have h6 := hT.1.2
  have hL := hl.2.2.1
  have hml := mayLeave_ok (N := N) hb hR hl
  by_cases hz : Lives_away v = 0
  · by_cases hL0 : L = 0
    · rw [if_pos hz, if_pos hL0] at hml
      left
      refine ⟨?_, hml⟩
      unfold f_Lives_drawLot
      rw [hl.2.1, hL0]
      repeat (first | (with_reducible refine zletE ?_) | (with_reducible refine zifn ?_ ?_; · (first | with_reducible assumption | decide | (simp (disch := omega) only [zlit, nI_add, pk_mul, pk_sub, zsubm, nI_clamp, nI_leI, nI_ltI, nI_eq, zeqF, Nat.reduceEqDiff, zleF, zleT, zltF, zltT, zneg1, zneg1L, zneg2, zneg0, eq_self, or_self, false_or, or_false, Nat.not_lt_zero, not_false_eq_true, not_true_eq_false]; done))) | (with_reducible refine zifp ?_ ?_; · (first | with_reducible assumption | decide | (simp (disch := omega) only [zlit, nI_add, pk_mul, pk_sub, zsubm, nI_clamp, nI_leI, nI_ltI, nI_eq, zeqF, Nat.reduceEqDiff, zleF, zleT, zltF, zltT, zneg1, zneg1L, zneg2, zneg0, eq_self, or_self, false_or, or_false, Nat.not_lt_zero, not_false_eq_true, not_true_eq_false]; done))) | (with_reducible refine bnd (x := some _) rfl ?_))
      rfl
    · rw [if_pos hz, if_neg hL0] at hml
      right
      have hp : nxt c / 65536 % L < L := Nat.mod_lt _ (by omega)
      have h9 := nxt_lt c
      have d1 : f_Lots_nextDraw N (nI c).toInt64 = some (lN (nxt c)) := by
        rw [nI_l (by omega)]
        exact nextDraw_ok
      have d2 : f_Lots_drawBelow N (lN (nxt c)) (nI L) = some (nI (nxt c / 65536 % L)) := drawBelow_ok h9 (by omega) (by omega)
      refine ⟨nxt c / 65536 % L, hp, ?_, hml, fun w' hw' => ?_⟩
      · unfold f_Lives_drawLot
        rw [hl.2.1]
        repeat (first | (with_reducible refine Ev.letE ?_) | (with_reducible refine Ev.ifn ?_ ?_; · (first | with_reducible assumption | decide | (simp (disch := omega) only [zlit, nI_add, pk_mul, pk_sub, zsubm, nI_clamp, nI_leI, nI_ltI, nI_eq, zeqF, Nat.reduceEqDiff, zleF, zleT, zltF, zltT, zneg1, zneg1L, zneg2, zneg0, eq_self, or_self, false_or, or_false, Nat.not_lt_zero, not_false_eq_true, not_true_eq_false]; done))) | (with_reducible refine Ev.ifp ?_ ?_; · (first | with_reducible assumption | decide | (simp (disch := omega) only [zlit, nI_add, pk_mul, pk_sub, zsubm, nI_clamp, nI_leI, nI_ltI, nI_eq, zeqF, Nat.reduceEqDiff, zleF, zleT, zltF, zltT, zneg1, zneg1L, zneg2, zneg0, eq_self, or_self, false_or, or_false, Nat.not_lt_zero, not_false_eq_true, not_true_eq_false]; done))) | (with_reducible refine Ev.bnd (d1) ?_) | (with_reducible refine Ev.bnd (d2) ?_) | (with_reducible refine Ev.bnd (x := some _) rfl ?_))
        refine Ev.bnx (goAway_ag hN hl.2.1 hL hp) ?_
        intro q hq
        exact Ev.ret ⟨rfl, hq⟩
      · rw [hl.1]
        exact rdraw_ok (by rw [hw']; exact nI_l (by omega)) (by omega) (by omega) (by omega)
  · rw [if_neg hz] at hml
    left
    refine ⟨?_, hml⟩
    unfold f_Lives_drawLot
    repeat (first | (with_reducible refine zletE ?_) | (with_reducible refine zifn ?_ ?_; · (first | with_reducible assumption | decide | (simp (disch := omega) only [zlit, nI_add, pk_mul, pk_sub, zsubm, nI_clamp, nI_leI, nI_ltI, nI_eq, zeqF, Nat.reduceEqDiff, zleF, zleT, zltF, zltT, zneg1, zneg1L, zneg2, zneg0, eq_self, or_self, false_or, or_false, Nat.not_lt_zero, not_false_eq_true, not_true_eq_false]; done))) | (with_reducible refine zifp ?_ ?_; · (first | with_reducible assumption | decide | (simp (disch := omega) only [zlit, nI_add, pk_mul, pk_sub, zsubm, nI_clamp, nI_leI, nI_ltI, nI_eq, zeqF, Nat.reduceEqDiff, zleF, zleT, zltF, zltT, zneg1, zneg1L, zneg2, zneg0, eq_self, or_self, false_or, or_false, Nat.not_lt_zero, not_false_eq_true, not_true_eq_false]; done))) | (with_reducible refine bnd (x := some _) rfl ?_))
    rfl
theorem day_both {N : Nat} (hN : 10000 ≤ N) {w : VR} {v : VLives} {v2 : VTown} {v3 : VLaws} {P b g : Nat} (hb : b ≤ 1584) (hT : townR w v2 v3 P) (hG : signR w v2 g) (hR : LR P b (R_state w) v) (hI : LI P v) :
    (f_Lives_nextDay N v v2 v3 = some (0, Lives_purse v, Lives_debt v, Lives_home v, Lives_days v, Laws_facts v3, Laws_stack v3) ∧ f_R_mayPass N w (nI b) = some 0) ∨ ((∃ d, d ≤ 6 ∧ Lives_days v = nI d) ∧ Ev (f_Lives_nextDay N v v2 v3) (fun q => q.1 = 1 ∧ Lives_s_purse_debt_home_days v q.2.1 q.2.2.1 q.2.2.2.1 q.2.2.2.2.1 = dayV v2 v3 P (nI g) v) ∧ f_R_mayPass N w (nI b) = some 1) := by
  have hP := hT.1
  obtain ⟨d, hd7, hd⟩ := hI.2.2.2.2.1
  have hmp := mayPass_ok (N := N) hb hR hd hd7
  by_cases hz : Lives_away v = 0
  · rw [if_pos hz] at hmp
    left
    refine ⟨?_, hmp⟩
    unfold f_Lives_nextDay
    rw [if_pos hz]
  · rw [if_neg hz] at hmp
    by_cases c : d < 7
    · rw [if_pos c] at hmp
      right
      refine ⟨⟨d, by omega, hd⟩, ?_, hmp⟩
      have h0 := (hT.2.2.2 0 (by decide)).1
      have h1 := (hT.2.2.2 1 (by decide)).1
      unfold f_Lives_nextDay
      have c2 : Lives_days v < 7 := by rw [hd]; exact nI_lt (b := 7) c (by decide)
      rw [hG.2.1]
      repeat (first | (with_reducible refine Ev.letE ?_) | (with_reducible refine Ev.ifn ?_ ?_; · (first | with_reducible assumption | decide | (simp (disch := omega) only [zlit, nI_add, pk_mul, pk_sub, zsubm, nI_clamp, nI_leI, nI_ltI, nI_eq, zeqF, Nat.reduceEqDiff, zleF, zleT, zltF, zltT, zneg1, zneg1L, zneg2, zneg0, eq_self, or_self, false_or, or_false, Nat.not_lt_zero, not_false_eq_true, not_true_eq_false]; done))) | (with_reducible refine Ev.ifp ?_ ?_; · (first | with_reducible assumption | decide | (simp (disch := omega) only [zlit, nI_add, pk_mul, pk_sub, zsubm, nI_clamp, nI_leI, nI_ltI, nI_eq, zeqF, Nat.reduceEqDiff, zleF, zleT, zltF, zltT, zneg1, zneg1L, zneg2, zneg0, eq_self, or_self, false_or, or_false, Nat.not_lt_zero, not_false_eq_true, not_true_eq_false]; done))) | (with_reducible refine Ev.bnd (x := some _) rfl ?_))
      refine Ev.bnx (passDays_v hN (n := 1) (by omega) hP hI.2.2.1 h0 h1) ?_
      intro q hq
      exact Ev.ret ⟨rfl, hq⟩
    · rw [if_neg c] at hmp
      left
      refine ⟨?_, hmp⟩
      unfold f_Lives_nextDay
      have c2 : ¬ Lives_days v < 7 := by rw [hd]; exact nI_nlt (b := 7) (by omega) (by omega)
      rw [if_neg hz, if_neg c2]
abbrev DL : Type := Int32 × (Nat → Int32) × (Nat → Int32) × (Nat → Int32) × (Nat → Int32) × (Nat → Int32) × (Nat → Int32) × (Nat → Int32) × Int32 × Int32 × Int32 × Int32 × (Nat → Int32) × (Nat → Int32)
def dlV (r : DL) : VLives := (r.2.1, r.2.2.1, r.2.2.2.1, r.2.2.2.2.1, r.2.2.2.2.2.1, r.2.2.2.2.2.2.1, r.2.2.2.2.2.2.2.1, r.2.2.2.2.2.2.2.2.1, r.2.2.2.2.2.2.2.2.2.1, r.2.2.2.2.2.2.2.2.2.2.1, r.2.2.2.2.2.2.2.2.2.2.2.1)
theorem line_both {N : Nat} (hN : 10000 ≤ N) {w : VR} {v : VLives} {v2 : VTown} {v3 : VLaws} {v7 : VYear} {v9 : VLots} {P L g k : Nat} {a b c : Int32} (hT : townR w v2 v3 P) (hB : barR w v2 P) (hG : signR w v2 g) (hl : lotsR w v9 P L) (hR : LR P 1512 (R_state w) v) (hI : LI P v) (hk : k < 40) (hln : lineR P (Year_words v7 k) (Year_first v7 k) (Year_second v7 k) a b c) :
    Ev (f_Year_doLine N v7 v v2 v3 v9 (nI k)) (fun r => LI P (dlV r) ∧ ((r.1 = 0 ∧ f_R_mayDo N w a b c = some 0 ∧ AGP P v (dlV r)) ∨ (r.1 = 1 ∧ f_R_mayDo N w a b c = some 1 ∧ Ev (f_R_does N w a b c) (fun q => LR P 1512 q.2.2.1 (dlV r) ∧ Fr 1512 1558 (R_state w) q.2.2.1)))) := by
  have hP := hT.1
  have h6 := hT.1.2
  unfold f_Year_doLine
  rw [nI_clamp (n := k) (by omega)]
  rcases hln with ⟨e0, rfl, l, n, hl2, hn, e1, rfl, e2, rfl⟩ | ⟨e0, rfl, s, hs, e1, rfl⟩ | ⟨e0, rfl, p, q, hp, hq, hpq, e1, rfl, e2, rfl⟩ | ⟨e0, rfl⟩ | ⟨e0, rfl⟩
  · rw [e0, e1, e2]
    rcases hide_both (N := N) (b := 1512) (by omega) hT hR hI hl2 hn with ⟨c1, c2⟩ | ⟨c1, c2⟩
    · have c2 : f_R_mayHide N w 1512 (nI l) (nI n) = some 0 := c2
      repeat (first | (with_reducible refine Ev.letE ?_) | (with_reducible refine Ev.ifn ?_ ?_; · (first | with_reducible assumption | decide | (simp (disch := omega) only [zlit, nI_add, pk_mul, pk_sub, zsubm, nI_clamp, nI_leI, nI_ltI, nI_eq, zeqF, Nat.reduceEqDiff, zleF, zleT, zltF, zltT, zneg1, zneg1L, zneg2, zneg0, eq_self, or_self, false_or, or_false, Nat.not_lt_zero, not_false_eq_true, not_true_eq_false]; done))) | (with_reducible refine Ev.ifp ?_ ?_; · (first | with_reducible assumption | decide | (simp (disch := omega) only [zlit, nI_add, pk_mul, pk_sub, zsubm, nI_clamp, nI_leI, nI_ltI, nI_eq, zeqF, Nat.reduceEqDiff, zleF, zleT, zltF, zltT, zneg1, zneg1L, zneg2, zneg0, eq_self, or_self, false_or, or_false, Nat.not_lt_zero, not_false_eq_true, not_true_eq_false]; done))) | (with_reducible refine Ev.bnd (c1) ?_) | (with_reducible refine Ev.bnd (x := some _) rfl ?_))
      refine Ev.ret ⟨hI, Or.inl ⟨rfl, ?_, AGP.refl P v⟩⟩
      unfold f_R_mayDo
      repeat (first | (with_reducible refine zletE ?_) | (with_reducible refine zifn ?_ ?_; · (first | with_reducible assumption | decide | (simp (disch := omega) only [zlit, nI_add, pk_mul, pk_sub, zsubm, nI_clamp, nI_leI, nI_ltI, nI_eq, zeqF, Nat.reduceEqDiff, zleF, zleT, zltF, zltT, zneg1, zneg1L, zneg2, zneg0, eq_self, or_self, false_or, or_false, Nat.not_lt_zero, not_false_eq_true, not_true_eq_false]; done))) | (with_reducible refine zifp ?_ ?_; · (first | with_reducible assumption | decide | (simp (disch := omega) only [zlit, nI_add, pk_mul, pk_sub, zsubm, nI_clamp, nI_leI, nI_ltI, nI_eq, zeqF, Nat.reduceEqDiff, zleF, zleT, zltF, zltT, zneg1, zneg1L, zneg2, zneg0, eq_self, or_self, false_or, or_false, Nat.not_lt_zero, not_false_eq_true, not_true_eq_false]; done))) | (with_reducible refine bnd (c2) ?_) | (with_reducible refine bnd (x := some _) rfl ?_))
      rfl
    · have c2 : f_R_mayHide N w 1512 (nI l) (nI n) = some 1 := c2
      repeat (first | (with_reducible refine Ev.letE ?_) | (with_reducible refine Ev.ifn ?_ ?_; · (first | with_reducible assumption | decide | (simp (disch := omega) only [zlit, nI_add, pk_mul, pk_sub, zsubm, nI_clamp, nI_leI, nI_ltI, nI_eq, zeqF, Nat.reduceEqDiff, zleF, zleT, zltF, zltT, zneg1, zneg1L, zneg2, zneg0, eq_self, or_self, false_or, or_false, Nat.not_lt_zero, not_false_eq_true, not_true_eq_false]; done))) | (with_reducible refine Ev.ifp ?_ ?_; · (first | with_reducible assumption | decide | (simp (disch := omega) only [zlit, nI_add, pk_mul, pk_sub, zsubm, nI_clamp, nI_leI, nI_ltI, nI_eq, zeqF, Nat.reduceEqDiff, zleF, zleT, zltF, zltT, zneg1, zneg1L, zneg2, zneg0, eq_self, or_self, false_or, or_false, Nat.not_lt_zero, not_false_eq_true, not_true_eq_false]; done))) | (with_reducible refine Ev.bnd (c1) ?_) | (with_reducible refine Ev.bnd (x := some _) rfl ?_))
      refine Ev.ret ⟨LI_hide hI (l := l) (n := n) (by omega), Or.inr ⟨rfl, ?_, ?_⟩⟩
      · unfold f_R_mayDo
        repeat (first | (with_reducible refine zletE ?_) | (with_reducible refine zifn ?_ ?_; · (first | with_reducible assumption | decide | (simp (disch := omega) only [zlit, nI_add, pk_mul, pk_sub, zsubm, nI_clamp, nI_leI, nI_ltI, nI_eq, zeqF, Nat.reduceEqDiff, zleF, zleT, zltF, zltT, zneg1, zneg1L, zneg2, zneg0, eq_self, or_self, false_or, or_false, Nat.not_lt_zero, not_false_eq_true, not_true_eq_false]; done))) | (with_reducible refine zifp ?_ ?_; · (first | with_reducible assumption | decide | (simp (disch := omega) only [zlit, nI_add, pk_mul, pk_sub, zsubm, nI_clamp, nI_leI, nI_ltI, nI_eq, zeqF, Nat.reduceEqDiff, zleF, zleT, zltF, zltT, zneg1, zneg1L, zneg2, zneg0, eq_self, or_self, false_or, or_false, Nat.not_lt_zero, not_false_eq_true, not_true_eq_false]; done))) | (with_reducible refine bnd (c2) ?_) | (with_reducible refine bnd (x := some _) rfl ?_))
        rfl
      · unfold f_R_does
        rw [show (1534 : Int32) + nI l = nI (1534 + l) from nI_add 1534 l, nI_clamp (n := 1534 + l) (by omega)]
        repeat (first | (with_reducible refine Ev.letE ?_) | (with_reducible refine Ev.ifn ?_ ?_; · (first | with_reducible assumption | decide | (simp (disch := omega) only [zlit, nI_add, pk_mul, pk_sub, zsubm, nI_clamp, nI_leI, nI_ltI, nI_eq, zeqF, Nat.reduceEqDiff, zleF, zleT, zltF, zltT, zneg1, zneg1L, zneg2, zneg0, eq_self, or_self, false_or, or_false, Nat.not_lt_zero, not_false_eq_true, not_true_eq_false]; done))) | (with_reducible refine Ev.ifp ?_ ?_; · (first | with_reducible assumption | decide | (simp (disch := omega) only [zlit, nI_add, pk_mul, pk_sub, zsubm, nI_clamp, nI_leI, nI_ltI, nI_eq, zeqF, Nat.reduceEqDiff, zleF, zleT, zltF, zltT, zneg1, zneg1L, zneg2, zneg0, eq_self, or_self, false_or, or_false, Nat.not_lt_zero, not_false_eq_true, not_true_eq_false]; done))) | (with_reducible refine Ev.bnd (x := some _) rfl ?_))
        refine Ev.ret ⟨?_, (Fr.refl _ _ _).upd (by omega) (by omega)⟩
        obtain ⟨h1, h2, h3, h4, h5, h7, h8⟩ := hR
        refine ⟨fun j hj => ?_, ?_, ?_, ?_, ?_, h7, fun ha j hj => ?_⟩
        · obtain ⟨a1, a2, a3, a4, a5⟩ := h1 j hj
          refine ⟨?_, ?_, ?_, ?_, ?_⟩
          · show upd (R_state w) (1534 + l) (nI n) _ = _
            rw [pk_un (by omega)]; exact a1
          · show upd (R_state w) (1534 + l) (nI n) _ = _
            rw [pk_un (by omega)]; exact a2
          · show upd (R_state w) (1534 + l) (nI n) _ = _
            rw [pk_un (by omega)]; exact a3
          · show upd (R_state w) (1534 + l) (nI n) (1512 + 22 + j) = upd (Lives_hidden v) l (nI n) j
            by_cases e : j = l
            · subst e; rw [show 1512 + 22 + j = 1534 + j by omega, pk_us, pk_us]
            · rw [pk_un (by omega), pk_un e]; exact a4
          · show upd (R_state w) (1534 + l) (nI n) _ = _
            rw [pk_un (by omega)]; exact a5
        · show upd (R_state w) (1534 + l) (nI n) _ = _
          rw [pk_un (by omega)]; exact h2
        · show upd (R_state w) (1534 + l) (nI n) _ = _
          rw [pk_un (by omega)]; exact h3
        · show upd (R_state w) (1534 + l) (nI n) _ = _
          rw [pk_un (by omega)]; exact h4
        · show upd (R_state w) (1534 + l) (nI n) _ = _
          rw [pk_un (by omega)]; exact h5
        · show upd (R_state w) (1534 + l) (nI n) _ = _ ∧ upd (R_state w) (1534 + l) (nI n) _ = _
          rw [pk_un (by omega), pk_un (by omega)]; exact h8 ha j hj
  · rw [e0, e1]
    rcases lot_both hN (v3 := v3) (b := 1512) (by omega) hT hl hR hI hs with ⟨c1, c2⟩ | ⟨p, hp, c1, c2, c3⟩
    · have c2 : f_R_mayLeave N w 1512 = some 0 := c2
      repeat (first | (with_reducible refine Ev.letE ?_) | (with_reducible refine Ev.ifn ?_ ?_; · (first | with_reducible assumption | decide | (simp (disch := omega) only [zlit, nI_add, pk_mul, pk_sub, zsubm, nI_clamp, nI_leI, nI_ltI, nI_eq, zeqF, Nat.reduceEqDiff, zleF, zleT, zltF, zltT, zneg1, zneg1L, zneg2, zneg0, eq_self, or_self, false_or, or_false, Nat.not_lt_zero, not_false_eq_true, not_true_eq_false]; done))) | (with_reducible refine Ev.ifp ?_ ?_; · (first | with_reducible assumption | decide | (simp (disch := omega) only [zlit, nI_add, pk_mul, pk_sub, zsubm, nI_clamp, nI_leI, nI_ltI, nI_eq, zeqF, Nat.reduceEqDiff, zleF, zleT, zltF, zltT, zneg1, zneg1L, zneg2, zneg0, eq_self, or_self, false_or, or_false, Nat.not_lt_zero, not_false_eq_true, not_true_eq_false]; done))) | (with_reducible refine Ev.bnd (c1) ?_) | (with_reducible refine Ev.bnd (x := some _) rfl ?_))
      refine Ev.ret ⟨hI, Or.inl ⟨rfl, ?_, AGP.refl P v⟩⟩
      unfold f_R_mayDo
      repeat (first | (with_reducible refine zletE ?_) | (with_reducible refine zifn ?_ ?_; · (first | with_reducible assumption | decide | (simp (disch := omega) only [zlit, nI_add, pk_mul, pk_sub, zsubm, nI_clamp, nI_leI, nI_ltI, nI_eq, zeqF, Nat.reduceEqDiff, zleF, zleT, zltF, zltT, zneg1, zneg1L, zneg2, zneg0, eq_self, or_self, false_or, or_false, Nat.not_lt_zero, not_false_eq_true, not_true_eq_false]; done))) | (with_reducible refine zifp ?_ ?_; · (first | with_reducible assumption | decide | (simp (disch := omega) only [zlit, nI_add, pk_mul, pk_sub, zsubm, nI_clamp, nI_leI, nI_ltI, nI_eq, zeqF, Nat.reduceEqDiff, zleF, zleT, zltF, zltT, zneg1, zneg1L, zneg2, zneg0, eq_self, or_self, false_or, or_false, Nat.not_lt_zero, not_false_eq_true, not_true_eq_false]; done))) | (with_reducible refine bnd (c2) ?_) | (with_reducible refine bnd (x := some _) rfl ?_))
      rfl
    · have c2 : f_R_mayLeave N w 1512 = some 1 := c2
      repeat (first | (with_reducible refine Ev.letE ?_) | (with_reducible refine Ev.ifn ?_ ?_; · (first | with_reducible assumption | decide | (simp (disch := omega) only [zlit, nI_add, pk_mul, pk_sub, zsubm, nI_clamp, nI_leI, nI_ltI, nI_eq, zeqF, Nat.reduceEqDiff, zleF, zleT, zltF, zltT, zneg1, zneg1L, zneg2, zneg0, eq_self, or_self, false_or, or_false, Nat.not_lt_zero, not_false_eq_true, not_true_eq_false]; done))) | (with_reducible refine Ev.ifp ?_ ?_; · (first | with_reducible assumption | decide | (simp (disch := omega) only [zlit, nI_add, pk_mul, pk_sub, zsubm, nI_clamp, nI_leI, nI_ltI, nI_eq, zeqF, Nat.reduceEqDiff, zleF, zleT, zltF, zltT, zneg1, zneg1L, zneg2, zneg0, eq_self, or_self, false_or, or_false, Nat.not_lt_zero, not_false_eq_true, not_true_eq_false]; done))) | (with_reducible refine Ev.bnd (x := some _) rfl ?_))
      refine Ev.bnx c1 ?_
      rintro ⟨x1, x2, x3, x4, x5, x6⟩ ⟨rfl, hag⟩
      have hag : AGP 6 (Lives_s_self_worthThen_homeThen_away_days v x2 x3 x4 x5 x6) (leaveV v (rowOf v9 p)) := hag
      have hL := hl.2.2.1
      have hne : ¬ nI p = -1 := nI_nem1 (by omega)
      obtain ⟨lo1, lo2, -⟩ := hl.2.2.2 p hp
      repeat (first | (with_reducible refine Ev.letE ?_) | (with_reducible refine Ev.ifn ?_ ?_; · (first | with_reducible assumption | decide | (simp (disch := omega) only [zlit, nI_add, pk_mul, pk_sub, zsubm, nI_clamp, nI_leI, nI_ltI, nI_eq, zeqF, Nat.reduceEqDiff, zleF, zleT, zltF, zltT, zneg1, zneg1L, zneg2, zneg0, eq_self, or_self, false_or, or_false, Nat.not_lt_zero, not_false_eq_true, not_true_eq_false]; done))) | (with_reducible refine Ev.ifp ?_ ?_; · (first | with_reducible assumption | decide | (simp (disch := omega) only [zlit, nI_add, pk_mul, pk_sub, zsubm, nI_clamp, nI_leI, nI_ltI, nI_eq, zeqF, Nat.reduceEqDiff, zleF, zleT, zltF, zltT, zneg1, zneg1L, zneg2, zneg0, eq_self, or_self, false_or, or_false, Nat.not_lt_zero, not_false_eq_true, not_true_eq_false]; done))) | (with_reducible refine Ev.bnd (x := some _) rfl ?_))
      refine Ev.ret ⟨(LI_leave hI lo1 lo2).ag (hag.le h6).symm, Or.inr ⟨rfl, ?_, ?_⟩⟩
      · unfold f_R_mayDo
        repeat (first | (with_reducible refine zletE ?_) | (with_reducible refine zifn ?_ ?_; · (first | with_reducible assumption | decide | (simp (disch := omega) only [zlit, nI_add, pk_mul, pk_sub, zsubm, nI_clamp, nI_leI, nI_ltI, nI_eq, zeqF, Nat.reduceEqDiff, zleF, zleT, zltF, zltT, zneg1, zneg1L, zneg2, zneg0, eq_self, or_self, false_or, or_false, Nat.not_lt_zero, not_false_eq_true, not_true_eq_false]; done))) | (with_reducible refine zifp ?_ ?_; · (first | with_reducible assumption | decide | (simp (disch := omega) only [zlit, nI_add, pk_mul, pk_sub, zsubm, nI_clamp, nI_leI, nI_ltI, nI_eq, zeqF, Nat.reduceEqDiff, zleF, zleT, zltF, zltT, zneg1, zneg1L, zneg2, zneg0, eq_self, or_self, false_or, or_false, Nat.not_lt_zero, not_false_eq_true, not_true_eq_false]; done))) | (with_reducible refine bnd (c2) ?_) | (with_reducible refine bnd (x := some _) rfl ?_))
        rfl
      · unfold f_R_does
        have c4 := c3 (R_g_s w (nI s).toInt64) rfl
        repeat (first | (with_reducible refine Ev.letE ?_) | (with_reducible refine Ev.ifn ?_ ?_; · (first | with_reducible assumption | decide | (simp (disch := omega) only [zlit, nI_add, pk_mul, pk_sub, zsubm, nI_clamp, nI_leI, nI_ltI, nI_eq, zeqF, Nat.reduceEqDiff, zleF, zleT, zltF, zltT, zneg1, zneg1L, zneg2, zneg0, eq_self, or_self, false_or, or_false, Nat.not_lt_zero, not_false_eq_true, not_true_eq_false]; done))) | (with_reducible refine Ev.ifp ?_ ?_; · (first | with_reducible assumption | decide | (simp (disch := omega) only [zlit, nI_add, pk_mul, pk_sub, zsubm, nI_clamp, nI_leI, nI_ltI, nI_eq, zeqF, Nat.reduceEqDiff, zleF, zleT, zltF, zltT, zneg1, zneg1L, zneg2, zneg0, eq_self, or_self, false_or, or_false, Nat.not_lt_zero, not_false_eq_true, not_true_eq_false]; done))) | (with_reducible refine Ev.bnd (c4) ?_) | (with_reducible refine Ev.bnd (x := some _) rfl ?_))
        refine Ev.bnx (leaves_v hN (w := R_g_s w (lN (nxt s))) (v1 := v2) (v2 := v3) (v3 := v9) (v := v) (P := P) (L := L) (b := 1512) (p := p) (by omega) hT hl hp hR) ?_
        rintro st ⟨g1, g2⟩
        exact Ev.ret ⟨g1.ag (hag.le h6).symm, g2⟩
  · rw [e0, e1, e2]
    rcases swap_both hN (b := 1512) (by omega) hT hB hR hI hp hq with ⟨c1, c2⟩ | ⟨l, m, hl2, hm2, hlm, hz, el, em, c1, c2, c3, c4⟩
    · have c2 : f_R_maySwap N w 1512 (nI p) (nI q) = some 0 := c2
      repeat (first | (with_reducible refine Ev.letE ?_) | (with_reducible refine Ev.ifn ?_ ?_; · (first | with_reducible assumption | decide | (simp (disch := omega) only [zlit, nI_add, pk_mul, pk_sub, zsubm, nI_clamp, nI_leI, nI_ltI, nI_eq, zeqF, Nat.reduceEqDiff, zleF, zleT, zltF, zltT, zneg1, zneg1L, zneg2, zneg0, eq_self, or_self, false_or, or_false, Nat.not_lt_zero, not_false_eq_true, not_true_eq_false]; done))) | (with_reducible refine Ev.ifp ?_ ?_; · (first | with_reducible assumption | decide | (simp (disch := omega) only [zlit, nI_add, pk_mul, pk_sub, zsubm, nI_clamp, nI_leI, nI_ltI, nI_eq, zeqF, Nat.reduceEqDiff, zleF, zleT, zltF, zltT, zneg1, zneg1L, zneg2, zneg0, eq_self, or_self, false_or, or_false, Nat.not_lt_zero, not_false_eq_true, not_true_eq_false]; done))) | (with_reducible refine Ev.bnd (c1) ?_) | (with_reducible refine Ev.bnd (x := some _) rfl ?_))
      refine Ev.ret ⟨hI, Or.inl ⟨rfl, ?_, AGP.refl P v⟩⟩
      unfold f_R_mayDo
      repeat (first | (with_reducible refine zletE ?_) | (with_reducible refine zifn ?_ ?_; · (first | with_reducible assumption | decide | (simp (disch := omega) only [zlit, nI_add, pk_mul, pk_sub, zsubm, nI_clamp, nI_leI, nI_ltI, nI_eq, zeqF, Nat.reduceEqDiff, zleF, zleT, zltF, zltT, zneg1, zneg1L, zneg2, zneg0, eq_self, or_self, false_or, or_false, Nat.not_lt_zero, not_false_eq_true, not_true_eq_false]; done))) | (with_reducible refine zifp ?_ ?_; · (first | with_reducible assumption | decide | (simp (disch := omega) only [zlit, nI_add, pk_mul, pk_sub, zsubm, nI_clamp, nI_leI, nI_ltI, nI_eq, zeqF, Nat.reduceEqDiff, zleF, zleT, zltF, zltT, zneg1, zneg1L, zneg2, zneg0, eq_self, or_self, false_or, or_false, Nat.not_lt_zero, not_false_eq_true, not_true_eq_false]; done))) | (with_reducible refine bnd (c2) ?_) | (with_reducible refine bnd (x := some _) rfl ?_))
      rfl
    · have c2 : f_R_maySwap N w 1512 (nI p) (nI q) = some 1 := c2
      repeat (first | (with_reducible refine Ev.letE ?_) | (with_reducible refine Ev.ifn ?_ ?_; · (first | with_reducible assumption | decide | (simp (disch := omega) only [zlit, nI_add, pk_mul, pk_sub, zsubm, nI_clamp, nI_leI, nI_ltI, nI_eq, zeqF, Nat.reduceEqDiff, zleF, zleT, zltF, zltT, zneg1, zneg1L, zneg2, zneg0, eq_self, or_self, false_or, or_false, Nat.not_lt_zero, not_false_eq_true, not_true_eq_false]; done))) | (with_reducible refine Ev.ifp ?_ ?_; · (first | with_reducible assumption | decide | (simp (disch := omega) only [zlit, nI_add, pk_mul, pk_sub, zsubm, nI_clamp, nI_leI, nI_ltI, nI_eq, zeqF, Nat.reduceEqDiff, zleF, zleT, zltF, zltT, zneg1, zneg1L, zneg2, zneg0, eq_self, or_self, false_or, or_false, Nat.not_lt_zero, not_false_eq_true, not_true_eq_false]; done))) | (with_reducible refine Ev.bnd (c1) ?_) | (with_reducible refine Ev.bnd (x := some _) rfl ?_))
      refine Ev.ret ⟨LI_swap hI hz hl2 hm2 hp hq hlm el em, Or.inr ⟨rfl, ?_, ?_⟩⟩
      · unfold f_R_mayDo
        repeat (first | (with_reducible refine zletE ?_) | (with_reducible refine zifn ?_ ?_; · (first | with_reducible assumption | decide | (simp (disch := omega) only [zlit, nI_add, pk_mul, pk_sub, zsubm, nI_clamp, nI_leI, nI_ltI, nI_eq, zeqF, Nat.reduceEqDiff, zleF, zleT, zltF, zltT, zneg1, zneg1L, zneg2, zneg0, eq_self, or_self, false_or, or_false, Nat.not_lt_zero, not_false_eq_true, not_true_eq_false]; done))) | (with_reducible refine zifp ?_ ?_; · (first | with_reducible assumption | decide | (simp (disch := omega) only [zlit, nI_add, pk_mul, pk_sub, zsubm, nI_clamp, nI_leI, nI_ltI, nI_eq, zeqF, Nat.reduceEqDiff, zleF, zleT, zltF, zltT, zneg1, zneg1L, zneg2, zneg0, eq_self, or_self, false_or, or_false, Nat.not_lt_zero, not_false_eq_true, not_true_eq_false]; done))) | (with_reducible refine bnd (c2) ?_) | (with_reducible refine bnd (x := some _) rfl ?_))
        rfl
      · have t3 := swaps_ok (b := 1512) (by omega) (show l < 6 by omega) (show m < 6 by omega) c3 c4
        have t3 : f_R_swaps N w 1512 (nI p) (nI q) = _ := t3
        unfold f_R_does
        rw [t3]
        repeat (first | (with_reducible refine Ev.letE ?_) | (with_reducible refine Ev.ifn ?_ ?_; · (first | with_reducible assumption | decide | (simp (disch := omega) only [zlit, nI_add, pk_mul, pk_sub, zsubm, nI_clamp, nI_leI, nI_ltI, nI_eq, zeqF, Nat.reduceEqDiff, zleF, zleT, zltF, zltT, zneg1, zneg1L, zneg2, zneg0, eq_self, or_self, false_or, or_false, Nat.not_lt_zero, not_false_eq_true, not_true_eq_false]; done))) | (with_reducible refine Ev.ifp ?_ ?_; · (first | with_reducible assumption | decide | (simp (disch := omega) only [zlit, nI_add, pk_mul, pk_sub, zsubm, nI_clamp, nI_leI, nI_ltI, nI_eq, zeqF, Nat.reduceEqDiff, zleF, zleT, zltF, zltT, zneg1, zneg1L, zneg2, zneg0, eq_self, or_self, false_or, or_false, Nat.not_lt_zero, not_false_eq_true, not_true_eq_false]; done))) | (with_reducible refine Ev.bnd (x := some _) rfl ?_))
        have hsw : upd (upd (R_state w) (1512 + 28 + m) (nI q)) (1512 + 28 + l) (nI p) = upd (upd (R_state w) (1512 + 28 + l) (nI p)) (1512 + 28 + m) (nI q) := by
          funext j
          by_cases c1 : j = 1512 + 28 + l
          · subst c1; rw [pk_us, pk_un (by omega), pk_us]
          · rw [pk_un c1]
            by_cases c2 : j = 1512 + 28 + m
            · subst c2; rw [pk_us, pk_us]
            · rw [pk_un c2, pk_un c2, pk_un c1]
        rw [hsw]
        exact Ev.ret ⟨LR_swap h6 hR hl2 hm2, ((Fr.refl _ _ _).upd (by omega) (by omega)).upd (by omega) (by omega)⟩
  · rw [e0]
    rcases day_both hN (b := 1512) (by omega) hT hG hR hI with ⟨c1, c2⟩ | ⟨hd, c1, c2⟩
    · have c2 : f_R_mayPass N w 1512 = some 0 := c2
      repeat (first | (with_reducible refine Ev.letE ?_) | (with_reducible refine Ev.ifn ?_ ?_; · (first | with_reducible assumption | decide | (simp (disch := omega) only [zlit, nI_add, pk_mul, pk_sub, zsubm, nI_clamp, nI_leI, nI_ltI, nI_eq, zeqF, Nat.reduceEqDiff, zleF, zleT, zltF, zltT, zneg1, zneg1L, zneg2, zneg0, eq_self, or_self, false_or, or_false, Nat.not_lt_zero, not_false_eq_true, not_true_eq_false]; done))) | (with_reducible refine Ev.ifp ?_ ?_; · (first | with_reducible assumption | decide | (simp (disch := omega) only [zlit, nI_add, pk_mul, pk_sub, zsubm, nI_clamp, nI_leI, nI_ltI, nI_eq, zeqF, Nat.reduceEqDiff, zleF, zleT, zltF, zltT, zneg1, zneg1L, zneg2, zneg0, eq_self, or_self, false_or, or_false, Nat.not_lt_zero, not_false_eq_true, not_true_eq_false]; done))) | (with_reducible refine Ev.bnd (c1) ?_) | (with_reducible refine Ev.bnd (x := some _) rfl ?_))
      refine Ev.ret ⟨hI, Or.inl ⟨rfl, ?_, AGP.refl P v⟩⟩
      unfold f_R_mayDo
      repeat (first | (with_reducible refine zletE ?_) | (with_reducible refine zifn ?_ ?_; · (first | with_reducible assumption | decide | (simp (disch := omega) only [zlit, nI_add, pk_mul, pk_sub, zsubm, nI_clamp, nI_leI, nI_ltI, nI_eq, zeqF, Nat.reduceEqDiff, zleF, zleT, zltF, zltT, zneg1, zneg1L, zneg2, zneg0, eq_self, or_self, false_or, or_false, Nat.not_lt_zero, not_false_eq_true, not_true_eq_false]; done))) | (with_reducible refine zifp ?_ ?_; · (first | with_reducible assumption | decide | (simp (disch := omega) only [zlit, nI_add, pk_mul, pk_sub, zsubm, nI_clamp, nI_leI, nI_ltI, nI_eq, zeqF, Nat.reduceEqDiff, zleF, zleT, zltF, zltT, zneg1, zneg1L, zneg2, zneg0, eq_self, or_self, false_or, or_false, Nat.not_lt_zero, not_false_eq_true, not_true_eq_false]; done))) | (with_reducible refine bnd (c2) ?_) | (with_reducible refine bnd (x := some _) rfl ?_))
      rfl
    · have c2 : f_R_mayPass N w 1512 = some 1 := c2
      repeat (first | (with_reducible refine Ev.letE ?_) | (with_reducible refine Ev.ifn ?_ ?_; · (first | with_reducible assumption | decide | (simp (disch := omega) only [zlit, nI_add, pk_mul, pk_sub, zsubm, nI_clamp, nI_leI, nI_ltI, nI_eq, zeqF, Nat.reduceEqDiff, zleF, zleT, zltF, zltT, zneg1, zneg1L, zneg2, zneg0, eq_self, or_self, false_or, or_false, Nat.not_lt_zero, not_false_eq_true, not_true_eq_false]; done))) | (with_reducible refine Ev.ifp ?_ ?_; · (first | with_reducible assumption | decide | (simp (disch := omega) only [zlit, nI_add, pk_mul, pk_sub, zsubm, nI_clamp, nI_leI, nI_ltI, nI_eq, zeqF, Nat.reduceEqDiff, zleF, zleT, zltF, zltT, zneg1, zneg1L, zneg2, zneg0, eq_self, or_self, false_or, or_false, Nat.not_lt_zero, not_false_eq_true, not_true_eq_false]; done))) | (with_reducible refine Ev.bnd (x := some _) rfl ?_))
      refine Ev.bnx c1 ?_
      rintro ⟨x1, x2, x3, x4, x5, x6, x7⟩ ⟨rfl, hv⟩
      have hv : Lives_s_purse_debt_home_days v x2 x3 x4 x5 = dayV v2 v3 P (nI g) v := hv
      repeat (first | (with_reducible refine Ev.letE ?_) | (with_reducible refine Ev.ifn ?_ ?_; · (first | with_reducible assumption | decide | (simp (disch := omega) only [zlit, nI_add, pk_mul, pk_sub, zsubm, nI_clamp, nI_leI, nI_ltI, nI_eq, zeqF, Nat.reduceEqDiff, zleF, zleT, zltF, zltT, zneg1, zneg1L, zneg2, zneg0, eq_self, or_self, false_or, or_false, Nat.not_lt_zero, not_false_eq_true, not_true_eq_false]; done))) | (with_reducible refine Ev.ifp ?_ ?_; · (first | with_reducible assumption | decide | (simp (disch := omega) only [zlit, nI_add, pk_mul, pk_sub, zsubm, nI_clamp, nI_leI, nI_ltI, nI_eq, zeqF, Nat.reduceEqDiff, zleF, zleT, zltF, zltT, zneg1, zneg1L, zneg2, zneg0, eq_self, or_self, false_or, or_false, Nat.not_lt_zero, not_false_eq_true, not_true_eq_false]; done))) | (with_reducible refine Ev.bnd (x := some _) rfl ?_))
      refine Ev.ret ⟨?_, Or.inr ⟨rfl, ?_, ?_⟩⟩
      · show LI P (Lives_s_purse_debt_home_days v x2 x3 x4 x5)
        rw [hv]
        exact LI_day h6 hG.1 hI hd
      · unfold f_R_mayDo
        repeat (first | (with_reducible refine zletE ?_) | (with_reducible refine zifn ?_ ?_; · (first | with_reducible assumption | decide | (simp (disch := omega) only [zlit, nI_add, pk_mul, pk_sub, zsubm, nI_clamp, nI_leI, nI_ltI, nI_eq, zeqF, Nat.reduceEqDiff, zleF, zleT, zltF, zltT, zneg1, zneg1L, zneg2, zneg0, eq_self, or_self, false_or, or_false, Nat.not_lt_zero, not_false_eq_true, not_true_eq_false]; done))) | (with_reducible refine zifp ?_ ?_; · (first | with_reducible assumption | decide | (simp (disch := omega) only [zlit, nI_add, pk_mul, pk_sub, zsubm, nI_clamp, nI_leI, nI_ltI, nI_eq, zeqF, Nat.reduceEqDiff, zleF, zleT, zltF, zltT, zneg1, zneg1L, zneg2, zneg0, eq_self, or_self, false_or, or_false, Nat.not_lt_zero, not_false_eq_true, not_true_eq_false]; done))) | (with_reducible refine bnd (c2) ?_) | (with_reducible refine bnd (x := some _) rfl ?_))
        rfl
      · unfold f_R_does
        repeat (first | (with_reducible refine Ev.letE ?_) | (with_reducible refine Ev.ifn ?_ ?_; · (first | with_reducible assumption | decide | (simp (disch := omega) only [zlit, nI_add, pk_mul, pk_sub, zsubm, nI_clamp, nI_leI, nI_ltI, nI_eq, zeqF, Nat.reduceEqDiff, zleF, zleT, zltF, zltT, zneg1, zneg1L, zneg2, zneg0, eq_self, or_self, false_or, or_false, Nat.not_lt_zero, not_false_eq_true, not_true_eq_false]; done))) | (with_reducible refine Ev.ifp ?_ ?_; · (first | with_reducible assumption | decide | (simp (disch := omega) only [zlit, nI_add, pk_mul, pk_sub, zsubm, nI_clamp, nI_leI, nI_ltI, nI_eq, zeqF, Nat.reduceEqDiff, zleF, zleT, zltF, zltT, zneg1, zneg1L, zneg2, zneg0, eq_self, or_self, false_or, or_false, Nat.not_lt_zero, not_false_eq_true, not_true_eq_false]; done))) | (with_reducible refine Ev.bnd (x := some _) rfl ?_))
        refine Ev.bnx (passes_v hN (w := w) (v1 := v2) (v2 := v3) (v := v) (P := P) (b := 1512) (g := g) (by omega) hT hI.2.2.1 hI.2.1 hI.1 hG.2.2.2 hG.1 hR) ?_
        rintro ⟨s1, s2, s3⟩ ⟨g1, g2⟩
        refine Ev.ret ⟨?_, g2⟩
        show LR P 1512 s3 (Lives_s_purse_debt_home_days v x2 x3 x4 x5)
        rw [hv]
        exact g1
  · rw [e0]
    have r0 : R_state w (Int32.toNatClampNeg 1512) = Lives_away v := hR.2.1
    rcases hR.2.2.2.2.2.1 with hz | hz
    · have c1 : f_Lives_goHome N v v2 v3 = some (-1, Lives_hidden v, Lives_self v, Lives_away v, Lives_days v, Lives_homes v, Lives_harm v) := by
        unfold f_Lives_goHome
        rw [if_pos hz]
      repeat (first | (with_reducible refine Ev.letE ?_) | (with_reducible refine Ev.ifn ?_ ?_; · (first | with_reducible assumption | decide | (simp (disch := omega) only [zlit, nI_add, pk_mul, pk_sub, zsubm, nI_clamp, nI_leI, nI_ltI, nI_eq, zeqF, Nat.reduceEqDiff, zleF, zleT, zltF, zltT, zneg1, zneg1L, zneg2, zneg0, eq_self, or_self, false_or, or_false, Nat.not_lt_zero, not_false_eq_true, not_true_eq_false]; done))) | (with_reducible refine Ev.ifp ?_ ?_; · (first | with_reducible assumption | decide | (simp (disch := omega) only [zlit, nI_add, pk_mul, pk_sub, zsubm, nI_clamp, nI_leI, nI_ltI, nI_eq, zeqF, Nat.reduceEqDiff, zleF, zleT, zltF, zltT, zneg1, zneg1L, zneg2, zneg0, eq_self, or_self, false_or, or_false, Nat.not_lt_zero, not_false_eq_true, not_true_eq_false]; done))) | (with_reducible refine Ev.bnd (c1) ?_) | (with_reducible refine Ev.bnd (x := some _) rfl ?_))
      refine Ev.ret ⟨hI, Or.inl ⟨rfl, ?_, AGP.refl P v⟩⟩
      unfold f_R_mayDo
      rw [r0, hz]
      repeat (first | (with_reducible refine zletE ?_) | (with_reducible refine zifn ?_ ?_; · (first | with_reducible assumption | decide | (simp (disch := omega) only [zlit, nI_add, pk_mul, pk_sub, zsubm, nI_clamp, nI_leI, nI_ltI, nI_eq, zeqF, Nat.reduceEqDiff, zleF, zleT, zltF, zltT, zneg1, zneg1L, zneg2, zneg0, eq_self, or_self, false_or, or_false, Nat.not_lt_zero, not_false_eq_true, not_true_eq_false]; done))) | (with_reducible refine zifp ?_ ?_; · (first | with_reducible assumption | decide | (simp (disch := omega) only [zlit, nI_add, pk_mul, pk_sub, zsubm, nI_clamp, nI_leI, nI_ltI, nI_eq, zeqF, Nat.reduceEqDiff, zleF, zleT, zltF, zltT, zneg1, zneg1L, zneg2, zneg0, eq_self, or_self, false_or, or_false, Nat.not_lt_zero, not_false_eq_true, not_true_eq_false]; done))) | (with_reducible refine bnd (x := some _) rfl ?_))
      rfl
    · have hz0 : ¬ Lives_away v = 0 := by rw [hz]; decide
      repeat (first | (with_reducible refine Ev.letE ?_) | (with_reducible refine Ev.ifn ?_ ?_; · (first | with_reducible assumption | decide | (simp (disch := omega) only [zlit, nI_add, pk_mul, pk_sub, zsubm, nI_clamp, nI_leI, nI_ltI, nI_eq, zeqF, Nat.reduceEqDiff, zleF, zleT, zltF, zltT, zneg1, zneg1L, zneg2, zneg0, eq_self, or_self, false_or, or_false, Nat.not_lt_zero, not_false_eq_true, not_true_eq_false]; done))) | (with_reducible refine Ev.ifp ?_ ?_; · (first | with_reducible assumption | decide | (simp (disch := omega) only [zlit, nI_add, pk_mul, pk_sub, zsubm, nI_clamp, nI_leI, nI_ltI, nI_eq, zeqF, Nat.reduceEqDiff, zleF, zleT, zltF, zltT, zneg1, zneg1L, zneg2, zneg0, eq_self, or_self, false_or, or_false, Nat.not_lt_zero, not_false_eq_true, not_true_eq_false]; done))) | (with_reducible refine Ev.bnd (x := some _) rfl ?_))
      refine Ev.bnx (goHome_ag hN hP hz0) ?_
      rintro ⟨x1, x2, x3, x4, x5, x6, x7⟩ ⟨y1, hag⟩
      have y1 : x1 = sumN (hmOf v) P 0 0 := y1
      have hag : AGP P (Lives_s_hidden_self_away_days_homes_harm v x2 x3 x4 x5 x6 x7) (homeV P v) := hag
      obtain ⟨hs, hs1, hs2⟩ := hmAll_num h6 hI
      have hne : ¬ x1 = -1 := by
        rw [y1, hs2]
        exact nI_nem1 (by omega)
      repeat (first | (with_reducible refine Ev.letE ?_) | (with_reducible refine Ev.ifn ?_ ?_; · (first | with_reducible assumption | decide | (simp (disch := omega) only [zlit, nI_add, pk_mul, pk_sub, zsubm, nI_clamp, nI_leI, nI_ltI, nI_eq, zeqF, Nat.reduceEqDiff, zleF, zleT, zltF, zltT, zneg1, zneg1L, zneg2, zneg0, eq_self, or_self, false_or, or_false, Nat.not_lt_zero, not_false_eq_true, not_true_eq_false]; done))) | (with_reducible refine Ev.ifp ?_ ?_; · (first | with_reducible assumption | decide | (simp (disch := omega) only [zlit, nI_add, pk_mul, pk_sub, zsubm, nI_clamp, nI_leI, nI_ltI, nI_eq, zeqF, Nat.reduceEqDiff, zleF, zleT, zltF, zltT, zneg1, zneg1L, zneg2, zneg0, eq_self, or_self, false_or, or_false, Nat.not_lt_zero, not_false_eq_true, not_true_eq_false]; done))) | (with_reducible refine Ev.bnd (x := some _) rfl ?_))
      refine Ev.ret ⟨(LI_home h6 hI).ag hag.symm, Or.inr ⟨rfl, ?_, ?_⟩⟩
      · unfold f_R_mayDo
        rw [r0, hz]
        repeat (first | (with_reducible refine zletE ?_) | (with_reducible refine zifn ?_ ?_; · (first | with_reducible assumption | decide | (simp (disch := omega) only [zlit, nI_add, pk_mul, pk_sub, zsubm, nI_clamp, nI_leI, nI_ltI, nI_eq, zeqF, Nat.reduceEqDiff, zleF, zleT, zltF, zltT, zneg1, zneg1L, zneg2, zneg0, eq_self, or_self, false_or, or_false, Nat.not_lt_zero, not_false_eq_true, not_true_eq_false]; done))) | (with_reducible refine zifp ?_ ?_; · (first | with_reducible assumption | decide | (simp (disch := omega) only [zlit, nI_add, pk_mul, pk_sub, zsubm, nI_clamp, nI_leI, nI_ltI, nI_eq, zeqF, Nat.reduceEqDiff, zleF, zleT, zltF, zltT, zneg1, zneg1L, zneg2, zneg0, eq_self, or_self, false_or, or_false, Nat.not_lt_zero, not_false_eq_true, not_true_eq_false]; done))) | (with_reducible refine bnd (x := some _) rfl ?_))
        rfl
      · unfold f_R_does
        repeat (first | (with_reducible refine Ev.letE ?_) | (with_reducible refine Ev.ifn ?_ ?_; · (first | with_reducible assumption | decide | (simp (disch := omega) only [zlit, nI_add, pk_mul, pk_sub, zsubm, nI_clamp, nI_leI, nI_ltI, nI_eq, zeqF, Nat.reduceEqDiff, zleF, zleT, zltF, zltT, zneg1, zneg1L, zneg2, zneg0, eq_self, or_self, false_or, or_false, Nat.not_lt_zero, not_false_eq_true, not_true_eq_false]; done))) | (with_reducible refine Ev.ifp ?_ ?_; · (first | with_reducible assumption | decide | (simp (disch := omega) only [zlit, nI_add, pk_mul, pk_sub, zsubm, nI_clamp, nI_leI, nI_ltI, nI_eq, zeqF, Nat.reduceEqDiff, zleF, zleT, zltF, zltT, zneg1, zneg1L, zneg2, zneg0, eq_self, or_self, false_or, or_false, Nat.not_lt_zero, not_false_eq_true, not_true_eq_false]; done))) | (with_reducible refine Ev.bnd (x := some _) rfl ?_))
        refine Ev.bnx (goesHome_v hN (w := w) (v1 := v2) (v2 := v3) (v := v) (P := P) (b := 1512) (by omega) hT hR) ?_
        rintro ⟨s0, s1⟩ ⟨g0, g1, g2⟩
        exact Ev.ret ⟨g1.ag hag.symm, g2⟩
theorem judge_loop {N : Nat} (hN : 10000 ≤ N) {w : VR} {v2 : VTown} {v3 : VLaws} {v7 : VYear} {v9 : VLots} {P L g n : Nat} {u1 : VLives} {y1 : Int32} (hT : townR w v2 v3 P) (hB : barR w v2 P) (hG : signR w v2 g) (hl : lotsR w v9 P L) (hn : n ≤ 40) (hy : Year_lines v7 = nI n) (hy2 : R_lines w 0 = nI n) (hln : ∀ k, k < n → lineR P (Year_words v7 k) (Year_first v7 k) (Year_second v7 k) (R_lines w (1 + 3 * k)) (R_lines w (2 + 3 * k)) (R_lines w (3 + 3 * k))) :
    ∀ (r k fuel : Nat) (x : Int32) (v : VLives) (fa sk fa2 pl st : Nat → Int32) (gg : Int64), k + r = n → r < fuel → (x = (-1) ∨ ∃ j, j < 40 ∧ x = nI j) → LR P 1512 st v → LI P v → Ev (f_Year_judge_L9 N fuel v7 u1 v2 v3 v9 x (nI k) (Lives_purse v) (Lives_debt v) (Lives_home v) (Lives_hidden v) (Lives_self v) (Lives_worthThen v) (Lives_homeThen v) (Lives_away v) (Lives_days v) (Lives_homes v) (Lives_harm v) fa sk) (fun r => Ev (f_R_judged_L28 N fuel w y1 x (nI k) fa2 pl st gg) (fun q => r.1 = q.1 ∧ LR P 1512 q.2.2.2.1 (dlV r) ∧ Fr 1512 1558 st q.2.2.2.1))
  | _, _, 0, _, _, _, _, _, _, _, _, _, h, _, _, _ => absurd h (Nat.not_lt_zero _)
  | 0, k, fuel + 1, x, v, fa, sk, fa2, pl, st, gg, h1, h2, hx, hR, hI => by
    rw [f_Year_judge_L9, hy]
    repeat (first | (with_reducible refine Ev.letE ?_) | (with_reducible refine Ev.ifn ?_ ?_; · (first | with_reducible assumption | decide | (simp (disch := omega) only [zlit, nI_add, pk_mul, pk_sub, zsubm, nI_clamp, nI_leI, nI_ltI, nI_eq, zeqF, Nat.reduceEqDiff, zleF, zleT, zltF, zltT, zneg1, zneg1L, zneg2, zneg0, eq_self, or_self, false_or, or_false, Nat.not_lt_zero, not_false_eq_true, not_true_eq_false]; done))) | (with_reducible refine Ev.ifp ?_ ?_; · (first | with_reducible assumption | decide | (simp (disch := omega) only [zlit, nI_add, pk_mul, pk_sub, zsubm, nI_clamp, nI_leI, nI_ltI, nI_eq, zeqF, Nat.reduceEqDiff, zleF, zleT, zltF, zltT, zneg1, zneg1L, zneg2, zneg0, eq_self, or_self, false_or, or_false, Nat.not_lt_zero, not_false_eq_true, not_true_eq_false]; done))) | (with_reducible refine Ev.bnd (x := some _) rfl ?_))
    refine Ev.ret ?_
    rw [f_R_judged_L28, show Int32.toNatClampNeg 0 = 0 from rfl, hy2]
    repeat (first | (with_reducible refine Ev.letE ?_) | (with_reducible refine Ev.ifn ?_ ?_; · (first | with_reducible assumption | decide | (simp (disch := omega) only [zlit, nI_add, pk_mul, pk_sub, zsubm, nI_clamp, nI_leI, nI_ltI, nI_eq, zeqF, Nat.reduceEqDiff, zleF, zleT, zltF, zltT, zneg1, zneg1L, zneg2, zneg0, eq_self, or_self, false_or, or_false, Nat.not_lt_zero, not_false_eq_true, not_true_eq_false]; done))) | (with_reducible refine Ev.ifp ?_ ?_; · (first | with_reducible assumption | decide | (simp (disch := omega) only [zlit, nI_add, pk_mul, pk_sub, zsubm, nI_clamp, nI_leI, nI_ltI, nI_eq, zeqF, Nat.reduceEqDiff, zleF, zleT, zltF, zltT, zneg1, zneg1L, zneg2, zneg0, eq_self, or_self, false_or, or_false, Nat.not_lt_zero, not_false_eq_true, not_true_eq_false]; done))) | (with_reducible refine Ev.bnd (x := some _) rfl ?_))
    exact Ev.ret ⟨rfl, hR, Fr.refl _ _ _⟩
  | r + 1, k, fuel + 1, x, v, fa, sk, fa2, pl, st, gg, h1, h2, hx, hR, hI => by
    rw [f_Year_judge_L9, hy]
    repeat (first | (with_reducible refine Ev.letE ?_) | (with_reducible refine Ev.ifn ?_ ?_; · (first | with_reducible assumption | decide | (simp (disch := omega) only [zlit, nI_add, pk_mul, pk_sub, zsubm, nI_clamp, nI_leI, nI_ltI, nI_eq, zeqF, Nat.reduceEqDiff, zleF, zleT, zltF, zltT, zneg1, zneg1L, zneg2, zneg0, eq_self, or_self, false_or, or_false, Nat.not_lt_zero, not_false_eq_true, not_true_eq_false]; done))) | (with_reducible refine Ev.ifp ?_ ?_; · (first | with_reducible assumption | decide | (simp (disch := omega) only [zlit, nI_add, pk_mul, pk_sub, zsubm, nI_clamp, nI_leI, nI_ltI, nI_eq, zeqF, Nat.reduceEqDiff, zleF, zleT, zltF, zltT, zneg1, zneg1L, zneg2, zneg0, eq_self, or_self, false_or, or_false, Nat.not_lt_zero, not_false_eq_true, not_true_eq_false]; done))) | (with_reducible refine Ev.bnd (x := some _) rfl ?_))
    refine Ev.bnx (line_both hN (w := R_s_facts_pile_state_g w fa2 pl st gg) (v := v) (v3 := Laws_s_facts_stack v3 fa sk) hT hB hG hl hR hI (show k < 40 by omega) (hln k (by omega))) ?_
    rintro r4 ⟨hI4, hc⟩
    have hx2 : (if r4.1 = 0 then (if x = -1 then nI k else x) else x) = (if r4.1 = 0 then (if 0 ≤ x then x else nI k) else x) := by
      by_cases c : r4.1 = 0
      · rw [if_pos c, if_pos c]
        rcases hx with rfl | ⟨j, hj, rfl⟩
        · rfl
        · rw [if_neg (nI_nem1 (by omega)), if_pos (nI_pos' (by omega))]
      · rw [if_neg c, if_neg c]
    have hx3 : (if r4.1 = 0 then (if 0 ≤ x then x else nI k) else x) = (-1) ∨ ∃ j, j < 40 ∧ (if r4.1 = 0 then (if 0 ≤ x then x else nI k) else x) = nI j := by
      by_cases c : r4.1 = 0
      · rw [if_pos c]
        rcases hx with rfl | ⟨j, hj, rfl⟩
        · exact Or.inr ⟨k, by omega, rfl⟩
        · rw [if_pos (nI_pos' (by omega))]
          exact Or.inr ⟨j, hj, rfl⟩
      · rw [if_neg c]
        exact hx
    rw [show nI k + 1 = nI (k + 1) from nI_1 k]
    repeat (first | (with_reducible refine Ev.letG (hx2) ?_) | (with_reducible refine Ev.letE ?_) | (with_reducible refine Ev.ifn ?_ ?_; · (first | with_reducible assumption | decide | (simp (disch := omega) only [zlit, nI_add, pk_mul, pk_sub, zsubm, nI_clamp, nI_leI, nI_ltI, nI_eq, zeqF, Nat.reduceEqDiff, zleF, zleT, zltF, zltT, zneg1, zneg1L, zneg2, zneg0, eq_self, or_self, false_or, or_false, Nat.not_lt_zero, not_false_eq_true, not_true_eq_false]; done))) | (with_reducible refine Ev.ifp ?_ ?_; · (first | with_reducible assumption | decide | (simp (disch := omega) only [zlit, nI_add, pk_mul, pk_sub, zsubm, nI_clamp, nI_leI, nI_ltI, nI_eq, zeqF, Nat.reduceEqDiff, zleF, zleT, zltF, zltT, zneg1, zneg1L, zneg2, zneg0, eq_self, or_self, false_or, or_false, Nat.not_lt_zero, not_false_eq_true, not_true_eq_false]; done))) | (with_reducible refine Ev.bnd (x := some _) rfl ?_))
    have i1 : Int32.toNatClampNeg (1 + 3 * nI k) = 1 + 3 * k := by
      rw [show (1 : Int32) + 3 * nI k = nI (1 + 3 * k) by simp (maxSteps := 2000000) (disch := omega) only [zlit, nI_add, pk_mul, nI_clamp], nI_clamp (by omega)]
    have i2 : Int32.toNatClampNeg (2 + 3 * nI k) = 2 + 3 * k := by
      rw [show (2 : Int32) + 3 * nI k = nI (2 + 3 * k) by simp (maxSteps := 2000000) (disch := omega) only [zlit, nI_add, pk_mul, nI_clamp], nI_clamp (by omega)]
    have i3 : Int32.toNatClampNeg (3 + 3 * nI k) = 3 + 3 * k := by
      rw [show (3 : Int32) + 3 * nI k = nI (3 + 3 * k) by simp (maxSteps := 2000000) (disch := omega) only [zlit, nI_add, pk_mul, nI_clamp], nI_clamp (by omega)]
    rcases hc with ⟨c1, c2, c3⟩ | ⟨c1, c2, c3⟩
    · refine (judge_loop hN hT hB hG hl hn hy hy2 hln r (k + 1) fuel _ (dlV r4) r4.2.2.2.2.2.2.2.2.2.2.2.2.1 r4.2.2.2.2.2.2.2.2.2.2.2.2.2 fa2 pl st gg (by omega) (by omega) hx3 (hR.ag c3) hI4 (u1 := u1) (y1 := y1)).mono ?_
      rintro r5 ⟨q, hq, hq1, hq2, hq3⟩
      refine Ev.of (r := q) ?_ ⟨hq1, hq2, hq3⟩
      rw [f_R_judged_L28, show Int32.toNatClampNeg 0 = 0 from rfl, hy2, i1, i2, i3, show nI k + 1 = nI (k + 1) from nI_1 k]
      rw [c1] at hq
      repeat (first | (with_reducible refine zletE ?_) | (with_reducible refine zifn ?_ ?_; · (first | with_reducible assumption | decide | (simp (disch := omega) only [zlit, nI_add, pk_mul, pk_sub, zsubm, nI_clamp, nI_leI, nI_ltI, nI_eq, zeqF, Nat.reduceEqDiff, zleF, zleT, zltF, zltT, zneg1, zneg1L, zneg2, zneg0, eq_self, or_self, false_or, or_false, Nat.not_lt_zero, not_false_eq_true, not_true_eq_false]; done))) | (with_reducible refine zifp ?_ ?_; · (first | with_reducible assumption | decide | (simp (disch := omega) only [zlit, nI_add, pk_mul, pk_sub, zsubm, nI_clamp, nI_leI, nI_ltI, nI_eq, zeqF, Nat.reduceEqDiff, zleF, zleT, zltF, zltT, zneg1, zneg1L, zneg2, zneg0, eq_self, or_self, false_or, or_false, Nat.not_lt_zero, not_false_eq_true, not_true_eq_false]; done))) | (with_reducible refine bnd (c2) ?_) | (with_reducible refine bnd (x := some _) rfl ?_))
      exact hq
    · obtain ⟨q4, d1, d2, d3⟩ := c3
      refine (judge_loop hN hT hB hG hl hn hy hy2 hln r (k + 1) fuel _ (dlV r4) r4.2.2.2.2.2.2.2.2.2.2.2.2.1 r4.2.2.2.2.2.2.2.2.2.2.2.2.2 q4.1 q4.2.1 q4.2.2.1 q4.2.2.2 (by omega) (by omega) hx3 d2 hI4 (u1 := u1) (y1 := y1)).mono ?_
      rintro r5 ⟨q, hq, hq1, hq2, hq3⟩
      refine Ev.of (r := q) ?_ ⟨hq1, hq2, d3.trans hq3⟩
      rw [f_R_judged_L28, show Int32.toNatClampNeg 0 = 0 from rfl, hy2, i1, i2, i3, show nI k + 1 = nI (k + 1) from nI_1 k]
      rw [c1] at hq
      repeat (first | (with_reducible refine zletE ?_) | (with_reducible refine zifn ?_ ?_; · (first | with_reducible assumption | decide | (simp (disch := omega) only [zlit, nI_add, pk_mul, pk_sub, zsubm, nI_clamp, nI_leI, nI_ltI, nI_eq, zeqF, Nat.reduceEqDiff, zleF, zleT, zltF, zltT, zneg1, zneg1L, zneg2, zneg0, eq_self, or_self, false_or, or_false, Nat.not_lt_zero, not_false_eq_true, not_true_eq_false]; done))) | (with_reducible refine zifp ?_ ?_; · (first | with_reducible assumption | decide | (simp (disch := omega) only [zlit, nI_add, pk_mul, pk_sub, zsubm, nI_clamp, nI_leI, nI_ltI, nI_eq, zeqF, Nat.reduceEqDiff, zleF, zleT, zltF, zltT, zneg1, zneg1L, zneg2, zneg0, eq_self, or_self, false_or, or_false, Nat.not_lt_zero, not_false_eq_true, not_true_eq_false]; done))) | (with_reducible refine bnd (c2) ?_) | (with_reducible refine bnd (d1) ?_) | (with_reducible refine bnd (x := some _) rfl ?_))
      exact hq
theorem RELx.trial {v0 : VBl} {v1 : VTape} {v2 : VTown} {v3 : VLaws} {v7 : VYear} {v9 : VLots} {v10 : VLives} {v13 : VTales} {v17 : VForecast} {und mls : Nat → VLives} {mts : Nat → VTales} {w : VR} {P L g : Nat} (h : RELx P L g v0 v1 v2 v3 v7 v9 v10 v13 v17 und mls mts w) {v3' : VLaws} {w' : VR} (s : SameT w w') (hu : R_undos w' = R_undos w) (hk : ∀ j, j < 1512 → R_state w' j = R_state w j) (hv : ∃ fa sk, v3' = Laws_s_facts_stack v3 fa sk) : RELx P L g v0 v1 v2 v3' v7 v9 v10 v13 v17 und mls mts w' := by
  obtain ⟨fa, sk, rfl⟩ := hv
  obtain ⟨a1, a2, ⟨a3, a3'⟩, a4, a5, a6, a7, a8, a9⟩ := h
  have h6 := a1.1.1.2
  obtain ⟨b1, b2⟩ := s.town a1
  exact ⟨⟨b1, b2⟩, s.lots a2, ⟨a3.keep h6 (fun j x y => hk j (by omega)), a3'⟩, s.tape a4, a5.keep (fun j x y => hk j (by omega)), a6.keep h6 hu (fun j x y => hk j (by omega)), a7.keep h6 s.2.2.2.2.2.2.2.2.2.2.2.1 (fun j x y => hk j (by omega)), s.plan a8, foreR_fs a9⟩
theorem m_judged {N : Nat} (hN : 10000 ≤ N) {v0 : VBl} {v1 : VTape} {v2 : VTown} {v3 : VLaws} {v4 : VReader} {v5 : VTown} {v6 : VLaws} {v7 : VYear} {v8 : VYear} {v9 : VLots} {v10 : VLives} {v11 : VLives} {v13 : VTales} {v17 : VForecast} {v18 : VLives} {v19 : VDeeds} {v20 : VPairs} {und mls : Nat → VLives} {mts : Nat → VTales} {w : VR} {P L g : Nat} (h : RELx P L g v0 v1 v2 v3 v7 v9 v10 v13 v17 und mls mts w) (a1 : Int32) : Ev (f_Bl_judged N v0 v1 v2 v3 v4 v5 v6 v7 v8 v9 v10 v11 v13 v17 v18 v19 v20 und mls mts a1) (fun r => Ev (f_R_judged N w a1) (fun q => r.1 = q.1 ∧ q.2.1 = 0 ∧ RELx P L g v0 v1 v2 (Laws_s_facts_stack v3 r.2.1 r.2.2.1) v7 v9 v10 v13 v17 und mls mts (R_s_thrown_facts_pile_state_g w q.2.1 q.2.2.1 q.2.2.2.1 q.2.2.2.2.1 q.2.2.2.2.2))) := by
  have hh := h
  obtain ⟨⟨hT, hB, hG, hD, -⟩, hl, -, -, -, -, -, hpl, -⟩ := h
  have h6 := hT.1.2
  obtain ⟨n, hn, y1, y2, y3⟩ := hpl
  have rel : ∀ (fa sk f2 pl st : Nat → Int32) (gg : Int64), Fr 1512 1558 (R_state w) st → RELx P L g v0 v1 v2 (Laws_s_facts_stack v3 fa sk) v7 v9 v10 v13 v17 und mls mts (R_s_thrown_facts_pile_state_g w 0 f2 pl st gg) := fun fa sk f2 pl st gg hf => hh.trial ⟨rfl, rfl, rfl, rfl, rfl, rfl, rfl, rfl, rfl, rfl, rfl, rfl, rfl⟩ rfl (fun j hj => hf j (by omega)) ⟨fa, sk, rfl⟩
  by_cases w1 : a1 < 0 ∨ 2 < a1
  · have hw : f_R_within N a1 0 2 = some 0 := within_no w1
    have e : f_Bl_judged N v0 v1 v2 v3 v4 v5 v6 v7 v8 v9 v10 v11 v13 v17 v18 v19 v20 und mls mts a1 = some (-2, Laws_facts v3, Laws_stack v3, Lives_purse v11, Lives_debt v11, Lives_home v11, Lives_hidden v11, Lives_self v11, Lives_worthThen v11, Lives_homeThen v11, Lives_away v11, Lives_days v11, Lives_homes v11, Lives_harm v11) := by
      unfold f_Bl_judged
      rcases w1 with w1 | w1
      · rw [if_pos w1]
      · rw [if_neg (show ¬ a1 < 0 by grind), if_neg (show ¬ a1 ≤ 2 by grind)]
    refine Ev.of e ?_
    unfold f_R_judged
    repeat (first | (with_reducible refine Ev.letE ?_) | (with_reducible refine Ev.ifn ?_ ?_; · (first | with_reducible assumption | decide | (simp (disch := omega) only [zlit, nI_add, pk_mul, pk_sub, zsubm, nI_clamp, nI_leI, nI_ltI, nI_eq, zeqF, Nat.reduceEqDiff, zleF, zleT, zltF, zltT, zneg1, zneg1L, zneg2, zneg0, eq_self, or_self, false_or, or_false, Nat.not_lt_zero, not_false_eq_true, not_true_eq_false]; done))) | (with_reducible refine Ev.ifp ?_ ?_; · (first | with_reducible assumption | decide | (simp (disch := omega) only [zlit, nI_add, pk_mul, pk_sub, zsubm, nI_clamp, nI_leI, nI_ltI, nI_eq, zeqF, Nat.reduceEqDiff, zleF, zleT, zltF, zltT, zneg1, zneg1L, zneg2, zneg0, eq_self, or_self, false_or, or_false, Nat.not_lt_zero, not_false_eq_true, not_true_eq_false]; done))) | (with_reducible refine Ev.bnd (hw) ?_) | (with_reducible refine Ev.bnd (x := some _) rfl ?_))
    exact Ev.ret ⟨rfl, rfl, rel _ _ _ _ _ _ (Fr.refl _ _ _)⟩
  · obtain ⟨w2, w3⟩ := not_or.mp w1
    have w4 : a1 ≤ 2 := by grind
    have hw : f_R_within N a1 0 2 = some 1 := within_yes w2 w3
    have both : Ev (f_Year_judge N v7 v11 v2 v3 v9) (fun r => Ev ((f_R_starts N (R_thrown_s w 0) 1512).bind fun q3 => f_R_judged_L28 N N (R_s_thrown_state w 0 q3) a1 (-1) 0 (R_facts w) (R_pile w) q3 (R_g w)) (fun q => r.1 = q.1 ∧ LR P 1512 q.2.2.2.1 (dlV r) ∧ Fr 1512 1558 (R_state w) q.2.2.2.1)) := by
      unfold f_Year_judge
      refine Ev.bnx (begin_ev hN) ?_
      rintro ⟨c1, c2, c3, c4, c5, c6, c7, c8, c9⟩ hag
      have hag : AGP 6 (c1, c2, c3, c4, c5, Lives_worthThen v11, Lives_homeThen v11, c6, c7, c8, c9) (startV v2) := hag
      obtain ⟨st, s1, s2, s3⟩ := starts_ev hN (w := R_thrown_s w 0) (v1 := v2) (v2 := v3) (P := P) (b := 1512) (by omega) hT
      have s1 : f_R_starts N (R_thrown_s w 0) 1512 = some st := s1
      have s3 : Fr 1512 1558 (R_state w) st := s3
      rw [s1]
      refine Ev.bnx (judge_loop hN (w := R_s_thrown_state w 0 st) (v2 := v2) (v3 := v3) (P := P) (L := L) (g := g) (u1 := Lives_s_purse_debt_home_hidden_self_away_days_homes_harm v11 c1 c2 c3 c4 c5 c6 c7 c8 c9) (y1 := a1) hT hB hG hl hn y1 y2 y3 n 0 N (-1) (c1, c2, c3, c4, c5, Lives_worthThen v11, Lives_homeThen v11, c6, c7, c8, c9) (Laws_facts v3) (Laws_stack v3) (R_facts w) (R_pile w) st (R_g w) (by omega) (by omega) (Or.inl rfl) (s2.ag (hag.le h6).symm) ((LI_start h6 hD).ag (hag.le h6).symm)) ?_
      rintro r ⟨q, e1, e2, e3, e4⟩
      exact Ev.ret ⟨q, e1, e2, e3, s3.trans e4⟩
    obtain ⟨r, d1, q, d2, d3, d4, d5⟩ := both
    obtain ⟨st, s1, s2⟩ := Option.bind_eq_some_iff.mp d2
    have g2 : q.2.2.2.1 (Int32.toNatClampNeg 1514) = Lives_homes (dlV r) := d4.2.2.2.1
    have g3 : q.2.2.2.1 (Int32.toNatClampNeg 1515) = Lives_harm (dlV r) := d4.2.2.2.2.1
    unfold f_Bl_judged f_R_judged
    by_cases k0 : a1 = 0
    · repeat (first | (with_reducible refine Ev.letE ?_) | (with_reducible refine Ev.ifn ?_ ?_; · (first | with_reducible assumption | decide | (simp (disch := omega) only [zlit, nI_add, pk_mul, pk_sub, zsubm, nI_clamp, nI_leI, nI_ltI, nI_eq, zeqF, Nat.reduceEqDiff, zleF, zleT, zltF, zltT, zneg1, zneg1L, zneg2, zneg0, eq_self, or_self, false_or, or_false, Nat.not_lt_zero, not_false_eq_true, not_true_eq_false]; done))) | (with_reducible refine Ev.ifp ?_ ?_; · (first | with_reducible assumption | decide | (simp (disch := omega) only [zlit, nI_add, pk_mul, pk_sub, zsubm, nI_clamp, nI_leI, nI_ltI, nI_eq, zeqF, Nat.reduceEqDiff, zleF, zleT, zltF, zltT, zneg1, zneg1L, zneg2, zneg0, eq_self, or_self, false_or, or_false, Nat.not_lt_zero, not_false_eq_true, not_true_eq_false]; done))) | (with_reducible refine Ev.bnd (d1) ?_) | (with_reducible refine Ev.bnd (x := some _) rfl ?_))
      refine Ev.ret ?_
      repeat (first | (with_reducible refine Ev.letE ?_) | (with_reducible refine Ev.ifn ?_ ?_; · (first | with_reducible assumption | decide | (simp (disch := omega) only [zlit, nI_add, pk_mul, pk_sub, zsubm, nI_clamp, nI_leI, nI_ltI, nI_eq, zeqF, Nat.reduceEqDiff, zleF, zleT, zltF, zltT, zneg1, zneg1L, zneg2, zneg0, eq_self, or_self, false_or, or_false, Nat.not_lt_zero, not_false_eq_true, not_true_eq_false]; done))) | (with_reducible refine Ev.ifp ?_ ?_; · (first | with_reducible assumption | decide | (simp (disch := omega) only [zlit, nI_add, pk_mul, pk_sub, zsubm, nI_clamp, nI_leI, nI_ltI, nI_eq, zeqF, Nat.reduceEqDiff, zleF, zleT, zltF, zltT, zneg1, zneg1L, zneg2, zneg0, eq_self, or_self, false_or, or_false, Nat.not_lt_zero, not_false_eq_true, not_true_eq_false]; done))) | (with_reducible refine Ev.bnd (hw) ?_) | (with_reducible refine Ev.bnd (s1) ?_) | (with_reducible refine Ev.bnd (s2) ?_) | (with_reducible refine Ev.bnd (x := some _) rfl ?_))
      exact Ev.ret ⟨d3, rfl, rel _ _ _ _ _ _ d5⟩
    · by_cases k1 : a1 = 1
      · repeat (first | (with_reducible refine Ev.letE ?_) | (with_reducible refine Ev.ifn ?_ ?_; · (first | with_reducible assumption | decide | (simp (disch := omega) only [zlit, nI_add, pk_mul, pk_sub, zsubm, nI_clamp, nI_leI, nI_ltI, nI_eq, zeqF, Nat.reduceEqDiff, zleF, zleT, zltF, zltT, zneg1, zneg1L, zneg2, zneg0, eq_self, or_self, false_or, or_false, Nat.not_lt_zero, not_false_eq_true, not_true_eq_false]; done))) | (with_reducible refine Ev.ifp ?_ ?_; · (first | with_reducible assumption | decide | (simp (disch := omega) only [zlit, nI_add, pk_mul, pk_sub, zsubm, nI_clamp, nI_leI, nI_ltI, nI_eq, zeqF, Nat.reduceEqDiff, zleF, zleT, zltF, zltT, zneg1, zneg1L, zneg2, zneg0, eq_self, or_self, false_or, or_false, Nat.not_lt_zero, not_false_eq_true, not_true_eq_false]; done))) | (with_reducible refine Ev.bnd (d1) ?_) | (with_reducible refine Ev.bnd (x := some _) rfl ?_))
        refine Ev.ret ?_
        repeat (first | (with_reducible refine Ev.letE ?_) | (with_reducible refine Ev.ifn ?_ ?_; · (first | with_reducible assumption | decide | (simp (disch := omega) only [zlit, nI_add, pk_mul, pk_sub, zsubm, nI_clamp, nI_leI, nI_ltI, nI_eq, zeqF, Nat.reduceEqDiff, zleF, zleT, zltF, zltT, zneg1, zneg1L, zneg2, zneg0, eq_self, or_self, false_or, or_false, Nat.not_lt_zero, not_false_eq_true, not_true_eq_false]; done))) | (with_reducible refine Ev.ifp ?_ ?_; · (first | with_reducible assumption | decide | (simp (disch := omega) only [zlit, nI_add, pk_mul, pk_sub, zsubm, nI_clamp, nI_leI, nI_ltI, nI_eq, zeqF, Nat.reduceEqDiff, zleF, zleT, zltF, zltT, zneg1, zneg1L, zneg2, zneg0, eq_self, or_self, false_or, or_false, Nat.not_lt_zero, not_false_eq_true, not_true_eq_false]; done))) | (with_reducible refine Ev.bnd (hw) ?_) | (with_reducible refine Ev.bnd (s1) ?_) | (with_reducible refine Ev.bnd (s2) ?_) | (with_reducible refine Ev.bnd (x := some _) rfl ?_))
        exact Ev.ret ⟨g2.symm, rfl, rel _ _ _ _ _ _ d5⟩
      · repeat (first | (with_reducible refine Ev.letE ?_) | (with_reducible refine Ev.ifn ?_ ?_; · (first | with_reducible assumption | decide | (simp (disch := omega) only [zlit, nI_add, pk_mul, pk_sub, zsubm, nI_clamp, nI_leI, nI_ltI, nI_eq, zeqF, Nat.reduceEqDiff, zleF, zleT, zltF, zltT, zneg1, zneg1L, zneg2, zneg0, eq_self, or_self, false_or, or_false, Nat.not_lt_zero, not_false_eq_true, not_true_eq_false]; done))) | (with_reducible refine Ev.ifp ?_ ?_; · (first | with_reducible assumption | decide | (simp (disch := omega) only [zlit, nI_add, pk_mul, pk_sub, zsubm, nI_clamp, nI_leI, nI_ltI, nI_eq, zeqF, Nat.reduceEqDiff, zleF, zleT, zltF, zltT, zneg1, zneg1L, zneg2, zneg0, eq_self, or_self, false_or, or_false, Nat.not_lt_zero, not_false_eq_true, not_true_eq_false]; done))) | (with_reducible refine Ev.bnd (d1) ?_) | (with_reducible refine Ev.bnd (x := some _) rfl ?_))
        refine Ev.ret ?_
        repeat (first | (with_reducible refine Ev.letE ?_) | (with_reducible refine Ev.ifn ?_ ?_; · (first | with_reducible assumption | decide | (simp (disch := omega) only [zlit, nI_add, pk_mul, pk_sub, zsubm, nI_clamp, nI_leI, nI_ltI, nI_eq, zeqF, Nat.reduceEqDiff, zleF, zleT, zltF, zltT, zneg1, zneg1L, zneg2, zneg0, eq_self, or_self, false_or, or_false, Nat.not_lt_zero, not_false_eq_true, not_true_eq_false]; done))) | (with_reducible refine Ev.ifp ?_ ?_; · (first | with_reducible assumption | decide | (simp (disch := omega) only [zlit, nI_add, pk_mul, pk_sub, zsubm, nI_clamp, nI_leI, nI_ltI, nI_eq, zeqF, Nat.reduceEqDiff, zleF, zleT, zltF, zltT, zneg1, zneg1L, zneg2, zneg0, eq_self, or_self, false_or, or_false, Nat.not_lt_zero, not_false_eq_true, not_true_eq_false]; done))) | (with_reducible refine Ev.bnd (hw) ?_) | (with_reducible refine Ev.bnd (s1) ?_) | (with_reducible refine Ev.bnd (s2) ?_) | (with_reducible refine Ev.bnd (x := some _) rfl ?_))
        exact Ev.ret ⟨g3.symm, rfl, rel _ _ _ _ _ _ d5⟩
