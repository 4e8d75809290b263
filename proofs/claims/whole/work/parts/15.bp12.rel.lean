/-! ===== class and reference stand alike ===== -/
def tapeR (w : VR) (v1 : VTape) : Prop := ∃ n, n ≤ 1000 ∧ Tape_length v1 = nI n ∧ R_taped w = nI n ∧ ∀ k, k < n → ∃ c : Nat, (c = 10 ∨ (32 ≤ c ∧ c ≤ 126)) ∧ Tape_signs v1 k = nI c ∧ R_tape w k = nI c
def barR (w : VR) (v2 : VTown) (P : Nat) : Prop := Town_bars v2 = R_towns w 1 ∧ ∀ p l, p < P → l < P → (R_towns w (38 + 6 * p + l) = 0 ∧ ((Town_barred v2 p >>> (nI l &&& 31)) &&& 1) = 0) ∨ (R_towns w (38 + 6 * p + l) = 1 ∧ ¬ ((Town_barred v2 p >>> (nI l &&& 31)) &&& 1) = 0)
def signR (w : VR) (v2 : VTown) (g : Nat) : Prop := g ≤ 999 ∧ Town_sign v2 = nI g ∧ R_towns w 2 = nI g ∧ R_signed w = nI g
def toldR (v2 : VTown) (P : Nat) : Prop := ∀ l, l < P → (∃ n, n ≤ 999 ∧ Town_purses v2 l = nI n) ∧ (∃ n, n ≤ 999 ∧ Town_debts v2 l = nI n) ∧ (∃ n, n ≤ 9 ∧ Town_homes v2 l = nI n) ∧ (∃ n, n ≤ 9 ∧ Town_skills v2 l = nI n)
def taleR (P b : Nat) (st : Nat → Int32) (t : VTales) : Prop := ∃ n, n ≤ 8 ∧ Tales_count t = nI n ∧ st (b + 46) = nI n ∧ ∀ i, i < n → ∃ l d p : Nat, l < P ∧ 1 ≤ d ∧ d ≤ 7 ∧ p ≤ 9999 ∧ Tales_lives t i = nI l ∧ st (b + 47 + 3 * i) = nI l ∧ Tales_days t i = nI d ∧ st (b + 48 + 3 * i) = nI d ∧ Tales_purses t i = nI p ∧ st (b + 49 + 3 * i) = nI p
def undR (P : Nat) (v0 : VBl) (und : Nat → VLives) (w : VR) : Prop := ∃ u q : Nat, u ≤ 16 ∧ q < 17 ∧ Bl_undoable v0 = nI u ∧ R_undos w = nI u ∧ Bl_nextUndo v0 = nI q ∧ ∀ i, i < u → LR P (72 * (5 + i)) (R_state w) (und ((q + 17 - u + i) % 17)) ∧ LI P (und ((q + 17 - u + i) % 17))
def markR (P : Nat) (v0 : VBl) (mls : Nat → VLives) (mts : Nat → VTales) (w : VR) : Prop := ∀ m, m < 4 → (Bl_laid v0 m = 0 ∧ R_isMarked w m = 0) ∨ (Bl_laid v0 m = 1 ∧ R_isMarked w m = 1 ∧ LR P (72 * (1 + m)) (R_state w) (mls m) ∧ LI P (mls m) ∧ taleR P (72 * (1 + m)) (R_state w) (mts m))
def lineR (P : Nat) (wd fi se a b c : Int32) : Prop := (wd = 139 ∧ a = 0 ∧ ∃ l n, l < P ∧ n ≤ 999 ∧ fi = nI l ∧ b = nI l ∧ se = nI n ∧ c = nI n) ∨ (wd = 140 ∧ a = 1 ∧ ∃ s, s ≤ 9999 ∧ fi = nI s ∧ b = nI s) ∨ (wd = 141 ∧ a = 2 ∧ ∃ p q, p < P ∧ q < P ∧ ¬ p = q ∧ fi = nI p ∧ b = nI p ∧ se = nI q ∧ c = nI q) ∨ (wd = 142 ∧ a = 3) ∨ (wd = 132 ∧ a = 4)
def planR (P : Nat) (v7 : VYear) (w : VR) : Prop := ∃ n, n ≤ 40 ∧ Year_lines v7 = nI n ∧ R_lines w 0 = nI n ∧ ∀ k, k < n → lineR P (Year_words v7 k) (Year_first v7 k) (Year_second v7 k) (R_lines w (1 + 3 * k)) (R_lines w (2 + 3 * k)) (R_lines w (3 + 3 * k))
/-! words: their letters from 1 to 26 -/
def nB (B : Nat) : List Nat → Nat → Nat
  | [], a => a
  | d :: r, a => nB B r (a * B + d)
def wordOk (ls : List Nat) : Prop := 1 ≤ ls.length ∧ ls.length ≤ 8 ∧ ∀ d, d ∈ ls → 1 ≤ d ∧ d ≤ 26
def nameR (w : VR) (v2 : VTown) (P : Nat) : Prop := R_namesMany w = nI P ∧ (∀ k, k < P → ∃ ls, wordOk ls ∧ Town_names v2 k = lN (nB 27 ls 0) ∧ R_names w k = lN (nB 37 ls 0)) ∧ ∀ j k, j < P → k < P → Town_names v2 j = Town_names v2 k → j = k
def zWords : List Nat := [1119812451, 36179019, 31075639, 209551, 426245, 2793, 975001, 1347794357, 24636691, 375665, 1178051, 417698, 17003, 993947, 5538, 30596128, 24846184, 37900956, 24449544, 19741, 1891, 573, 25143264, 791471, 716044, 53840, 38396496]
def wordsR (w : VR) : Prop := ∀ k, k < 27 → R_words w k = lN (zWords.getD k 0)
/-- how all stands behind a DAY, by a LOT drawn now -/
def wkV (v2 : VTown) (v3 : VLaws) (v9 : VLots) (P g : Nat) (v : VLives) (p d : Nat) : VLives := daysV v2 v3 P (nI g) d (leaveV v (rowOf v9 p))
def heldR (P L g : Nat) (v2 : VTown) (v3 : VLaws) (v9 : VLots) (v10 : VLives) (held harms : Nat → Int32) : Prop := ∀ p, p < L → (∀ d l, d < 7 → l < P → held (p * 42 + d * 6 + l) = Lives_purse (wkV v2 v3 v9 P g v10 p (d + 1)) l) ∧ harms p = sumN (hmOf (wkV v2 v3 v9 P g v10 p 7)) P 0 0
/-- the HARM of a LIFE by all LOTS, if so much of its purse is hidden -/
def hideV (v : VLives) (l : Nat) (c : Int32) : VLives := Lives_hidden_s v (upd (Lives_hidden v) l c)
def ownN (v2 : VTown) (v3 : VLaws) (v9 : VLots) (P g : Nat) (v : VLives) (l : Nat) : Nat → Nat → Nat
  | 0, _ => 0
  | r + 1, p => (hmOf (wkV v2 v3 v9 P g v p 7) l).toNatClampNeg + ownN v2 v3 v9 P g v l r (p + 1)
/-- the first of the least -/
def bestN (f : Nat → Nat) : Nat → Nat
  | 0 => 0
  | n + 1 => if f (n + 1) < f (bestN f n) then n + 1 else bestN f n
def prepR (P L g : Nat) (v2 : VTown) (v3 : VLaws) (v9 : VLots) (v10 : VLives) (v17 : VForecast) : Prop := Forecast_prepared v17 = (-1) ∨ ∃ l n, l < P ∧ Forecast_prepared v17 = nI l ∧ Lives_purse v10 l = nI n ∧ n ≤ 9999 ∧ Forecast_bestCoins v17 = nI (25 * bestN (fun k => ownN v2 v3 v9 P g (hideV v10 l (nI (25 * k))) l L 0) (n / 25)) ∧ Forecast_bestHarm v17 = lN (ownN v2 v3 v9 P g (hideV v10 l (nI (25 * bestN (fun k => ownN v2 v3 v9 P g (hideV v10 l (nI (25 * k))) l L 0) (n / 25)))) l L 0)
def foreR (P L g : Nat) (v2 : VTown) (v3 : VLaws) (v9 : VLots) (v10 : VLives) (v17 : VForecast) : Prop := (Forecast_ready v17 = 0 ∨ (Forecast_ready v17 = 1 ∧ heldR P L g v2 v3 v9 v10 (Forecast_held v17) (Forecast_harms v17))) ∧ prepR P L g v2 v3 v9 v10 v17 ∧ ∀ k, k < 10000 → Forecast_tally v17 k = 0
def RELx (P L g : Nat) (v0 : VBl) (v1 : VTape) (v2 : VTown) (v3 : VLaws) (v7 : VYear) (v9 : VLots) (v10 : VLives) (v13 : VTales) (v17 : VForecast) (und mls : Nat → VLives) (mts : Nat → VTales) (w : VR) : Prop :=
  (townR w v2 v3 P ∧ barR w v2 P ∧ signR w v2 g ∧ toldR v2 P ∧ nameR w v2 P ∧ wordsR w) ∧ lotsR w v9 P L ∧ (LR P 0 (R_state w) v10 ∧ LI P v10) ∧ tapeR w v1 ∧ taleR P 0 (R_state w) v13 ∧ undR P v0 und w ∧ markR P v0 mls mts w ∧ planR P v7 w ∧ foreR P L g v2 v3 v9 v10 v17
/-- but for its state and what can be undone the reference stands as it stood -/
def SameT (w w' : VR) : Prop := R_towns w' = R_towns w ∧ R_op w' = R_op w ∧ R_arg w' = R_arg w ∧ R_signed w' = R_signed w ∧ R_names w' = R_names w ∧ R_namesMany w' = R_namesMany w ∧ R_words w' = R_words w ∧ R_lotRows w' = R_lotRows w ∧ R_lotsMany w' = R_lotsMany w ∧ R_tape w' = R_tape w ∧ R_taped w' = R_taped w ∧ R_isMarked w' = R_isMarked w ∧ R_lines w' = R_lines w
theorem SameT.town {w w' : VR} {v2 : VTown} {v3 : VLaws} {P g : Nat} (s : SameT w w') (h : townR w v2 v3 P ∧ barR w v2 P ∧ signR w v2 g ∧ toldR v2 P ∧ nameR w v2 P ∧ wordsR w) : townR w' v2 v3 P ∧ barR w' v2 P ∧ signR w' v2 g ∧ toldR v2 P ∧ nameR w' v2 P ∧ wordsR w' := by
  obtain ⟨s1, s2, s3, s4, s5, s6, s7, -⟩ := s
  unfold townR barR signR nameR wordsR at h ⊢
  rw [s1, s2, s3, s4, s5, s6, s7]
  exact h
theorem SameT.lots {w w' : VR} {v9 : VLots} {P L : Nat} (s : SameT w w') (h : lotsR w v9 P L) : lotsR w' v9 P L := by
  obtain ⟨-, -, -, -, -, -, -, s8, s9, -⟩ := s
  unfold lotsR at h ⊢
  rw [s8, s9]
  exact h
theorem SameT.tape {w w' : VR} {v1 : VTape} (s : SameT w w') (h : tapeR w v1) : tapeR w' v1 := by
  obtain ⟨-, -, -, -, -, -, -, -, -, s1, s2, -⟩ := s
  unfold tapeR at h ⊢
  rw [s1, s2]
  exact h
theorem SameT.plan {w w' : VR} {v7 : VYear} {P : Nat} (s : SameT w w') (h : planR P v7 w) : planR P v7 w' := by
  obtain ⟨-, -, -, -, -, -, -, -, -, -, -, -, s1⟩ := s
  unfold planR at h ⊢
  rw [s1]
  exact h
theorem RELx.same {P L g : Nat} {v0 : VBl} {v1 : VTape} {v2 : VTown} {v3 : VLaws} {v7 : VYear} {v9 : VLots} {v10 : VLives} {v13 : VTales} {v17 : VForecast} {und mls : Nat → VLives} {mts : Nat → VTales} {w w' : VR} (h : RELx P L g v0 v1 v2 v3 v7 v9 v10 v13 v17 und mls mts w) (s : SameT w w') (s1 : R_state w' = R_state w) (s2 : R_undos w' = R_undos w) : RELx P L g v0 v1 v2 v3 v7 v9 v10 v13 v17 und mls mts w' := by
  obtain ⟨a1, a2, a3, a4, a5, a6, a7, a8, a9⟩ := h
  refine ⟨s.town a1, s.lots a2, by rw [s1]; exact a3, s.tape a4, by rw [s1]; exact a5, ?_, ?_, s.plan a8, a9⟩
  · unfold undR at a6 ⊢
    rw [s1, s2]; exact a6
  · obtain ⟨-, -, -, -, -, -, -, -, -, -, -, s3, -⟩ := s
    unfold markR at a7 ⊢
    rw [s1, s3]; exact a7
/-! ===== parts of the reference ===== -/
theorem isPerson_both {N : Nat} {w : VR} {v2 : VTown} {v3 : VLaws} {P : Nat} (hT : townR w v2 v3 P) (x : Int32) : (f_Town_has N v2 v3 x = some 0 ∧ f_R_isPerson N w x = some 0) ∨ ∃ l, l < P ∧ x = nI l ∧ f_Town_has N v2 v3 x = some 1 ∧ f_R_isPerson N w x = some 1 := by
  have h6 := hT.1.2
  have hpe := people_ok (N := N) hT
  unfold f_R_isPerson
  rw [hpe]
  rcases pk_ix x (n := P) (by omega) with h | h | ⟨j, hj, rfl⟩
  · left
    refine ⟨?_, by rw [if_pos h]⟩
    unfold f_Town_has
    rw [if_pos h]
  · left
    refine ⟨?_, ?_⟩
    · unfold f_Town_has
      rw [hT.1.1, if_pos h]
      split <;> rfl
    · split
      · rfl
      · show (if nI P ≤ x then some 0 else some 1) = some 0
        rw [if_pos h]
  · right
    refine ⟨j, hj, rfl, has_ok hT.1 hj, ?_⟩
    rw [if_neg (nI_pos (by omega))]
    show (if nI P ≤ nI j then some 0 else some 1) = some 1
    rw [if_neg (nI_ge hj (by omega))]
theorem within_no {N : Nat} {x a b : Int32} (h : x < a ∨ b < x) : f_R_within N x a b = some 0 := by
  unfold f_R_within
  rcases h with h | h
  · rw [if_pos h]
  · split
    · rfl
    · first | rfl | rw [if_pos h]
theorem within_yes {N : Nat} {x a b : Int32} (h : ¬ x < a) (h2 : ¬ b < x) : f_R_within N x a b = some 1 := by
  unfold f_R_within
  rw [if_neg h, if_neg h2]
theorem isBarred_ok {N : Nat} {v2 : VTown} {v3 : VLaws} {P p l : Nat} (hP : tpl v2 P) (hp : p < P) (hl : l < P) : f_Town_isBarred N v2 v3 (nI p) (nI l) = some (if ((Town_barred v2 p >>> (nI l &&& 31)) &&& 1) = 0 then 0 else 1) := by
  have h6 := hP.2
  unfold f_Town_isBarred
  rw [nI_clamp (n := p) (by omega)]
  have hp1 := has_ok (N := N) (v2 := v3) hP hp
  have hl1 := has_ok (N := N) (v2 := v3) hP hl
  by_cases h : ((Town_barred v2 p >>> (nI l &&& 31)) &&& 1) = 0
  · repeat (first | (with_reducible refine zletE ?_) | (with_reducible refine zifn ?_ ?_; · (first | with_reducible assumption | decide | (simp (disch := omega) only [zlit, nI_add, pk_mul, pk_sub, zsubm, nI_clamp, nI_leI, nI_ltI, nI_eq, zeqF, Nat.reduceEqDiff, zleF, zleT, zltF, zltT, zneg1, zneg1L, zneg2, zneg0, eq_self, or_self, false_or, or_false, Nat.not_lt_zero, not_false_eq_true, not_true_eq_false]; done))) | (with_reducible refine zifp ?_ ?_; · (first | with_reducible assumption | decide | (simp (disch := omega) only [zlit, nI_add, pk_mul, pk_sub, zsubm, nI_clamp, nI_leI, nI_ltI, nI_eq, zeqF, Nat.reduceEqDiff, zleF, zleT, zltF, zltT, zneg1, zneg1L, zneg2, zneg0, eq_self, or_self, false_or, or_false, Nat.not_lt_zero, not_false_eq_true, not_true_eq_false]; done))) | (with_reducible refine bnd (hp1) ?_) | (with_reducible refine bnd (hl1) ?_) | (with_reducible refine bnd (x := some _) rfl ?_))
    rw [if_pos h]
  · repeat (first | (with_reducible refine zletE ?_) | (with_reducible refine zifn ?_ ?_; · (first | with_reducible assumption | decide | (simp (disch := omega) only [zlit, nI_add, pk_mul, pk_sub, zsubm, nI_clamp, nI_leI, nI_ltI, nI_eq, zeqF, Nat.reduceEqDiff, zleF, zleT, zltF, zltT, zneg1, zneg1L, zneg2, zneg0, eq_self, or_self, false_or, or_false, Nat.not_lt_zero, not_false_eq_true, not_true_eq_false]; done))) | (with_reducible refine zifp ?_ ?_; · (first | with_reducible assumption | decide | (simp (disch := omega) only [zlit, nI_add, pk_mul, pk_sub, zsubm, nI_clamp, nI_leI, nI_ltI, nI_eq, zeqF, Nat.reduceEqDiff, zleF, zleT, zltF, zltT, zneg1, zneg1L, zneg2, zneg0, eq_self, or_self, false_or, or_false, Nat.not_lt_zero, not_false_eq_true, not_true_eq_false]; done))) | (with_reducible refine bnd (hp1) ?_) | (with_reducible refine bnd (hl1) ?_) | (with_reducible refine bnd (x := some _) rfl ?_))
    rw [if_neg h]
theorem mayBe_ok {N : Nat} {w : VR} {v2 : VTown} {v3 : VLaws} {P p l : Nat} (hT : townR w v2 v3 P) (hB : barR w v2 P) (hp : p < P) (hl : l < P) : ∃ r, f_R_mayBe N w (nI p) (nI l) = some r ∧ f_Town_allows N v2 v3 (nI p) (nI l) = some r ∧ (r = 0 ∨ r = 1) := by
  have h6 := hT.1.2
  have i1 : Int32.toNatClampNeg ((38 + 6 * nI p) + nI l) = 38 + 6 * p + l := by
    rw [show (38 + 6 * nI p) + nI l = nI (38 + 6 * p + l) by simp (maxSteps := 2000000) (disch := omega) only [zlit, nI_add, pk_mul, nI_clamp], nI_clamp (by omega)]
  unfold f_R_mayBe f_Town_allows
  rw [i1]
  have hp1 := has_ok (N := N) (v2 := v3) hT.1 hp
  have hl1 := has_ok (N := N) (v2 := v3) hT.1 hl
  have hb := isBarred_ok (N := N) (v3 := v3) hT.1 hp hl
  by_cases he : p = l
  · have he : nI p = nI l := by rw [he]
    refine ⟨0, ?_, ?_, Or.inl rfl⟩
    · rw [if_pos he]
    · repeat (first | (with_reducible refine zletE ?_) | (with_reducible refine zifn ?_ ?_; · (first | with_reducible assumption | decide | (simp (disch := omega) only [zlit, nI_add, pk_mul, pk_sub, zsubm, nI_clamp, nI_leI, nI_ltI, nI_eq, zeqF, Nat.reduceEqDiff, zleF, zleT, zltF, zltT, zneg1, zneg1L, zneg2, zneg0, eq_self, or_self, false_or, or_false, Nat.not_lt_zero, not_false_eq_true, not_true_eq_false]; done))) | (with_reducible refine zifp ?_ ?_; · (first | with_reducible assumption | decide | (simp (disch := omega) only [zlit, nI_add, pk_mul, pk_sub, zsubm, nI_clamp, nI_leI, nI_ltI, nI_eq, zeqF, Nat.reduceEqDiff, zleF, zleT, zltF, zltT, zneg1, zneg1L, zneg2, zneg0, eq_self, or_self, false_or, or_false, Nat.not_lt_zero, not_false_eq_true, not_true_eq_false]; done))) | (with_reducible refine bnd (hp1) ?_) | (with_reducible refine bnd (hl1) ?_) | (with_reducible refine bnd (x := some _) rfl ?_))
      rfl
  · have he : ¬ nI p = nI l := fun q => he ((nI_eq (by omega) (by omega)).mp q)
    rcases hB.2 p l hp hl with ⟨h1, h2⟩ | ⟨h1, h2⟩
    · rw [if_pos h2] at hb
      refine ⟨1, ?_, ?_, Or.inr rfl⟩
      · rw [h1]
        repeat (first | (with_reducible refine zletE ?_) | (with_reducible refine zifn ?_ ?_; · (first | with_reducible assumption | decide | (simp (disch := omega) only [zlit, nI_add, pk_mul, pk_sub, zsubm, nI_clamp, nI_leI, nI_ltI, nI_eq, zeqF, Nat.reduceEqDiff, zleF, zleT, zltF, zltT, zneg1, zneg1L, zneg2, zneg0, eq_self, or_self, false_or, or_false, Nat.not_lt_zero, not_false_eq_true, not_true_eq_false]; done))) | (with_reducible refine zifp ?_ ?_; · (first | with_reducible assumption | decide | (simp (disch := omega) only [zlit, nI_add, pk_mul, pk_sub, zsubm, nI_clamp, nI_leI, nI_ltI, nI_eq, zeqF, Nat.reduceEqDiff, zleF, zleT, zltF, zltT, zneg1, zneg1L, zneg2, zneg0, eq_self, or_self, false_or, or_false, Nat.not_lt_zero, not_false_eq_true, not_true_eq_false]; done))) | (with_reducible refine bnd (x := some _) rfl ?_))
        rfl
      · repeat (first | (with_reducible refine zletE ?_) | (with_reducible refine zifn ?_ ?_; · (first | with_reducible assumption | decide | (simp (disch := omega) only [zlit, nI_add, pk_mul, pk_sub, zsubm, nI_clamp, nI_leI, nI_ltI, nI_eq, zeqF, Nat.reduceEqDiff, zleF, zleT, zltF, zltT, zneg1, zneg1L, zneg2, zneg0, eq_self, or_self, false_or, or_false, Nat.not_lt_zero, not_false_eq_true, not_true_eq_false]; done))) | (with_reducible refine zifp ?_ ?_; · (first | with_reducible assumption | decide | (simp (disch := omega) only [zlit, nI_add, pk_mul, pk_sub, zsubm, nI_clamp, nI_leI, nI_ltI, nI_eq, zeqF, Nat.reduceEqDiff, zleF, zleT, zltF, zltT, zneg1, zneg1L, zneg2, zneg0, eq_self, or_self, false_or, or_false, Nat.not_lt_zero, not_false_eq_true, not_true_eq_false]; done))) | (with_reducible refine bnd (hp1) ?_) | (with_reducible refine bnd (hl1) ?_) | (with_reducible refine bnd (hb) ?_) | (with_reducible refine bnd (x := some _) rfl ?_))
        rfl
    · rw [if_neg h2] at hb
      refine ⟨0, ?_, ?_, Or.inl rfl⟩
      · rw [h1]
        repeat (first | (with_reducible refine zletE ?_) | (with_reducible refine zifn ?_ ?_; · (first | with_reducible assumption | decide | (simp (disch := omega) only [zlit, nI_add, pk_mul, pk_sub, zsubm, nI_clamp, nI_leI, nI_ltI, nI_eq, zeqF, Nat.reduceEqDiff, zleF, zleT, zltF, zltT, zneg1, zneg1L, zneg2, zneg0, eq_self, or_self, false_or, or_false, Nat.not_lt_zero, not_false_eq_true, not_true_eq_false]; done))) | (with_reducible refine zifp ?_ ?_; · (first | with_reducible assumption | decide | (simp (disch := omega) only [zlit, nI_add, pk_mul, pk_sub, zsubm, nI_clamp, nI_leI, nI_ltI, nI_eq, zeqF, Nat.reduceEqDiff, zleF, zleT, zltF, zltT, zneg1, zneg1L, zneg2, zneg0, eq_self, or_self, false_or, or_false, Nat.not_lt_zero, not_false_eq_true, not_true_eq_false]; done))) | (with_reducible refine bnd (x := some _) rfl ?_))
        rfl
      · repeat (first | (with_reducible refine zletE ?_) | (with_reducible refine zifn ?_ ?_; · (first | with_reducible assumption | decide | (simp (disch := omega) only [zlit, nI_add, pk_mul, pk_sub, zsubm, nI_clamp, nI_leI, nI_ltI, nI_eq, zeqF, Nat.reduceEqDiff, zleF, zleT, zltF, zltT, zneg1, zneg1L, zneg2, zneg0, eq_self, or_self, false_or, or_false, Nat.not_lt_zero, not_false_eq_true, not_true_eq_false]; done))) | (with_reducible refine zifp ?_ ?_; · (first | with_reducible assumption | decide | (simp (disch := omega) only [zlit, nI_add, pk_mul, pk_sub, zsubm, nI_clamp, nI_leI, nI_ltI, nI_eq, zeqF, Nat.reduceEqDiff, zleF, zleT, zltF, zltT, zneg1, zneg1L, zneg2, zneg0, eq_self, or_self, false_or, or_false, Nat.not_lt_zero, not_false_eq_true, not_true_eq_false]; done))) | (with_reducible refine bnd (hp1) ?_) | (with_reducible refine bnd (hl1) ?_) | (with_reducible refine bnd (hb) ?_) | (with_reducible refine bnd (x := some _) rfl ?_))
        rfl
/-! ===== blocks that stay, blocks that are copied ===== -/
theorem LR.keep {P b : Nat} {st st' : Nat → Int32} {v : VLives} (hP : P ≤ 6) (h : LR P b st v) (hk : ∀ j, b ≤ j → j < b + 46 → st' j = st j) : LR P b st' v := by
  obtain ⟨h1, h2, h3, h4, h5, h7, h8⟩ := h
  refine ⟨fun l hl => ?_, ?_, ?_, ?_, ?_, h7, fun ha l hl => ?_⟩
  · rw [hk _ (by omega) (by omega), hk _ (by omega) (by omega), hk _ (by omega) (by omega), hk _ (by omega) (by omega), hk _ (by omega) (by omega)]
    exact h1 l hl
  · rw [hk _ (by omega) (by omega)]; exact h2
  · rw [hk _ (by omega) (by omega)]; exact h3
  · rw [hk _ (by omega) (by omega)]; exact h4
  · rw [hk _ (by omega) (by omega)]; exact h5
  · rw [hk _ (by omega) (by omega), hk _ (by omega) (by omega)]; exact h8 ha l hl
theorem LR.moved {P a b : Nat} {st st' : Nat → Int32} {v : VLives} (hP : P ≤ 6) (h : LR P a st v) (hk : ∀ j, j < 46 → st' (b + j) = st (a + j)) : LR P b st' v := by
  obtain ⟨h1, h2, h3, h4, h5, h7, h8⟩ := h
  have e : ∀ c l, c + l < 46 → st' (b + c + l) = st (a + c + l) := fun c l hc => by
    rw [show b + c + l = b + (c + l) by omega, hk _ hc, show a + (c + l) = a + c + l by omega]
  refine ⟨fun l hl => ?_, ?_, ?_, ?_, ?_, h7, fun ha l hl => ?_⟩
  · rw [e 4 l (by omega), e 10 l (by omega), e 16 l (by omega), e 22 l (by omega), e 28 l (by omega)]
    exact h1 l hl
  · rw [hk _ (by omega)]; exact h2
  · rw [hk _ (by omega)]; exact h3
  · rw [hk _ (by omega)]; exact h4
  · rw [hk _ (by omega)]; exact h5
  · rw [e 34 l (by omega), e 40 l (by omega)]; exact h8 ha l hl
theorem taleR.keep {P b : Nat} {st st' : Nat → Int32} {t : VTales} (h : taleR P b st t) (hk : ∀ j, b + 46 ≤ j → j < b + 72 → st' j = st j) : taleR P b st' t := by
  obtain ⟨n, h1, h2, h3, h4⟩ := h
  refine ⟨n, h1, h2, ?_, fun i hi => ?_⟩
  · rw [hk _ (by omega) (by omega)]; exact h3
  · rw [hk _ (by omega) (by omega), hk _ (by omega) (by omega), hk _ (by omega) (by omega)]
    exact h4 i hi
theorem taleR.moved {P a b : Nat} {st st' : Nat → Int32} {t : VTales} (h : taleR P a st t) (hk : ∀ j, j < 72 → st' (b + j) = st (a + j)) : taleR P b st' t := by
  obtain ⟨n, h1, h2, h3, h4⟩ := h
  have e : ∀ c i, c + i < 72 → st' (b + c + i) = st (a + c + i) := fun c l hc => by
    rw [show b + c + l = b + (c + l) by omega, hk _ hc, show a + (c + l) = a + c + l by omega]
  refine ⟨n, h1, h2, ?_, fun i hi => ?_⟩
  · rw [hk _ (by omega)]; exact h3
  · rw [e 47 (3 * i) (by omega), e 48 (3 * i) (by omega), e 49 (3 * i) (by omega)]
    exact h4 i hi
theorem markR.keep {P : Nat} {v0 : VBl} {mls : Nat → VLives} {mts : Nat → VTales} {w w' : VR} (hP : P ≤ 6) (h : markR P v0 mls mts w) (hm : R_isMarked w' = R_isMarked w) (hk : ∀ j, 72 ≤ j → j < 360 → R_state w' j = R_state w j) : markR P v0 mls mts w' := by
  intro m hm4
  rw [hm]
  rcases h m hm4 with h1 | ⟨h1, h2, h3, h4, h5⟩
  · exact Or.inl h1
  · exact Or.inr ⟨h1, h2, h3.keep hP (fun j a b => hk j (by omega) (by omega)), h4, h5.keep (fun j a b => hk j (by omega) (by omega))⟩
theorem undR.keep {P : Nat} {v0 : VBl} {und : Nat → VLives} {w w' : VR} (hP : P ≤ 6) (h : undR P v0 und w) (hm : R_undos w' = R_undos w) (hk : ∀ j, 360 ≤ j → j < 1512 → R_state w' j = R_state w j) : undR P v0 und w' := by
  obtain ⟨u, q, h1, h2, h3, h4, h5, h6⟩ := h
  refine ⟨u, q, h1, h2, h3, by rw [hm]; exact h4, h5, fun i hi => ⟨(h6 i hi).1.keep hP (fun j a b => hk j (by omega) (by omega)), (h6 i hi).2⟩⟩
