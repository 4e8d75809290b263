/-! ===== lives: leaving, harm, coming home ===== -/
def sumN (f : Nat → Int32) : Nat → Nat → Int32 → Int32
  | 0, _, a => a
  | r + 1, k, a => sumN f r (k + 1) (a + f k)
theorem sumN_cong {f g : Nat → Int32} : ∀ {r k : Nat} {a : Int32}, (∀ l, k ≤ l → l < k + r → f l = g l) → sumN f r k a = sumN g r k a
  | 0, _, _, _ => rfl
  | r + 1, k, a, h => by
    show sumN f r (k + 1) (a + f k) = sumN g r (k + 1) (a + g k)
    rw [h k (by omega) (by omega), sumN_cong (fun l h1 h2 => h l (by omega) (by omega))]
def harm1 (wo pu de nt ho : Int32) : Int32 := (if 0 < wo - (pu - de) then wo - (pu - de) else 0) + 5 * (if 0 < nt - ho then nt - ho else 0)
def good1 (wo pu de nt ho : Int32) : Int32 := (if 0 < (pu - de) - wo then (pu - de) - wo else 0) + 5 * (if 0 < ho - nt then ho - nt else 0)
def hmOf (v : VLives) (l : Nat) : Int32 := if Lives_away v = 0 then 0 else harm1 (Lives_worthThen v l) (Lives_purse v l) (Lives_debt v l) (Lives_homeThen v l) (Lives_home v l)
def gdOf (v : VLives) (l : Nat) : Int32 := if Lives_away v = 0 then 0 else good1 (Lives_worthThen v l) (Lives_purse v l) (Lives_debt v l) (Lives_homeThen v l) (Lives_home v l)
theorem harmOf_ok {N : Nat} {v : VLives} {v1 : VTown} {v2 : VLaws} {P l : Nat} (hP : tpl v1 P) (hl : l < P) : f_Lives_harmOf N v v1 v2 (nI l) = some (hmOf v l) := by
  have h6 := hP.2
  unfold f_Lives_harmOf hmOf
  rw [nI_clamp (n := l) (by omega)]
  by_cases h : Lives_away v = 0
  · rw [if_pos h, if_pos h]
  · rw [if_neg h, if_neg h]
    repeat (first | (with_reducible refine zletE ?_) | (with_reducible refine zifn ?_ ?_; · (first | with_reducible assumption | decide | (simp (disch := omega) only [zlit, nI_add, pk_mul, pk_sub, zsubm, nI_clamp, nI_leI, nI_ltI, nI_eq, zeqF, Nat.reduceEqDiff, zleF, zleT, zltF, zltT, zneg1, zneg1L, zneg2, zneg0, eq_self, or_self, false_or, or_false, Nat.not_lt_zero, not_false_eq_true, not_true_eq_false]; done))) | (with_reducible refine zifp ?_ ?_; · (first | with_reducible assumption | decide | (simp (disch := omega) only [zlit, nI_add, pk_mul, pk_sub, zsubm, nI_clamp, nI_leI, nI_ltI, nI_eq, zeqF, Nat.reduceEqDiff, zleF, zleT, zltF, zltT, zneg1, zneg1L, zneg2, zneg0, eq_self, or_self, false_or, or_false, Nat.not_lt_zero, not_false_eq_true, not_true_eq_false]; done))) | (with_reducible refine bnd (has_ok hP hl) ?_) | (with_reducible refine bnd (x := some _) rfl ?_))
    rfl
theorem goodOf_ok {N : Nat} {v : VLives} {v1 : VTown} {v2 : VLaws} {P l : Nat} (hP : tpl v1 P) (hl : l < P) : f_Lives_goodOf N v v1 v2 (nI l) = some (gdOf v l) := by
  have h6 := hP.2
  unfold f_Lives_goodOf gdOf
  rw [nI_clamp (n := l) (by omega)]
  by_cases h : Lives_away v = 0
  · rw [if_pos h, if_pos h]
  · rw [if_neg h, if_neg h]
    repeat (first | (with_reducible refine zletE ?_) | (with_reducible refine zifn ?_ ?_; · (first | with_reducible assumption | decide | (simp (disch := omega) only [zlit, nI_add, pk_mul, pk_sub, zsubm, nI_clamp, nI_leI, nI_ltI, nI_eq, zeqF, Nat.reduceEqDiff, zleF, zleT, zltF, zltT, zneg1, zneg1L, zneg2, zneg0, eq_self, or_self, false_or, or_false, Nat.not_lt_zero, not_false_eq_true, not_true_eq_false]; done))) | (with_reducible refine zifp ?_ ?_; · (first | with_reducible assumption | decide | (simp (disch := omega) only [zlit, nI_add, pk_mul, pk_sub, zsubm, nI_clamp, nI_leI, nI_ltI, nI_eq, zeqF, Nat.reduceEqDiff, zleF, zleT, zltF, zltT, zneg1, zneg1L, zneg2, zneg0, eq_self, or_self, false_or, or_false, Nat.not_lt_zero, not_false_eq_true, not_true_eq_false]; done))) | (with_reducible refine bnd (has_ok hP hl) ?_) | (with_reducible refine bnd (x := some _) rfl ?_))
    rfl
theorem harmAll_loop (N : Nat) {v : VLives} {v1 : VTown} {v2 : VLaws} {P : Nat} (hP : tpl v1 P) : ∀ (r k fuel : Nat) (a : Int32), k + r = P → r < fuel → f_Lives_harmOfAll_L4 N fuel v v1 v2 a (nI k) = some (sumN (hmOf v) r k a)
  | _, _, 0, _, _, h => absurd h (Nat.not_lt_zero _)
  | 0, k, fuel + 1, a, h1, h2 => by
    have h6 := hP.2
    rw [f_Lives_harmOfAll_L4, hP.1]
    repeat (first | (with_reducible refine zletE ?_) | (with_reducible refine zifn ?_ ?_; · (first | with_reducible assumption | decide | (simp (disch := omega) only [zlit, nI_add, pk_mul, pk_sub, zsubm, nI_clamp, nI_leI, nI_ltI, nI_eq, zeqF, Nat.reduceEqDiff, zleF, zleT, zltF, zltT, zneg1, zneg1L, zneg2, zneg0, eq_self, or_self, false_or, or_false, Nat.not_lt_zero, not_false_eq_true, not_true_eq_false]; done))) | (with_reducible refine zifp ?_ ?_; · (first | with_reducible assumption | decide | (simp (disch := omega) only [zlit, nI_add, pk_mul, pk_sub, zsubm, nI_clamp, nI_leI, nI_ltI, nI_eq, zeqF, Nat.reduceEqDiff, zleF, zleT, zltF, zltT, zneg1, zneg1L, zneg2, zneg0, eq_self, or_self, false_or, or_false, Nat.not_lt_zero, not_false_eq_true, not_true_eq_false]; done))) | (with_reducible refine bnd (x := some _) rfl ?_))
    rfl
  | r + 1, k, fuel + 1, a, h1, h2 => by
    have h6 := hP.2
    rw [f_Lives_harmOfAll_L4, hP.1, show nI k + 1 = nI (k + 1) from nI_1 k]
    repeat (first | (with_reducible refine zletE ?_) | (with_reducible refine zifn ?_ ?_; · (first | with_reducible assumption | decide | (simp (disch := omega) only [zlit, nI_add, pk_mul, pk_sub, zsubm, nI_clamp, nI_leI, nI_ltI, nI_eq, zeqF, Nat.reduceEqDiff, zleF, zleT, zltF, zltT, zneg1, zneg1L, zneg2, zneg0, eq_self, or_self, false_or, or_false, Nat.not_lt_zero, not_false_eq_true, not_true_eq_false]; done))) | (with_reducible refine zifp ?_ ?_; · (first | with_reducible assumption | decide | (simp (disch := omega) only [zlit, nI_add, pk_mul, pk_sub, zsubm, nI_clamp, nI_leI, nI_ltI, nI_eq, zeqF, Nat.reduceEqDiff, zleF, zleT, zltF, zltT, zneg1, zneg1L, zneg2, zneg0, eq_self, or_self, false_or, or_false, Nat.not_lt_zero, not_false_eq_true, not_true_eq_false]; done))) | (with_reducible refine bnd (harmOf_ok hP (show k < P by omega)) ?_) | (with_reducible refine bnd (x := some _) rfl ?_))
    exact harmAll_loop N hP r (k + 1) fuel _ (by omega) (by omega)
theorem harmAll_ok {N : Nat} (hN : 10000 ≤ N) {v : VLives} {v1 : VTown} {v2 : VLaws} {P : Nat} (hP : tpl v1 P) : f_Lives_harmOfAll N v v1 v2 = some (sumN (hmOf v) P 0 0) := by
  have h6 := hP.2
  unfold f_Lives_harmOfAll
  rw [show f_Lives_harmOfAll_L4 N N v v1 v2 0 0 = _ from harmAll_loop N hP P 0 N 0 (by omega) (by omega)]
  rfl
theorem goodAll_loop (N : Nat) {v : VLives} {v1 : VTown} {v2 : VLaws} {P : Nat} (hP : tpl v1 P) : ∀ (r k fuel : Nat) (a : Int32), k + r = P → r < fuel → f_Lives_goodOfAll_L4 N fuel v v1 v2 a (nI k) = some (sumN (gdOf v) r k a)
  | _, _, 0, _, _, h => absurd h (Nat.not_lt_zero _)
  | 0, k, fuel + 1, a, h1, h2 => by
    have h6 := hP.2
    rw [f_Lives_goodOfAll_L4, hP.1]
    repeat (first | (with_reducible refine zletE ?_) | (with_reducible refine zifn ?_ ?_; · (first | with_reducible assumption | decide | (simp (disch := omega) only [zlit, nI_add, pk_mul, pk_sub, zsubm, nI_clamp, nI_leI, nI_ltI, nI_eq, zeqF, Nat.reduceEqDiff, zleF, zleT, zltF, zltT, zneg1, zneg1L, zneg2, zneg0, eq_self, or_self, false_or, or_false, Nat.not_lt_zero, not_false_eq_true, not_true_eq_false]; done))) | (with_reducible refine zifp ?_ ?_; · (first | with_reducible assumption | decide | (simp (disch := omega) only [zlit, nI_add, pk_mul, pk_sub, zsubm, nI_clamp, nI_leI, nI_ltI, nI_eq, zeqF, Nat.reduceEqDiff, zleF, zleT, zltF, zltT, zneg1, zneg1L, zneg2, zneg0, eq_self, or_self, false_or, or_false, Nat.not_lt_zero, not_false_eq_true, not_true_eq_false]; done))) | (with_reducible refine bnd (x := some _) rfl ?_))
    rfl
  | r + 1, k, fuel + 1, a, h1, h2 => by
    have h6 := hP.2
    rw [f_Lives_goodOfAll_L4, hP.1, show nI k + 1 = nI (k + 1) from nI_1 k]
    repeat (first | (with_reducible refine zletE ?_) | (with_reducible refine zifn ?_ ?_; · (first | with_reducible assumption | decide | (simp (disch := omega) only [zlit, nI_add, pk_mul, pk_sub, zsubm, nI_clamp, nI_leI, nI_ltI, nI_eq, zeqF, Nat.reduceEqDiff, zleF, zleT, zltF, zltT, zneg1, zneg1L, zneg2, zneg0, eq_self, or_self, false_or, or_false, Nat.not_lt_zero, not_false_eq_true, not_true_eq_false]; done))) | (with_reducible refine zifp ?_ ?_; · (first | with_reducible assumption | decide | (simp (disch := omega) only [zlit, nI_add, pk_mul, pk_sub, zsubm, nI_clamp, nI_leI, nI_ltI, nI_eq, zeqF, Nat.reduceEqDiff, zleF, zleT, zltF, zltT, zneg1, zneg1L, zneg2, zneg0, eq_self, or_self, false_or, or_false, Nat.not_lt_zero, not_false_eq_true, not_true_eq_false]; done))) | (with_reducible refine bnd (goodOf_ok hP (show k < P by omega)) ?_) | (with_reducible refine bnd (x := some _) rfl ?_))
    exact goodAll_loop N hP r (k + 1) fuel _ (by omega) (by omega)
theorem goodAll_ok {N : Nat} (hN : 10000 ≤ N) {v : VLives} {v1 : VTown} {v2 : VLaws} {P : Nat} (hP : tpl v1 P) : f_Lives_goodOfAll N v v1 v2 = some (sumN (gdOf v) P 0 0) := by
  have h6 := hP.2
  unfold f_Lives_goodOfAll
  rw [show f_Lives_goodOfAll_L4 N N v v1 v2 0 0 = _ from goodAll_loop N hP P 0 N 0 (by omega) (by omega)]
  rfl
theorem sumPurse_loop (N : Nat) {v : VLives} {v1 : VTown} {v2 : VLaws} {P : Nat} (hP : tpl v1 P) : ∀ (r k fuel : Nat) (a : Int32), k + r = P → r < fuel → f_Lives_sumOf_purse_L4 N fuel v v1 v2 a (nI k) = some (sumN (Lives_purse v) r k a)
  | _, _, 0, _, _, h => absurd h (Nat.not_lt_zero _)
  | 0, k, fuel + 1, a, h1, h2 => by
    have h6 := hP.2
    rw [f_Lives_sumOf_purse_L4, hP.1]
    repeat (first | (with_reducible refine zletE ?_) | (with_reducible refine zifn ?_ ?_; · (first | with_reducible assumption | decide | (simp (disch := omega) only [zlit, nI_add, pk_mul, pk_sub, zsubm, nI_clamp, nI_leI, nI_ltI, nI_eq, zeqF, Nat.reduceEqDiff, zleF, zleT, zltF, zltT, zneg1, zneg1L, zneg2, zneg0, eq_self, or_self, false_or, or_false, Nat.not_lt_zero, not_false_eq_true, not_true_eq_false]; done))) | (with_reducible refine zifp ?_ ?_; · (first | with_reducible assumption | decide | (simp (disch := omega) only [zlit, nI_add, pk_mul, pk_sub, zsubm, nI_clamp, nI_leI, nI_ltI, nI_eq, zeqF, Nat.reduceEqDiff, zleF, zleT, zltF, zltT, zneg1, zneg1L, zneg2, zneg0, eq_self, or_self, false_or, or_false, Nat.not_lt_zero, not_false_eq_true, not_true_eq_false]; done))) | (with_reducible refine bnd (x := some _) rfl ?_))
    rfl
  | r + 1, k, fuel + 1, a, h1, h2 => by
    have h6 := hP.2
    rw [f_Lives_sumOf_purse_L4, hP.1, show nI k + 1 = nI (k + 1) from nI_1 k, nI_clamp (n := k) (by omega)]
    repeat (first | (with_reducible refine zletE ?_) | (with_reducible refine zifn ?_ ?_; · (first | with_reducible assumption | decide | (simp (disch := omega) only [zlit, nI_add, pk_mul, pk_sub, zsubm, nI_clamp, nI_leI, nI_ltI, nI_eq, zeqF, Nat.reduceEqDiff, zleF, zleT, zltF, zltT, zneg1, zneg1L, zneg2, zneg0, eq_self, or_self, false_or, or_false, Nat.not_lt_zero, not_false_eq_true, not_true_eq_false]; done))) | (with_reducible refine zifp ?_ ?_; · (first | with_reducible assumption | decide | (simp (disch := omega) only [zlit, nI_add, pk_mul, pk_sub, zsubm, nI_clamp, nI_leI, nI_ltI, nI_eq, zeqF, Nat.reduceEqDiff, zleF, zleT, zltF, zltT, zneg1, zneg1L, zneg2, zneg0, eq_self, or_self, false_or, or_false, Nat.not_lt_zero, not_false_eq_true, not_true_eq_false]; done))) | (with_reducible refine bnd (x := some _) rfl ?_))
    exact sumPurse_loop N hP r (k + 1) fuel _ (by omega) (by omega)
theorem sumPurse_ok {N : Nat} (hN : 10000 ≤ N) {v : VLives} {v1 : VTown} {v2 : VLaws} {P : Nat} (hP : tpl v1 P) : f_Lives_sumOf_purse N v v1 v2 = some (sumN (Lives_purse v) P 0 0) := by
  have h6 := hP.2
  unfold f_Lives_sumOf_purse
  rw [show f_Lives_sumOf_purse_L4 N N v v1 v2 0 0 = _ from sumPurse_loop N hP P 0 N 0 (by omega) (by omega)]
  rfl
theorem sumDebt_loop (N : Nat) {v : VLives} {v1 : VTown} {v2 : VLaws} {P : Nat} (hP : tpl v1 P) : ∀ (r k fuel : Nat) (a : Int32), k + r = P → r < fuel → f_Lives_sumOf_debt_L4 N fuel v v1 v2 a (nI k) = some (sumN (Lives_debt v) r k a)
  | _, _, 0, _, _, h => absurd h (Nat.not_lt_zero _)
  | 0, k, fuel + 1, a, h1, h2 => by
    have h6 := hP.2
    rw [f_Lives_sumOf_debt_L4, hP.1]
    repeat (first | (with_reducible refine zletE ?_) | (with_reducible refine zifn ?_ ?_; · (first | with_reducible assumption | decide | (simp (disch := omega) only [zlit, nI_add, pk_mul, pk_sub, zsubm, nI_clamp, nI_leI, nI_ltI, nI_eq, zeqF, Nat.reduceEqDiff, zleF, zleT, zltF, zltT, zneg1, zneg1L, zneg2, zneg0, eq_self, or_self, false_or, or_false, Nat.not_lt_zero, not_false_eq_true, not_true_eq_false]; done))) | (with_reducible refine zifp ?_ ?_; · (first | with_reducible assumption | decide | (simp (disch := omega) only [zlit, nI_add, pk_mul, pk_sub, zsubm, nI_clamp, nI_leI, nI_ltI, nI_eq, zeqF, Nat.reduceEqDiff, zleF, zleT, zltF, zltT, zneg1, zneg1L, zneg2, zneg0, eq_self, or_self, false_or, or_false, Nat.not_lt_zero, not_false_eq_true, not_true_eq_false]; done))) | (with_reducible refine bnd (x := some _) rfl ?_))
    rfl
  | r + 1, k, fuel + 1, a, h1, h2 => by
    have h6 := hP.2
    rw [f_Lives_sumOf_debt_L4, hP.1, show nI k + 1 = nI (k + 1) from nI_1 k, nI_clamp (n := k) (by omega)]
    repeat (first | (with_reducible refine zletE ?_) | (with_reducible refine zifn ?_ ?_; · (first | with_reducible assumption | decide | (simp (disch := omega) only [zlit, nI_add, pk_mul, pk_sub, zsubm, nI_clamp, nI_leI, nI_ltI, nI_eq, zeqF, Nat.reduceEqDiff, zleF, zleT, zltF, zltT, zneg1, zneg1L, zneg2, zneg0, eq_self, or_self, false_or, or_false, Nat.not_lt_zero, not_false_eq_true, not_true_eq_false]; done))) | (with_reducible refine zifp ?_ ?_; · (first | with_reducible assumption | decide | (simp (disch := omega) only [zlit, nI_add, pk_mul, pk_sub, zsubm, nI_clamp, nI_leI, nI_ltI, nI_eq, zeqF, Nat.reduceEqDiff, zleF, zleT, zltF, zltT, zneg1, zneg1L, zneg2, zneg0, eq_self, or_self, false_or, or_false, Nat.not_lt_zero, not_false_eq_true, not_true_eq_false]; done))) | (with_reducible refine bnd (x := some _) rfl ?_))
    exact sumDebt_loop N hP r (k + 1) fuel _ (by omega) (by omega)
theorem sumDebt_ok {N : Nat} (hN : 10000 ≤ N) {v : VLives} {v1 : VTown} {v2 : VLaws} {P : Nat} (hP : tpl v1 P) : f_Lives_sumOf_debt N v v1 v2 = some (sumN (Lives_debt v) P 0 0) := by
  have h6 := hP.2
  unfold f_Lives_sumOf_debt
  rw [show f_Lives_sumOf_debt_L4 N N v v1 v2 0 0 = _ from sumDebt_loop N hP P 0 N 0 (by omega) (by omega)]
  rfl
/-- the reference's block at b is these lives -/
def LR (P b : Nat) (st : Nat → Int32) (v : VLives) : Prop := SR P b st (Lives_hidden v) (Lives_self v) (Lives_purse v, Lives_debt v, Lives_home v) ∧ st (b + 0) = Lives_away v ∧ st (b + 1) = Lives_days v ∧ st (b + 2) = Lives_homes v ∧ st (b + 3) = Lives_harm v ∧ (Lives_away v = 0 ∨ Lives_away v = 1) ∧ (¬ Lives_away v = 0 → ∀ l, l < P → st (b + 34 + l) = Lives_worthThen v l ∧ st (b + 40 + l) = Lives_homeThen v l)
def LJ (P : Nat) (v : VLives) : Prop := (∀ l, l < P → ∃ n, n ≤ 9 ∧ Lives_home v l = nI n) ∧ (¬ Lives_away v = 0 → ∀ l, l < P → (∃ a b, a ≤ 9999 ∧ b ≤ 999 ∧ Lives_worthThen v l = nI a - nI b) ∧ (∃ n, n ≤ 9 ∧ Lives_homeThen v l = nI n))
def LI (P : Nat) (v : VLives) : Prop := puOk P (Lives_purse v, Lives_debt v, Lives_home v) ∧ hidOk P (Lives_hidden v) ∧ selfOk P (Lives_self v) ∧ (∀ l k, l < P → k < P → Lives_self v l = Lives_self v k → l = k) ∧ (∃ d, d ≤ 7 ∧ Lives_days v = nI d) ∧ (Lives_away v = 0 → ∀ l, l < P → Lives_self v l = nI l) ∧ LJ P v
theorem zmx (x : Int32) : (if 0 ≤ x then x else 0) = (if 0 < x then x else 0) := by
  split <;> split <;> first | rfl | grind
theorem zmx5 (y : Int32) : (if 0 ≤ y then 5 * y else 0) = 5 * (if 0 < y then y else 0) := by
  by_cases h : 0 < y
  · rw [if_pos (by grind), if_pos h]
  · rw [if_neg h]
    by_cases h2 : 0 ≤ y
    · have h3 : y = 0 := by grind
      subst h3
      rfl
    · rw [if_neg h2]
      rfl
theorem rharm_eq (wo pu de nt ho : Int32) : (if 0 ≤ wo - pu + de then wo - pu + de else 0) + (if 0 ≤ nt - ho then 5 * (nt - ho) else 0) = harm1 wo pu de nt ho := by
  have e1 : wo - pu + de = wo - (pu - de) := by grind
  unfold harm1
  rw [zmx, zmx5, e1]
theorem rgood_eq (wo pu de nt ho : Int32) : (if 0 ≤ -(wo - pu + de) then -(wo - pu + de) else 0) + (if 0 ≤ -(nt - ho) then 5 * -(nt - ho) else 0) = good1 wo pu de nt ho := by
  have e1 : -(wo - pu + de) = (pu - de) - wo := by grind
  have e2 : -(nt - ho) = ho - nt := by grind
  unfold good1
  rw [zmx, zmx5, e1, e2]
theorem rharmOf_ok {N : Nat} {w : VR} {v : VLives} {P b l : Nat} (hb : b ≤ 1584) (hP : P ≤ 6) (hl : l < P) (h : LR P b (R_state w) v) : f_R_harmOf N w (nI b) (nI l) 0 = some (hmOf v l) ∧ f_R_harmOf N w (nI b) (nI l) 1 = some (gdOf v l) := by
  obtain ⟨hS, h0, -, -, -, ha, hw⟩ := h
  obtain ⟨h1, h2, h3, h4, h5⟩ := hS l hl
  have h1 : R_state w (b + 4 + l) = Lives_purse v l := h1
  have h2 : R_state w (b + 10 + l) = Lives_debt v l := h2
  have h3 : R_state w (b + 16 + l) = Lives_home v l := h3
  have e0 : Int32.toNatClampNeg (nI b + 0) = b + 0 := by
    rw [show nI b + 0 = nI (b + 0) from nI_add b 0, nI_clamp (by omega)]
  unfold f_R_harmOf
  rw [show Int32.toNatClampNeg ((nI b + 34) + nI l) = b + 34 + l from ix (c := 34) (by omega), show Int32.toNatClampNeg ((nI b + 4) + nI l) = b + 4 + l from ix (c := 4) (by omega), show Int32.toNatClampNeg ((nI b + 10) + nI l) = b + 10 + l from ix (c := 10) (by omega), show Int32.toNatClampNeg ((nI b + 40) + nI l) = b + 40 + l from ix (c := 40) (by omega), show Int32.toNatClampNeg ((nI b + 16) + nI l) = b + 16 + l from ix (c := 16) (by omega), e0, h0, h1, h2, h3]
  unfold hmOf gdOf
  by_cases hz : Lives_away v = 0
  · rw [if_pos hz, if_pos hz]
    refine ⟨?_, ?_⟩
    · repeat (first | (with_reducible refine zletE ?_) | (with_reducible refine zifn ?_ ?_; · (first | with_reducible assumption | decide | (simp (disch := omega) only [zlit, nI_add, pk_mul, pk_sub, zsubm, nI_clamp, nI_leI, nI_ltI, nI_eq, zeqF, Nat.reduceEqDiff, zleF, zleT, zltF, zltT, zneg1, zneg1L, zneg2, zneg0, eq_self, or_self, false_or, or_false, Nat.not_lt_zero, not_false_eq_true, not_true_eq_false]; done))) | (with_reducible refine zifp ?_ ?_; · (first | with_reducible assumption | decide | (simp (disch := omega) only [zlit, nI_add, pk_mul, pk_sub, zsubm, nI_clamp, nI_leI, nI_ltI, nI_eq, zeqF, Nat.reduceEqDiff, zleF, zleT, zltF, zltT, zneg1, zneg1L, zneg2, zneg0, eq_self, or_self, false_or, or_false, Nat.not_lt_zero, not_false_eq_true, not_true_eq_false]; done))) | (with_reducible refine bnd (x := some _) rfl ?_))
      rfl
    · repeat (first | (with_reducible refine zletE ?_) | (with_reducible refine zifn ?_ ?_; · (first | with_reducible assumption | decide | (simp (disch := omega) only [zlit, nI_add, pk_mul, pk_sub, zsubm, nI_clamp, nI_leI, nI_ltI, nI_eq, zeqF, Nat.reduceEqDiff, zleF, zleT, zltF, zltT, zneg1, zneg1L, zneg2, zneg0, eq_self, or_self, false_or, or_false, Nat.not_lt_zero, not_false_eq_true, not_true_eq_false]; done))) | (with_reducible refine zifp ?_ ?_; · (first | with_reducible assumption | decide | (simp (disch := omega) only [zlit, nI_add, pk_mul, pk_sub, zsubm, nI_clamp, nI_leI, nI_ltI, nI_eq, zeqF, Nat.reduceEqDiff, zleF, zleT, zltF, zltT, zneg1, zneg1L, zneg2, zneg0, eq_self, or_self, false_or, or_false, Nat.not_lt_zero, not_false_eq_true, not_true_eq_false]; done))) | (with_reducible refine bnd (x := some _) rfl ?_))
      rfl
  · rw [if_neg hz, if_neg hz]
    obtain ⟨w1, w2⟩ := hw hz l hl
    rw [w1, w2]
    refine ⟨?_, ?_⟩
    · repeat (first | (with_reducible refine zletE ?_) | (with_reducible refine zifn ?_ ?_; · (first | with_reducible assumption | decide | (simp (disch := omega) only [zlit, nI_add, pk_mul, pk_sub, zsubm, nI_clamp, nI_leI, nI_ltI, nI_eq, zeqF, Nat.reduceEqDiff, zleF, zleT, zltF, zltT, zneg1, zneg1L, zneg2, zneg0, eq_self, or_self, false_or, or_false, Nat.not_lt_zero, not_false_eq_true, not_true_eq_false]; done))) | (with_reducible refine zifp ?_ ?_; · (first | with_reducible assumption | decide | (simp (disch := omega) only [zlit, nI_add, pk_mul, pk_sub, zsubm, nI_clamp, nI_leI, nI_ltI, nI_eq, zeqF, Nat.reduceEqDiff, zleF, zleT, zltF, zltT, zneg1, zneg1L, zneg2, zneg0, eq_self, or_self, false_or, or_false, Nat.not_lt_zero, not_false_eq_true, not_true_eq_false]; done))) | (with_reducible refine bnd (x := some _) rfl ?_))
      exact congrArg some (rharm_eq _ _ _ _ _)
    · repeat (first | (with_reducible refine zletE ?_) | (with_reducible refine zifn ?_ ?_; · (first | with_reducible assumption | decide | (simp (disch := omega) only [zlit, nI_add, pk_mul, pk_sub, zsubm, nI_clamp, nI_leI, nI_ltI, nI_eq, zeqF, Nat.reduceEqDiff, zleF, zleT, zltF, zltT, zneg1, zneg1L, zneg2, zneg0, eq_self, or_self, false_or, or_false, Nat.not_lt_zero, not_false_eq_true, not_true_eq_false]; done))) | (with_reducible refine zifp ?_ ?_; · (first | with_reducible assumption | decide | (simp (disch := omega) only [zlit, nI_add, pk_mul, pk_sub, zsubm, nI_clamp, nI_leI, nI_ltI, nI_eq, zeqF, Nat.reduceEqDiff, zleF, zleT, zltF, zltT, zneg1, zneg1L, zneg2, zneg0, eq_self, or_self, false_or, or_false, Nat.not_lt_zero, not_false_eq_true, not_true_eq_false]; done))) | (with_reducible refine bnd (x := some _) rfl ?_))
      exact congrArg some (rgood_eq _ _ _ _ _)
theorem allHarm_loop (N : Nat) {w : VR} {v1 : VTown} {v2 : VLaws} {v : VLives} {P b : Nat} (hb : b ≤ 1584) (hT : townR w v1 v2 P) (h : LR P b (R_state w) v) : ∀ (r k fuel : Nat) (a : Int32), k + r = P → r < fuel → f_R_allHarm_L5 N fuel w (nI b) 0 a (nI k) = some (sumN (hmOf v) r k a) ∧ f_R_allHarm_L5 N fuel w (nI b) 1 a (nI k) = some (sumN (gdOf v) r k a)
  | _, _, 0, _, _, h => absurd h (Nat.not_lt_zero _)
  | 0, k, fuel + 1, a, h1, h2 => by
    have h6 := hT.1.2
    rw [f_R_allHarm_L5, f_R_allHarm_L5]
    have hpe := people_ok (N := N) hT
    constructor
    · repeat (first | (with_reducible refine zletE ?_) | (with_reducible refine zifn ?_ ?_; · (first | with_reducible assumption | decide | (simp (disch := omega) only [zlit, nI_add, pk_mul, pk_sub, zsubm, nI_clamp, nI_leI, nI_ltI, nI_eq, zeqF, Nat.reduceEqDiff, zleF, zleT, zltF, zltT, zneg1, zneg1L, zneg2, zneg0, eq_self, or_self, false_or, or_false, Nat.not_lt_zero, not_false_eq_true, not_true_eq_false]; done))) | (with_reducible refine zifp ?_ ?_; · (first | with_reducible assumption | decide | (simp (disch := omega) only [zlit, nI_add, pk_mul, pk_sub, zsubm, nI_clamp, nI_leI, nI_ltI, nI_eq, zeqF, Nat.reduceEqDiff, zleF, zleT, zltF, zltT, zneg1, zneg1L, zneg2, zneg0, eq_self, or_self, false_or, or_false, Nat.not_lt_zero, not_false_eq_true, not_true_eq_false]; done))) | (with_reducible refine bnd (hpe) ?_) | (with_reducible refine bnd (x := some _) rfl ?_))
      rfl
    · repeat (first | (with_reducible refine zletE ?_) | (with_reducible refine zifn ?_ ?_; · (first | with_reducible assumption | decide | (simp (disch := omega) only [zlit, nI_add, pk_mul, pk_sub, zsubm, nI_clamp, nI_leI, nI_ltI, nI_eq, zeqF, Nat.reduceEqDiff, zleF, zleT, zltF, zltT, zneg1, zneg1L, zneg2, zneg0, eq_self, or_self, false_or, or_false, Nat.not_lt_zero, not_false_eq_true, not_true_eq_false]; done))) | (with_reducible refine zifp ?_ ?_; · (first | with_reducible assumption | decide | (simp (disch := omega) only [zlit, nI_add, pk_mul, pk_sub, zsubm, nI_clamp, nI_leI, nI_ltI, nI_eq, zeqF, Nat.reduceEqDiff, zleF, zleT, zltF, zltT, zneg1, zneg1L, zneg2, zneg0, eq_self, or_self, false_or, or_false, Nat.not_lt_zero, not_false_eq_true, not_true_eq_false]; done))) | (with_reducible refine bnd (hpe) ?_) | (with_reducible refine bnd (x := some _) rfl ?_))
      rfl
  | r + 1, k, fuel + 1, a, h1, h2 => by
    have h6 := hT.1.2
    rw [f_R_allHarm_L5, f_R_allHarm_L5, show nI k + 1 = nI (k + 1) from nI_1 k]
    have hpe := people_ok (N := N) hT
    have hh := rharmOf_ok (N := N) hb h6 (show k < P by omega) h
    constructor
    · repeat (first | (with_reducible refine zletE ?_) | (with_reducible refine zifn ?_ ?_; · (first | with_reducible assumption | decide | (simp (disch := omega) only [zlit, nI_add, pk_mul, pk_sub, zsubm, nI_clamp, nI_leI, nI_ltI, nI_eq, zeqF, Nat.reduceEqDiff, zleF, zleT, zltF, zltT, zneg1, zneg1L, zneg2, zneg0, eq_self, or_self, false_or, or_false, Nat.not_lt_zero, not_false_eq_true, not_true_eq_false]; done))) | (with_reducible refine zifp ?_ ?_; · (first | with_reducible assumption | decide | (simp (disch := omega) only [zlit, nI_add, pk_mul, pk_sub, zsubm, nI_clamp, nI_leI, nI_ltI, nI_eq, zeqF, Nat.reduceEqDiff, zleF, zleT, zltF, zltT, zneg1, zneg1L, zneg2, zneg0, eq_self, or_self, false_or, or_false, Nat.not_lt_zero, not_false_eq_true, not_true_eq_false]; done))) | (with_reducible refine bnd (hpe) ?_) | (with_reducible refine bnd (hh.1) ?_) | (with_reducible refine bnd (x := some _) rfl ?_))
      exact (allHarm_loop N hb hT h r (k + 1) fuel _ (by omega) (by omega)).1
    · repeat (first | (with_reducible refine zletE ?_) | (with_reducible refine zifn ?_ ?_; · (first | with_reducible assumption | decide | (simp (disch := omega) only [zlit, nI_add, pk_mul, pk_sub, zsubm, nI_clamp, nI_leI, nI_ltI, nI_eq, zeqF, Nat.reduceEqDiff, zleF, zleT, zltF, zltT, zneg1, zneg1L, zneg2, zneg0, eq_self, or_self, false_or, or_false, Nat.not_lt_zero, not_false_eq_true, not_true_eq_false]; done))) | (with_reducible refine zifp ?_ ?_; · (first | with_reducible assumption | decide | (simp (disch := omega) only [zlit, nI_add, pk_mul, pk_sub, zsubm, nI_clamp, nI_leI, nI_ltI, nI_eq, zeqF, Nat.reduceEqDiff, zleF, zleT, zltF, zltT, zneg1, zneg1L, zneg2, zneg0, eq_self, or_self, false_or, or_false, Nat.not_lt_zero, not_false_eq_true, not_true_eq_false]; done))) | (with_reducible refine bnd (hpe) ?_) | (with_reducible refine bnd (hh.2) ?_) | (with_reducible refine bnd (x := some _) rfl ?_))
      exact (allHarm_loop N hb hT h r (k + 1) fuel _ (by omega) (by omega)).2
theorem allHarm_ok {N : Nat} (hN : 10000 ≤ N) {w : VR} {v1 : VTown} {v2 : VLaws} {v : VLives} {P b : Nat} (hb : b ≤ 1584) (hT : townR w v1 v2 P) (h : LR P b (R_state w) v) : f_R_allHarm N w (nI b) 0 = some (sumN (hmOf v) P 0 0) ∧ f_R_allHarm N w (nI b) 1 = some (sumN (gdOf v) P 0 0) := by
  have h6 := hT.1.2
  have := allHarm_loop N hb hT h P 0 N 0 (by omega) (by omega)
  unfold f_R_allHarm
  rw [show f_R_allHarm_L5 N N w (nI b) 0 0 0 = _ from this.1, show f_R_allHarm_L5 N N w (nI b) 1 0 0 = _ from this.2]
  exact ⟨rfl, rfl⟩
/-! ===== copies ===== -/
theorem copies_loop (N : Nat) {w : VR} {a b n : Nat} (ha : a + n ≤ 1656) (hb : b + n ≤ 1656) (hd : a + n ≤ b ∨ b + n ≤ a) : ∀ (r k fuel : Nat) (st : Nat → Int32), k + r = n → r < fuel → Ev (f_R_copies_L3 N fuel w (nI a) (nI b) (nI n) (nI k) st) (fun q => (∀ j, k ≤ j → j < n → q (b + j) = st (a + j)) ∧ (∀ j, ¬ (b + k ≤ j ∧ j < b + n) → q j = st j))
  | _, _, 0, _, _, h => absurd h (Nat.not_lt_zero _)
  | 0, k, fuel + 1, st, h1, h2 => by
    rw [f_R_copies_L3]
    repeat (first | (with_reducible refine Ev.letE ?_) | (with_reducible refine Ev.ifn ?_ ?_; · (first | with_reducible assumption | decide | (simp (disch := omega) only [zlit, nI_add, pk_mul, pk_sub, zsubm, nI_clamp, nI_leI, nI_ltI, nI_eq, zeqF, Nat.reduceEqDiff, zleF, zleT, zltF, zltT, zneg1, zneg1L, zneg2, zneg0, eq_self, or_self, false_or, or_false, Nat.not_lt_zero, not_false_eq_true, not_true_eq_false]; done))) | (with_reducible refine Ev.ifp ?_ ?_; · (first | with_reducible assumption | decide | (simp (disch := omega) only [zlit, nI_add, pk_mul, pk_sub, zsubm, nI_clamp, nI_leI, nI_ltI, nI_eq, zeqF, Nat.reduceEqDiff, zleF, zleT, zltF, zltT, zneg1, zneg1L, zneg2, zneg0, eq_self, or_self, false_or, or_false, Nat.not_lt_zero, not_false_eq_true, not_true_eq_false]; done))) | (with_reducible refine Ev.bnd (x := some _) rfl ?_))
    exact Ev.ret ⟨fun j h3 h4 => absurd h4 (by omega), fun j h3 => rfl⟩
  | r + 1, k, fuel + 1, st, h1, h2 => by
    rw [f_R_copies_L3, nI_add, nI_add, nI_clamp (n := a + k) (by omega), nI_clamp (n := b + k) (by omega), show nI k + 1 = nI (k + 1) from nI_1 k]
    repeat (first | (with_reducible refine Ev.letE ?_) | (with_reducible refine Ev.ifn ?_ ?_; · (first | with_reducible assumption | decide | (simp (disch := omega) only [zlit, nI_add, pk_mul, pk_sub, zsubm, nI_clamp, nI_leI, nI_ltI, nI_eq, zeqF, Nat.reduceEqDiff, zleF, zleT, zltF, zltT, zneg1, zneg1L, zneg2, zneg0, eq_self, or_self, false_or, or_false, Nat.not_lt_zero, not_false_eq_true, not_true_eq_false]; done))) | (with_reducible refine Ev.ifp ?_ ?_; · (first | with_reducible assumption | decide | (simp (disch := omega) only [zlit, nI_add, pk_mul, pk_sub, zsubm, nI_clamp, nI_leI, nI_ltI, nI_eq, zeqF, Nat.reduceEqDiff, zleF, zleT, zltF, zltT, zneg1, zneg1L, zneg2, zneg0, eq_self, or_self, false_or, or_false, Nat.not_lt_zero, not_false_eq_true, not_true_eq_false]; done))) | (with_reducible refine Ev.bnd (x := some _) rfl ?_))
    refine (copies_loop N ha hb hd r (k + 1) fuel _ (by omega) (by omega)).mono ?_
    rintro q ⟨q1, q2⟩
    refine ⟨fun j h3 h4 => ?_, fun j h3 => ?_⟩
    · by_cases e : j = k
      · subst e
        rw [q2 (b + j) (by omega), pk_us]
      · rw [q1 j (by omega) h4, pk_un (by omega)]
    · rw [q2 j (by omega), pk_un (by omega)]
theorem copies_ev {N : Nat} (hN : 10000 ≤ N) {w : VR} {a b n : Nat} (ha : a + n ≤ 1656) (hb : b + n ≤ 1656) (hd : a + n ≤ b ∨ b + n ≤ a) : Ev (f_R_copies N w (nI a) (nI b) (nI n)) (fun q => (∀ j, j < n → q (b + j) = R_state w (a + j)) ∧ (∀ j, ¬ (b ≤ j ∧ j < b + n) → q j = R_state w j)) := by
  unfold f_R_copies
  refine Ev.bnx (copies_loop N ha hb hd n 0 N (R_state w) (by omega) (by omega)) ?_
  rintro q ⟨q1, q2⟩
  exact Ev.ret ⟨fun j hj => q1 j (by omega) hj, fun j hj => q2 j (by omega)⟩
/-! ===== leaving ===== -/
def rowOf (v : VLots) (place : Nat) : Nat → Int32 := fun l => Lots_selves v (place * 6 + l)
def lotsR (w : VR) (v : VLots) (P L : Nat) : Prop := R_lotsMany w = nI L ∧ Lots_count v = nI L ∧ L ≤ 265 ∧ ∀ k, k < L → selfOk P (rowOf v k) ∧ (∀ l m, l < P → m < P → rowOf v k l = rowOf v k m → l = m) ∧ (∀ l, l < P → (R_lotRows w k >>> ((3 * nI l) &&& 31)) &&& 7 = rowOf v k l)
theorem selfIn_ok {N : Nat} {v : VLots} {L k l : Nat} (hc : Lots_count v = nI L) (hL : L ≤ 265) (hk : k < L) (hl : l < 6) : f_Lots_selfIn N v (nI k) (nI l) = some (rowOf v k l) := by
  unfold f_Lots_selfIn rowOf
  rw [hc, show nI k * 6 + nI l = nI (k * 6 + l) by simp (maxSteps := 2000000) (disch := omega) only [zlit, nI_add, pk_mul, nI_clamp], nI_clamp (n := k * 6 + l) (by omega)]
  have e : (if nI k < 0 then (0 : Int32) else (if nI L ≤ nI k then 0 else (if 265 ≤ nI k then 0 else (if nI l < 0 then 0 else (if 6 ≤ nI l then 0 else 1))))) = 1 := by
    show (if nI k < 0 then (0 : Int32) else (if nI L ≤ nI k then 0 else (if nI 265 ≤ nI k then 0 else (if nI l < 0 then 0 else (if nI 6 ≤ nI l then 0 else 1))))) = 1
    rw [if_neg (nI_pos (by omega)), if_neg (nI_ge hk (by omega)), if_neg (nI_ge (b := 265) (by omega) (by decide)), if_neg (nI_pos (by omega)), if_neg (nI_ge (b := 6) (by omega) (by decide))]
  repeat (first | (with_reducible refine zletG (e) ?_) | (with_reducible refine zletE ?_) | (with_reducible refine zifn ?_ ?_; · (first | with_reducible assumption | decide | (simp (disch := omega) only [zlit, nI_add, pk_mul, pk_sub, zsubm, nI_clamp, nI_leI, nI_ltI, nI_eq, zeqF, Nat.reduceEqDiff, zleF, zleT, zltF, zltT, zneg1, zneg1L, zneg2, zneg0, eq_self, or_self, false_or, or_false, Nat.not_lt_zero, not_false_eq_true, not_true_eq_false]; done))) | (with_reducible refine zifp ?_ ?_; · (first | with_reducible assumption | decide | (simp (disch := omega) only [zlit, nI_add, pk_mul, pk_sub, zsubm, nI_clamp, nI_leI, nI_ltI, nI_eq, zeqF, Nat.reduceEqDiff, zleF, zleT, zltF, zltT, zneg1, zneg1L, zneg2, zneg0, eq_self, or_self, false_or, or_false, Nat.not_lt_zero, not_false_eq_true, not_true_eq_false]; done))) | (with_reducible refine bnd (x := some _) rfl ?_))
  rfl
theorem goAway_loop (N : Nat) {v : VLives} {v1 : VTown} {v2 : VLaws} {v3 : VLots} {L p : Nat} (hc : Lots_count v3 = nI L) (hL : L ≤ 265) (hp : p < L) : ∀ (r k fuel : Nat) (se wo ho : Nat → Int32), k + r = 6 → r < fuel → Ev (f_Lives_goAway_L2 N fuel v v1 v2 v3 (nI p) (nI k) se wo ho) (fun q => (∀ l, k ≤ l → l < 6 → q.1 l = rowOf v3 p l ∧ q.2.1 l = Lives_purse v l - Lives_debt v l ∧ q.2.2 l = Lives_home v l) ∧ (∀ l, l < k → q.1 l = se l ∧ q.2.1 l = wo l ∧ q.2.2 l = ho l))
  | _, _, 0, _, _, _, _, h => absurd h (Nat.not_lt_zero _)
  | 0, k, fuel + 1, se, wo, ho, h1, h2 => by
    rw [f_Lives_goAway_L2]
    repeat (first | (with_reducible refine Ev.letE ?_) | (with_reducible refine Ev.ifn ?_ ?_; · (first | with_reducible assumption | decide | (simp (disch := omega) only [zlit, nI_add, pk_mul, pk_sub, zsubm, nI_clamp, nI_leI, nI_ltI, nI_eq, zeqF, Nat.reduceEqDiff, zleF, zleT, zltF, zltT, zneg1, zneg1L, zneg2, zneg0, eq_self, or_self, false_or, or_false, Nat.not_lt_zero, not_false_eq_true, not_true_eq_false]; done))) | (with_reducible refine Ev.ifp ?_ ?_; · (first | with_reducible assumption | decide | (simp (disch := omega) only [zlit, nI_add, pk_mul, pk_sub, zsubm, nI_clamp, nI_leI, nI_ltI, nI_eq, zeqF, Nat.reduceEqDiff, zleF, zleT, zltF, zltT, zneg1, zneg1L, zneg2, zneg0, eq_self, or_self, false_or, or_false, Nat.not_lt_zero, not_false_eq_true, not_true_eq_false]; done))) | (with_reducible refine Ev.bnd (x := some _) rfl ?_))
    exact Ev.ret ⟨fun l h3 h4 => absurd h4 (by omega), fun l h3 => ⟨rfl, rfl, rfl⟩⟩
  | r + 1, k, fuel + 1, se, wo, ho, h1, h2 => by
    rw [f_Lives_goAway_L2, nI_clamp (n := k) (by omega), show nI k + 1 = nI (k + 1) from nI_1 k]
    repeat (first | (with_reducible refine Ev.letE ?_) | (with_reducible refine Ev.ifn ?_ ?_; · (first | with_reducible assumption | decide | (simp (disch := omega) only [zlit, nI_add, pk_mul, pk_sub, zsubm, nI_clamp, nI_leI, nI_ltI, nI_eq, zeqF, Nat.reduceEqDiff, zleF, zleT, zltF, zltT, zneg1, zneg1L, zneg2, zneg0, eq_self, or_self, false_or, or_false, Nat.not_lt_zero, not_false_eq_true, not_true_eq_false]; done))) | (with_reducible refine Ev.ifp ?_ ?_; · (first | with_reducible assumption | decide | (simp (disch := omega) only [zlit, nI_add, pk_mul, pk_sub, zsubm, nI_clamp, nI_leI, nI_ltI, nI_eq, zeqF, Nat.reduceEqDiff, zleF, zleT, zltF, zltT, zneg1, zneg1L, zneg2, zneg0, eq_self, or_self, false_or, or_false, Nat.not_lt_zero, not_false_eq_true, not_true_eq_false]; done))) | (with_reducible refine Ev.bnd (selfIn_ok hc hL hp (show k < 6 by omega)) ?_) | (with_reducible refine Ev.bnd (x := some _) rfl ?_))
    refine (goAway_loop N hc hL hp r (k + 1) fuel _ _ _ (by omega) (by omega)).mono ?_
    rintro q ⟨q1, q2⟩
    refine ⟨fun l h3 h4 => ?_, fun l h3 => ?_⟩
    · by_cases e : l = k
      · subst e
        obtain ⟨a1, a2, a3⟩ := q2 l (by omega)
        rw [a1, a2, a3, pk_us, pk_us, pk_us]
        exact ⟨rfl, rfl, rfl⟩
      · exact q1 l (by omega) h4
    · obtain ⟨a1, a2, a3⟩ := q2 l (by omega)
      rw [a1, a2, a3, pk_un (by omega), pk_un (by omega), pk_un (by omega)]
      exact ⟨rfl, rfl, rfl⟩
theorem goAway_ev {N : Nat} (hN : 10000 ≤ N) {v : VLives} {v1 : VTown} {v2 : VLaws} {v3 : VLots} {L p : Nat} (hc : Lots_count v3 = nI L) (hL : L ≤ 265) (hp : p < L) : Ev (f_Lives_goAway N v v1 v2 v3 (nI p)) (fun q => (∀ l, l < 6 → q.1 l = rowOf v3 p l ∧ q.2.1 l = Lives_purse v l - Lives_debt v l ∧ q.2.2.1 l = Lives_home v l) ∧ q.2.2.2.1 = 1 ∧ q.2.2.2.2 = 0) := by
  unfold f_Lives_goAway
  refine Ev.bnx (goAway_loop N hc hL hp 6 0 N _ _ _ (by omega) (by omega)) ?_
  rintro q ⟨q1, q2⟩
  exact Ev.ret ⟨fun l hl => q1 l (by omega) hl, rfl, rfl⟩
theorem leaves_loop (N : Nat) {w : VR} {v1 : VTown} {v2 : VLaws} {v3 : VLots} {P L b p : Nat} (hb : b ≤ 1584) (hT : townR w v1 v2 P) (hl : lotsR w v3 P L) (hp : p < L) : ∀ (r k fuel : Nat) (st : Nat → Int32), k + r = P → r < fuel → Ev (f_R_leaves_L20 N fuel w (nI b) (nI p) (nI k) st) (fun q => (∀ l, k ≤ l → l < P → q (b + 28 + l) = rowOf v3 p l ∧ q (b + 34 + l) = st (b + 4 + l) - st (b + 10 + l) ∧ q (b + 40 + l) = st (b + 16 + l)) ∧ (∀ j, (∀ l, k ≤ l → l < P → ¬ j = b + 28 + l ∧ ¬ j = b + 34 + l ∧ ¬ j = b + 40 + l) → q j = st j))
  | _, _, 0, _, _, h => absurd h (Nat.not_lt_zero _)
  | 0, k, fuel + 1, st, h1, h2 => by
    have h6 := hT.1.2
    rw [f_R_leaves_L20]
    have hpe := people_ok (N := N) (w := R_state_s w st) hT
    repeat (first | (with_reducible refine Ev.letE ?_) | (with_reducible refine Ev.ifn ?_ ?_; · (first | with_reducible assumption | decide | (simp (disch := omega) only [zlit, nI_add, pk_mul, pk_sub, zsubm, nI_clamp, nI_leI, nI_ltI, nI_eq, zeqF, Nat.reduceEqDiff, zleF, zleT, zltF, zltT, zneg1, zneg1L, zneg2, zneg0, eq_self, or_self, false_or, or_false, Nat.not_lt_zero, not_false_eq_true, not_true_eq_false]; done))) | (with_reducible refine Ev.ifp ?_ ?_; · (first | with_reducible assumption | decide | (simp (disch := omega) only [zlit, nI_add, pk_mul, pk_sub, zsubm, nI_clamp, nI_leI, nI_ltI, nI_eq, zeqF, Nat.reduceEqDiff, zleF, zleT, zltF, zltT, zneg1, zneg1L, zneg2, zneg0, eq_self, or_self, false_or, or_false, Nat.not_lt_zero, not_false_eq_true, not_true_eq_false]; done))) | (with_reducible refine Ev.bnd (hpe) ?_) | (with_reducible refine Ev.bnd (x := some _) rfl ?_))
    exact Ev.ret ⟨fun l h3 h4 => absurd h4 (by omega), fun j h3 => rfl⟩
  | r + 1, k, fuel + 1, st, h1, h2 => by
    have h6 := hT.1.2
    have hL := hl.2.2.1
    have hpe := people_ok (N := N) (w := R_state_s w st) hT
    have hse : f_R_selfOf N (R_state_s w st) (nI p) (nI k) = some (rowOf v3 p k) := by
      unfold f_R_selfOf
      rw [nI_clamp (n := p) (by omega)]
      repeat (first | (with_reducible refine zletE ?_) | (with_reducible refine zifn ?_ ?_; · (first | with_reducible assumption | decide | (simp (disch := omega) only [zlit, nI_add, pk_mul, pk_sub, zsubm, nI_clamp, nI_leI, nI_ltI, nI_eq, zeqF, Nat.reduceEqDiff, zleF, zleT, zltF, zltT, zneg1, zneg1L, zneg2, zneg0, eq_self, or_self, false_or, or_false, Nat.not_lt_zero, not_false_eq_true, not_true_eq_false]; done))) | (with_reducible refine zifp ?_ ?_; · (first | with_reducible assumption | decide | (simp (disch := omega) only [zlit, nI_add, pk_mul, pk_sub, zsubm, nI_clamp, nI_leI, nI_ltI, nI_eq, zeqF, Nat.reduceEqDiff, zleF, zleT, zltF, zltT, zneg1, zneg1L, zneg2, zneg0, eq_self, or_self, false_or, or_false, Nat.not_lt_zero, not_false_eq_true, not_true_eq_false]; done))) | (with_reducible refine bnd (x := some _) rfl ?_))
      exact congrArg some ((hl.2.2.2 p hp).2.2 k (by omega))
    rw [f_R_leaves_L20, show Int32.toNatClampNeg ((nI b + 28) + nI k) = b + 28 + k from ix (c := 28) (by omega), show Int32.toNatClampNeg ((nI b + 34) + nI k) = b + 34 + k from ix (c := 34) (by omega), show Int32.toNatClampNeg ((nI b + 40) + nI k) = b + 40 + k from ix (c := 40) (by omega), show Int32.toNatClampNeg ((nI b + 4) + nI k) = b + 4 + k from ix (c := 4) (by omega), show Int32.toNatClampNeg ((nI b + 10) + nI k) = b + 10 + k from ix (c := 10) (by omega), show Int32.toNatClampNeg ((nI b + 16) + nI k) = b + 16 + k from ix (c := 16) (by omega), show nI k + 1 = nI (k + 1) from nI_1 k]
    repeat (first | (with_reducible refine Ev.letE ?_) | (with_reducible refine Ev.ifn ?_ ?_; · (first | with_reducible assumption | decide | (simp (disch := omega) only [zlit, nI_add, pk_mul, pk_sub, zsubm, nI_clamp, nI_leI, nI_ltI, nI_eq, zeqF, Nat.reduceEqDiff, zleF, zleT, zltF, zltT, zneg1, zneg1L, zneg2, zneg0, eq_self, or_self, false_or, or_false, Nat.not_lt_zero, not_false_eq_true, not_true_eq_false]; done))) | (with_reducible refine Ev.ifp ?_ ?_; · (first | with_reducible assumption | decide | (simp (disch := omega) only [zlit, nI_add, pk_mul, pk_sub, zsubm, nI_clamp, nI_leI, nI_ltI, nI_eq, zeqF, Nat.reduceEqDiff, zleF, zleT, zltF, zltT, zneg1, zneg1L, zneg2, zneg0, eq_self, or_self, false_or, or_false, Nat.not_lt_zero, not_false_eq_true, not_true_eq_false]; done))) | (with_reducible refine Ev.bnd (hpe) ?_) | (with_reducible refine Ev.bnd (hse) ?_) | (with_reducible refine Ev.bnd (x := some _) rfl ?_))
    refine (leaves_loop N hb hT hl hp r (k + 1) fuel _ (by omega) (by omega)).mono ?_
    rintro q ⟨q1, q2⟩
    refine ⟨fun l h3 h4 => ?_, fun j h3 => ?_⟩
    · by_cases e : l = k
      · subst e
        refine ⟨?_, ?_, ?_⟩
        · rw [q2 _ (fun i hi hi2 => by omega), pk_un (by omega), pk_un (by omega), pk_us]
        · rw [q2 _ (fun i hi hi2 => by omega), pk_un (by omega), pk_us, pk_un (by omega), pk_un (by omega)]
        · rw [q2 _ (fun i hi hi2 => by omega), pk_us, pk_un (by omega), pk_un (by omega)]
      · obtain ⟨a1, a2, a3⟩ := q1 l (by omega) h4
        refine ⟨a1, ?_, ?_⟩
        · rw [a2, pk_un (by omega), pk_un (by omega), pk_un (by omega), pk_un (by omega), pk_un (by omega), pk_un (by omega)]
        · rw [a3, pk_un (by omega), pk_un (by omega), pk_un (by omega)]
    · have h5 := h3 k (Nat.le_refl _) (by omega)
      rw [q2 j (fun l hl hl2 => h3 l (by omega) hl2), pk_un h5.2.2, pk_un h5.2.1, pk_un h5.1]
theorem leaves_ev {N : Nat} (hN : 10000 ≤ N) {w : VR} {v1 : VTown} {v2 : VLaws} {v3 : VLots} {P L b p : Nat} (hb : b ≤ 1584) (hT : townR w v1 v2 P) (hl : lotsR w v3 P L) (hp : p < L) : Ev (f_R_leaves N w (nI b) (nI p)) (fun q => (∀ l, l < P → q (b + 28 + l) = rowOf v3 p l ∧ q (b + 34 + l) = R_state w (b + 4 + l) - R_state w (b + 10 + l) ∧ q (b + 40 + l) = R_state w (b + 16 + l)) ∧ q (b + 0) = 1 ∧ q (b + 1) = 0 ∧ (∀ j, ¬ j = b + 0 → ¬ j = b + 1 → (∀ l, l < P → ¬ j = b + 28 + l ∧ ¬ j = b + 34 + l ∧ ¬ j = b + 40 + l) → q j = R_state w j)) := by
  have h6 := hT.1.2
  unfold f_R_leaves
  rw [show nI b + 0 = nI (b + 0) from nI_add b 0, show nI b + 1 = nI (b + 1) from nI_1 b, nI_clamp (n := b + 0) (by omega), nI_clamp (n := b + 1) (by omega)]
  repeat (first | (with_reducible refine Ev.letE ?_) | (with_reducible refine Ev.ifn ?_ ?_; · (first | with_reducible assumption | decide | (simp (disch := omega) only [zlit, nI_add, pk_mul, pk_sub, zsubm, nI_clamp, nI_leI, nI_ltI, nI_eq, zeqF, Nat.reduceEqDiff, zleF, zleT, zltF, zltT, zneg1, zneg1L, zneg2, zneg0, eq_self, or_self, false_or, or_false, Nat.not_lt_zero, not_false_eq_true, not_true_eq_false]; done))) | (with_reducible refine Ev.ifp ?_ ?_; · (first | with_reducible assumption | decide | (simp (disch := omega) only [zlit, nI_add, pk_mul, pk_sub, zsubm, nI_clamp, nI_leI, nI_ltI, nI_eq, zeqF, Nat.reduceEqDiff, zleF, zleT, zltF, zltT, zneg1, zneg1L, zneg2, zneg0, eq_self, or_self, false_or, or_false, Nat.not_lt_zero, not_false_eq_true, not_true_eq_false]; done))) | (with_reducible refine Ev.bnd (x := some _) rfl ?_))
  refine Ev.bnx (leaves_loop N (w := R_state_s w (upd (upd (R_state w) (b + 0) 1) (b + 1) 0)) hb hT hl hp P 0 N _ (by omega) (by omega)) ?_
  rintro q ⟨q1, q2⟩
  refine Ev.ret ⟨fun l hl => ?_, ?_, ?_, fun j h1 h2 h3 => ?_⟩
  · obtain ⟨a1, a2, a3⟩ := q1 l (by omega) hl
    refine ⟨a1, ?_, ?_⟩
    · rw [a2, pk_un (by omega), pk_un (by omega), pk_un (by omega), pk_un (by omega)]
    · rw [a3, pk_un (by omega), pk_un (by omega)]
  · rw [q2 _ (fun l hl hl2 => by omega), pk_un (by omega), pk_us]
  · rw [q2 _ (fun l hl hl2 => by omega), pk_us]
  · rw [q2 j (fun l hl hl2 => h3 l hl2), pk_un h2, pk_un h1]
/-! ===== coming home ===== -/
theorem comeBack_loop (N : Nat) {v : VLives} {v1 : VTown} {v2 : VLaws} : ∀ (r k fuel : Nat) (hi se : Nat → Int32), k + r = 6 → r < fuel → Ev (f_Lives_comeBack_L2 N fuel v v1 v2 (nI k) hi se) (fun q => (∀ l, k ≤ l → l < 6 → q.1 l = 0 ∧ q.2 l = nI l) ∧ (∀ l, l < k → q.1 l = hi l ∧ q.2 l = se l))
  | _, _, 0, _, _, _, h => absurd h (Nat.not_lt_zero _)
  | 0, k, fuel + 1, hi, se, h1, h2 => by
    rw [f_Lives_comeBack_L2]
    repeat (first | (with_reducible refine Ev.letE ?_) | (with_reducible refine Ev.ifn ?_ ?_; · (first | with_reducible assumption | decide | (simp (disch := omega) only [zlit, nI_add, pk_mul, pk_sub, zsubm, nI_clamp, nI_leI, nI_ltI, nI_eq, zeqF, Nat.reduceEqDiff, zleF, zleT, zltF, zltT, zneg1, zneg1L, zneg2, zneg0, eq_self, or_self, false_or, or_false, Nat.not_lt_zero, not_false_eq_true, not_true_eq_false]; done))) | (with_reducible refine Ev.ifp ?_ ?_; · (first | with_reducible assumption | decide | (simp (disch := omega) only [zlit, nI_add, pk_mul, pk_sub, zsubm, nI_clamp, nI_leI, nI_ltI, nI_eq, zeqF, Nat.reduceEqDiff, zleF, zleT, zltF, zltT, zneg1, zneg1L, zneg2, zneg0, eq_self, or_self, false_or, or_false, Nat.not_lt_zero, not_false_eq_true, not_true_eq_false]; done))) | (with_reducible refine Ev.bnd (x := some _) rfl ?_))
    exact Ev.ret ⟨fun l h3 h4 => absurd h4 (by omega), fun l h3 => ⟨rfl, rfl⟩⟩
  | r + 1, k, fuel + 1, hi, se, h1, h2 => by
    rw [f_Lives_comeBack_L2, nI_clamp (n := k) (by omega), show nI k + 1 = nI (k + 1) from nI_1 k]
    repeat (first | (with_reducible refine Ev.letE ?_) | (with_reducible refine Ev.ifn ?_ ?_; · (first | with_reducible assumption | decide | (simp (disch := omega) only [zlit, nI_add, pk_mul, pk_sub, zsubm, nI_clamp, nI_leI, nI_ltI, nI_eq, zeqF, Nat.reduceEqDiff, zleF, zleT, zltF, zltT, zneg1, zneg1L, zneg2, zneg0, eq_self, or_self, false_or, or_false, Nat.not_lt_zero, not_false_eq_true, not_true_eq_false]; done))) | (with_reducible refine Ev.ifp ?_ ?_; · (first | with_reducible assumption | decide | (simp (disch := omega) only [zlit, nI_add, pk_mul, pk_sub, zsubm, nI_clamp, nI_leI, nI_ltI, nI_eq, zeqF, Nat.reduceEqDiff, zleF, zleT, zltF, zltT, zneg1, zneg1L, zneg2, zneg0, eq_self, or_self, false_or, or_false, Nat.not_lt_zero, not_false_eq_true, not_true_eq_false]; done))) | (with_reducible refine Ev.bnd (x := some _) rfl ?_))
    refine (comeBack_loop N r (k + 1) fuel _ _ (by omega) (by omega)).mono ?_
    rintro q ⟨q1, q2⟩
    refine ⟨fun l h3 h4 => ?_, fun l h3 => ?_⟩
    · by_cases e : l = k
      · subst e
        obtain ⟨a1, a2⟩ := q2 l (by omega)
        rw [a1, a2, pk_us, pk_us]
        exact ⟨rfl, rfl⟩
      · exact q1 l (by omega) h4
    · obtain ⟨a1, a2⟩ := q2 l (by omega)
      rw [a1, a2, pk_un (by omega), pk_un (by omega)]
      exact ⟨rfl, rfl⟩
theorem comeBack_ev {N : Nat} (hN : 10000 ≤ N) {v : VLives} {v1 : VTown} {v2 : VLaws} : Ev (f_Lives_comeBack N v v1 v2) (fun q => (∀ l, l < 6 → q.1 l = 0 ∧ q.2.1 l = nI l) ∧ q.2.2.1 = 0 ∧ q.2.2.2 = 0) := by
  unfold f_Lives_comeBack
  refine Ev.bnx (comeBack_loop N 6 0 N _ _ (by omega) (by omega)) ?_
  rintro q ⟨q1, q2⟩
  exact Ev.ret ⟨fun l hl => q1 l (by omega) hl, rfl, rfl⟩
theorem goHome_ev {N : Nat} (hN : 10000 ≤ N) {v : VLives} {v1 : VTown} {v2 : VLaws} {P : Nat} (hP : tpl v1 P) (ha : ¬ Lives_away v = 0) : Ev (f_Lives_goHome N v v1 v2) (fun q => q.1 = sumN (hmOf v) P 0 0 ∧ (∀ l, l < 6 → q.2.1 l = 0 ∧ q.2.2.1 l = nI l) ∧ q.2.2.2.1 = 0 ∧ q.2.2.2.2.1 = 0 ∧ q.2.2.2.2.2.1 = Lives_homes v + 1 ∧ q.2.2.2.2.2.2 = Lives_harm v + sumN (hmOf v) P 0 0) := by
  unfold f_Lives_goHome
  repeat (first | (with_reducible refine Ev.letE ?_) | (with_reducible refine Ev.ifn ?_ ?_; · (first | with_reducible assumption | decide | (simp (disch := omega) only [zlit, nI_add, pk_mul, pk_sub, zsubm, nI_clamp, nI_leI, nI_ltI, nI_eq, zeqF, Nat.reduceEqDiff, zleF, zleT, zltF, zltT, zneg1, zneg1L, zneg2, zneg0, eq_self, or_self, false_or, or_false, Nat.not_lt_zero, not_false_eq_true, not_true_eq_false]; done))) | (with_reducible refine Ev.ifp ?_ ?_; · (first | with_reducible assumption | decide | (simp (disch := omega) only [zlit, nI_add, pk_mul, pk_sub, zsubm, nI_clamp, nI_leI, nI_ltI, nI_eq, zeqF, Nat.reduceEqDiff, zleF, zleT, zltF, zltT, zneg1, zneg1L, zneg2, zneg0, eq_self, or_self, false_or, or_false, Nat.not_lt_zero, not_false_eq_true, not_true_eq_false]; done))) | (with_reducible refine Ev.bnd (harmAll_ok hN hP) ?_) | (with_reducible refine Ev.bnd (x := some _) rfl ?_))
  refine Ev.bnx (comeBack_ev hN) ?_
  rintro q ⟨q1, q2, q3⟩
  exact Ev.ret ⟨rfl, q1, q2, q3, rfl, rfl⟩
theorem goesHome_loop (N : Nat) {w : VR} {v1 : VTown} {v2 : VLaws} {P b : Nat} {y : Int32} (hb : b ≤ 1584) (hT : townR w v1 v2 P) : ∀ (r k fuel : Nat) (st : Nat → Int32), k + r = P → r < fuel → Ev (f_R_goesHome_L51 N fuel w (nI b) y (nI k) st) (fun q => (∀ l, k ≤ l → l < P → q (b + 28 + l) = nI l ∧ q (b + 22 + l) = 0) ∧ (∀ j, (∀ l, k ≤ l → l < P → ¬ j = b + 28 + l ∧ ¬ j = b + 22 + l) → q j = st j))
  | _, _, 0, _, _, h => absurd h (Nat.not_lt_zero _)
  | 0, k, fuel + 1, st, h1, h2 => by
    have h6 := hT.1.2
    rw [f_R_goesHome_L51]
    have hpe := people_ok (N := N) (w := R_state_s w st) hT
    repeat (first | (with_reducible refine Ev.letE ?_) | (with_reducible refine Ev.ifn ?_ ?_; · (first | with_reducible assumption | decide | (simp (disch := omega) only [zlit, nI_add, pk_mul, pk_sub, zsubm, nI_clamp, nI_leI, nI_ltI, nI_eq, zeqF, Nat.reduceEqDiff, zleF, zleT, zltF, zltT, zneg1, zneg1L, zneg2, zneg0, eq_self, or_self, false_or, or_false, Nat.not_lt_zero, not_false_eq_true, not_true_eq_false]; done))) | (with_reducible refine Ev.ifp ?_ ?_; · (first | with_reducible assumption | decide | (simp (disch := omega) only [zlit, nI_add, pk_mul, pk_sub, zsubm, nI_clamp, nI_leI, nI_ltI, nI_eq, zeqF, Nat.reduceEqDiff, zleF, zleT, zltF, zltT, zneg1, zneg1L, zneg2, zneg0, eq_self, or_self, false_or, or_false, Nat.not_lt_zero, not_false_eq_true, not_true_eq_false]; done))) | (with_reducible refine Ev.bnd (hpe) ?_) | (with_reducible refine Ev.bnd (x := some _) rfl ?_))
    exact Ev.ret ⟨fun l h3 h4 => absurd h4 (by omega), fun j h3 => rfl⟩
  | r + 1, k, fuel + 1, st, h1, h2 => by
    have h6 := hT.1.2
    have hpe := people_ok (N := N) (w := R_state_s w st) hT
    rw [f_R_goesHome_L51, show Int32.toNatClampNeg ((nI b + 28) + nI k) = b + 28 + k from ix (c := 28) (by omega), show Int32.toNatClampNeg ((nI b + 22) + nI k) = b + 22 + k from ix (c := 22) (by omega), show nI k + 1 = nI (k + 1) from nI_1 k]
    repeat (first | (with_reducible refine Ev.letE ?_) | (with_reducible refine Ev.ifn ?_ ?_; · (first | with_reducible assumption | decide | (simp (disch := omega) only [zlit, nI_add, pk_mul, pk_sub, zsubm, nI_clamp, nI_leI, nI_ltI, nI_eq, zeqF, Nat.reduceEqDiff, zleF, zleT, zltF, zltT, zneg1, zneg1L, zneg2, zneg0, eq_self, or_self, false_or, or_false, Nat.not_lt_zero, not_false_eq_true, not_true_eq_false]; done))) | (with_reducible refine Ev.ifp ?_ ?_; · (first | with_reducible assumption | decide | (simp (disch := omega) only [zlit, nI_add, pk_mul, pk_sub, zsubm, nI_clamp, nI_leI, nI_ltI, nI_eq, zeqF, Nat.reduceEqDiff, zleF, zleT, zltF, zltT, zneg1, zneg1L, zneg2, zneg0, eq_self, or_self, false_or, or_false, Nat.not_lt_zero, not_false_eq_true, not_true_eq_false]; done))) | (with_reducible refine Ev.bnd (hpe) ?_) | (with_reducible refine Ev.bnd (x := some _) rfl ?_))
    refine (goesHome_loop N hb hT r (k + 1) fuel _ (by omega) (by omega)).mono ?_
    rintro q ⟨q1, q2⟩
    refine ⟨fun l h3 h4 => ?_, fun j h3 => ?_⟩
    · by_cases e : l = k
      · subst e
        refine ⟨?_, ?_⟩
        · rw [q2 _ (fun i hi hi2 => by omega), pk_un (by omega), pk_us]
        · rw [q2 _ (fun i hi hi2 => by omega), pk_us]
      · exact q1 l (by omega) h4
    · have h5 := h3 k (Nat.le_refl _) (by omega)
      rw [q2 j (fun l hl hl2 => h3 l (by omega) hl2), pk_un h5.2, pk_un h5.1]
theorem goesHome_ev {N : Nat} (hN : 10000 ≤ N) {w : VR} {v1 : VTown} {v2 : VLaws} {v : VLives} {P b : Nat} (hb : b ≤ 1584) (hT : townR w v1 v2 P) (h : LR P b (R_state w) v) : Ev (f_R_goesHome N w (nI b)) (fun q => q.1 = sumN (hmOf v) P 0 0 ∧ (∀ l, l < P → q.2 (b + 28 + l) = nI l ∧ q.2 (b + 22 + l) = 0) ∧ q.2 (b + 0) = 0 ∧ q.2 (b + 1) = 0 ∧ q.2 (b + 2) = Lives_homes v + 1 ∧ q.2 (b + 3) = Lives_harm v + sumN (hmOf v) P 0 0 ∧ (∀ j, ¬ (b ≤ j ∧ j < b + 4) → (∀ l, l < P → ¬ j = b + 28 + l ∧ ¬ j = b + 22 + l) → q.2 j = R_state w j)) := by
  have h6 := hT.1.2
  unfold f_R_goesHome
  rw [show nI b + 0 = nI (b + 0) from nI_add b 0, show nI b + 1 = nI (b + 1) from nI_1 b, show nI b + 2 = nI (b + 2) from nI_add b 2, show nI b + 3 = nI (b + 3) from nI_add b 3, nI_clamp (n := b + 0) (by omega), nI_clamp (n := b + 1) (by omega), nI_clamp (n := b + 2) (by omega), nI_clamp (n := b + 3) (by omega)]
  repeat (first | (with_reducible refine Ev.letE ?_) | (with_reducible refine Ev.ifn ?_ ?_; · (first | with_reducible assumption | decide | (simp (disch := omega) only [zlit, nI_add, pk_mul, pk_sub, zsubm, nI_clamp, nI_leI, nI_ltI, nI_eq, zeqF, Nat.reduceEqDiff, zleF, zleT, zltF, zltT, zneg1, zneg1L, zneg2, zneg0, eq_self, or_self, false_or, or_false, Nat.not_lt_zero, not_false_eq_true, not_true_eq_false]; done))) | (with_reducible refine Ev.ifp ?_ ?_; · (first | with_reducible assumption | decide | (simp (disch := omega) only [zlit, nI_add, pk_mul, pk_sub, zsubm, nI_clamp, nI_leI, nI_ltI, nI_eq, zeqF, Nat.reduceEqDiff, zleF, zleT, zltF, zltT, zneg1, zneg1L, zneg2, zneg0, eq_self, or_self, false_or, or_false, Nat.not_lt_zero, not_false_eq_true, not_true_eq_false]; done))) | (with_reducible refine Ev.bnd ((allHarm_ok hN hb hT h).1) ?_) | (with_reducible refine Ev.bnd (x := some _) rfl ?_))
  have e2 : upd (upd (R_state w) (b + 0) 0) (b + 1) 0 (b + 2) = Lives_homes v := by rw [pk_un (by omega), pk_un (by omega), h.2.2.2.1]
  have e3 : ∀ x : Int32, upd (upd (upd (R_state w) (b + 0) 0) (b + 1) 0) (b + 2) x (b + 3) = Lives_harm v := fun x => by rw [pk_un (by omega), pk_un (by omega), pk_un (by omega), h.2.2.2.2.1]
  rw [e2, e3]
  refine Ev.bnx (goesHome_loop N (w := R_state_s w _) hb hT P 0 N _ (by omega) (by omega)) ?_
  rintro q ⟨q1, q2⟩
  refine Ev.ret ⟨rfl, fun l hl => q1 l (by omega) hl, ?_, ?_, ?_, ?_, fun j h1 h2 => ?_⟩
  · show q (b + 0) = 0
    rw [q2 _ (fun l hl hl2 => by omega), pk_un (by omega), pk_un (by omega), pk_un (by omega), pk_us]
  · show q (b + 1) = 0
    rw [q2 _ (fun l hl hl2 => by omega), pk_un (by omega), pk_un (by omega), pk_us]
  · show q (b + 2) = _
    rw [q2 _ (fun l hl hl2 => by omega), pk_un (by omega), pk_us]
  · show q (b + 3) = _
    rw [q2 _ (fun l hl hl2 => by omega), pk_us]
  · show q j = _
    rw [q2 j (fun l hl hl2 => h2 l hl2), pk_un (by omega), pk_un (by omega), pk_un (by omega), pk_un (by omega)]
