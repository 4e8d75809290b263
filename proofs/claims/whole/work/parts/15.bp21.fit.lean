/-! ===== which LOTS go with the TALES ===== -/
def allF (A : Nat → Bool) : Nat → Nat → Bool
  | 0, _ => true
  | r + 1, k => A k && allF A r (k + 1)
theorem allF_iff (A : Nat → Bool) : ∀ (r k : Nat), allF A r k = true ↔ ∀ i, k ≤ i → i < k + r → A i = true
  | 0, k => ⟨fun _ i h1 h2 => absurd h2 (by omega), fun _ => rfl⟩
  | r + 1, k => by
    show (A k && allF A r (k + 1)) = true ↔ _
    rw [Bool.and_eq_true, allF_iff A r (k + 1)]
    refine ⟨fun h i h1 h2 => ?_, fun h => ⟨h k (Nat.le_refl _) (by omega), fun i h1 h2 => h i (by omega) (by omega)⟩⟩
    by_cases e : i = k
    · subst e; exact h.1
    · exact h.2 i (by omega) (by omega)
def bI (b : Bool) : Int32 := if b = true then 1 else 0
theorem bI_nar (b : Bool) : vp_nar .boolean (bI b) = bI b := by cases b <;> rfl
theorem bI_01 (b : Bool) : bI b = 0 ∨ bI b = 1 := by cases b <;> decide
def cntB (A : Nat → Bool) : Nat → Nat
  | 0 => 0
  | n + 1 => cntB A n + (if A n = true then 1 else 0)
theorem cntB_le (A : Nat → Bool) : ∀ n, cntB A n ≤ n
  | 0 => Nat.le_refl _
  | n + 1 => by
    have := cntB_le A n
    rw [cntB]
    split <;> omega
theorem cntB_mono (A : Nat → Bool) {m : Nat} : ∀ {n}, m ≤ n → cntB A m ≤ cntB A n
  | 0, h => by rw [show m = 0 by omega]; exact Nat.le_refl _
  | n + 1, h => by
    by_cases e : m = n + 1
    · rw [e]; exact Nat.le_refl _
    · have := cntB_mono A (show m ≤ n by omega)
      rw [cntB]
      omega
theorem cntB_zero (A : Nat → Bool) : ∀ {n}, cntB A n = 0 → ∀ i, i < n → A i = false
  | 0, _, i, hi => absurd hi (Nat.not_lt_zero _)
  | n + 1, h, i, hi => by
    rw [cntB] at h
    by_cases e : i = n
    · subst e
      cases hA : A i with
      | false => rfl
      | true => rw [hA, if_pos rfl] at h; omega
    · exact cntB_zero A (n := n) (by omega) i (by omega)
/-- a TALE is so by a LOT -/
def soT (v2 : VTown) (v3 : VLaws) (v9 : VLots) (P g : Nat) (v10 : VLives) (t : VTales) (p i : Nat) : Bool := decide (Lives_purse (wkV v2 v3 v9 P g v10 p (Tales_days t i).toNatClampNeg) (Tales_lives t i).toNatClampNeg = Tales_purses t i)
def fitB (v2 : VTown) (v3 : VLaws) (v9 : VLots) (P g : Nat) (v10 : VLives) (t : VTales) (p : Nat) : Bool := allF (soT v2 v3 v9 P g v10 t p) (Tales_count t).toNatClampNeg 0
theorem heldBy_ok {N : Nat} {v17 : VForecast} {v2 : VTown} {v3 : VLaws} {v9 : VLots} {v10 u : VLives} {p l d : Nat} (hp : p < 265) (hl : l < 6) (hd1 : 1 ≤ d) (hd7 : d ≤ 7) : f_Forecast_heldBy N v17 v2 v3 v9 v10 u (nI p) (nI l) (nI d) = some (Forecast_held v17 (p * 42 + (d - 1) * 6 + l)) := by
  obtain ⟨e, rfl⟩ : ∃ e, d = e + 1 := ⟨d - 1, by omega⟩
  have i1 : (nI p * 42 + (nI (e + 1) - 1) * 6) + nI l = nI (p * 42 + e * 6 + l) := by
    rw [nI_pred, show (42 : Int32) = nI 42 from rfl, show (6 : Int32) = nI 6 from rfl, pk_mul, pk_mul, nI_add, nI_add]
  unfold f_Forecast_heldBy
  rw [i1, nI_clamp (n := p * 42 + e * 6 + l) (by omega), Nat.add_sub_cancel]
  have z : (if nI p < 0 then (0 : Int32) else (if 265 ≤ nI p then 0 else (if nI l < 0 then 0 else (if 6 ≤ nI l then 0 else (if nI (e + 1) < 1 then 0 else (if 7 < nI (e + 1) then 0 else 1)))))) = 1 := by
    exact (if_neg (nI_pos (by omega))).trans ((if_neg (nI_ge (b := 265) hp (by decide))).trans ((if_neg (nI_pos (by omega))).trans ((if_neg (nI_ge (b := 6) hl (by decide))).trans ((if_neg (nI_nlt (b := 1) hd1 (by omega))).trans (if_neg (nI_nlt (a := 7) hd7 (by decide)))))))
  refine zletG z ?_
  refine zifn (by decide) ?_
  refine zifn (fun x => x.elim (nI_pos (by omega)) (fun y => by omega)) ?_
  rfl
theorem start2_ev {N : Nat} (hN : 10000 ≤ N) {w : VR} {v2 : VTown} {v3 : VLaws} {v9 : VLots} {v10 : VLives} {P L p : Nat} (h6 : P ≤ 6) (hp : p < L) (hR : LR P 0 (R_state w) v10) : Ev (f_R_copies N w 0 1584 46) (fun s => ∀ w' : VR, townR w' v2 v3 P → lotsR w' v9 P L → R_state w' = s → Ev (f_R_leaves N w' 1584 (nI p)) (fun q => LR P 1584 q (leaveV v10 (rowOf v9 p)) ∧ Fr 1584 1630 (R_state w) q)) := by
  refine (copies_ev hN (w := w) (a := 0) (b := 1584) (n := 46) (by omega) (by omega) (by omega)).mono ?_
  rintro s ⟨d1, d2⟩ w' hT hl rfl
  have hR2 : LR P 1584 (R_state w') v10 := hR.moved (b := 1584) h6 (fun j hj => d1 j hj)
  refine (leaves_v hN (w := w') (b := 1584) (by omega) hT hl hp hR2).mono ?_
  rintro q ⟨q1, q2⟩
  exact ⟨q1, fun j hj => (q2 j hj).trans (d2 j (by omega))⟩
theorem fits_loop (N : Nat) {v17 : VForecast} {v2 : VTown} {v3 v3' : VLaws} {v9 : VLots} {v10 u : VLives} {t : VTales} {w : VR} {P L g p n : Nat} (h6 : P ≤ 6) (hL : L ≤ 265) (hp : p < L) (hh : heldR P L g v2 v3 v9 v10 (Forecast_held v17) (Forecast_harms v17)) (ht1 : Tales_count t = nI n) (hn : n ≤ 8) (ht2 : ∀ i, i < n → ∃ l d q : Nat, l < P ∧ 1 ≤ d ∧ d ≤ 7 ∧ q ≤ 9999 ∧ Tales_lives t i = nI l ∧ R_state w (0 + 47 + 3 * i) = nI l ∧ Tales_days t i = nI d ∧ R_state w (0 + 48 + 3 * i) = nI d ∧ Tales_purses t i = nI q ∧ R_state w (0 + 49 + 3 * i) = nI q) : ∀ (r k fuel : Nat), k + r = n → r < fuel → f_Forecast_fits_L2 N fuel v17 v2 v3' v9 v10 u t (nI p) (nI k) = some (if allF (soT v2 v3 v9 P g v10 t p) r k = true then Sum.inr () else Sum.inl ())
  | _, _, 0, _, h => absurd h (Nat.not_lt_zero _)
  | 0, k, fuel + 1, hk, hf => by
    rw [f_Forecast_fits_L2, ht1]
    refine zifp (nI_le (by omega) (by omega)) ?_
    rfl
  | r + 1, k, fuel + 1, hk, hf => by
    obtain ⟨l, d, q, a1, a2, a3, a4, a5, -, a7, -, a9, -⟩ := ht2 k (by omega)
    have ih := fits_loop N (v17 := v17) (v3' := v3') (u := u) h6 hL hp hh ht1 hn ht2 r (k + 1) fuel (by omega) (by omega)
    have e1 : Forecast_held v17 (p * 42 + (d - 1) * 6 + l) = Lives_purse (wkV v2 v3 v9 P g v10 p d) l := by
      have := (hh p hp).1 (d - 1) l (by omega) a1
      rw [show d - 1 + 1 = d by omega] at this
      exact this
    rw [f_Forecast_fits_L2, ht1, nI_clamp (n := k) (by omega), show nI k + 1 = nI (k + 1) from nI_1 k, ih, a5, a7, a9]
    refine zifn (nI_ge (by omega) (by omega)) ?_
    refine zifn (nI_ge (b := 8) (by omega) (by decide)) ?_
    refine zifn (by first | with_reducible assumption | decide | (simp (disch := omega) only [zlit, nI_add, pk_mul, pk_sub, zsubm, nI_clamp, nI_leI, nI_ltI, nI_eq, zeqF, Nat.reduceEqDiff, zleF, zleT, zltF, zltT, zneg1, zneg1L, zneg2, zneg0, eq_self, or_self, false_or, or_false, Nat.not_lt_zero, not_false_eq_true, not_true_eq_false]; done)) ?_
    refine zifn (by first | with_reducible assumption | decide | (simp (disch := omega) only [zlit, nI_add, pk_mul, pk_sub, zsubm, nI_clamp, nI_leI, nI_ltI, nI_eq, zeqF, Nat.reduceEqDiff, zleF, zleT, zltF, zltT, zneg1, zneg1L, zneg2, zneg0, eq_self, or_self, false_or, or_false, Nat.not_lt_zero, not_false_eq_true, not_true_eq_false]; done)) ?_
    refine bnd (heldBy_ok (by omega) (by omega) a2 a3) ?_
    refine zifn (by first | with_reducible assumption | decide | (simp (disch := omega) only [zlit, nI_add, pk_mul, pk_sub, zsubm, nI_clamp, nI_leI, nI_ltI, nI_eq, zeqF, Nat.reduceEqDiff, zleF, zleT, zltF, zltT, zneg1, zneg1L, zneg2, zneg0, eq_self, or_self, false_or, or_false, Nat.not_lt_zero, not_false_eq_true, not_true_eq_false]; done)) ?_
    show (if _ = nI q then _ else _) = some (if (soT v2 v3 v9 P g v10 t p k && allF (soT v2 v3 v9 P g v10 t p) r (k + 1)) = true then _ else _)
    have e2 : soT v2 v3 v9 P g v10 t p k = decide (Lives_purse (wkV v2 v3 v9 P g v10 p d) l = nI q) := by
      unfold soT
      rw [a5, a7, a9, nI_clamp (n := d) (by omega), nI_clamp (n := l) (by omega)]
    rw [e1, e2]
    by_cases c : Lives_purse (wkV v2 v3 v9 P g v10 p d) l = nI q
    · rw [if_pos c, decide_eq_true c, Bool.true_and]
    · rw [if_neg c, decide_eq_false c, Bool.false_and]
      rfl
theorem fits_ok {N : Nat} (hN : 10000 ≤ N) {v17 : VForecast} {v2 : VTown} {v3 v3' : VLaws} {v9 : VLots} {v10 u : VLives} {t : VTales} {w : VR} {P L g p : Nat} (h6 : P ≤ 6) (hL : L ≤ 265) (hp : p < L) (hh : heldR P L g v2 v3 v9 v10 (Forecast_held v17) (Forecast_harms v17)) (ht : taleR P 0 (R_state w) t) : f_Forecast_fits N v17 v2 v3' v9 v10 u t (nI p) = some (bI (fitB v2 v3 v9 P g v10 t p)) := by
  obtain ⟨n, hn, t1, -, t2⟩ := ht
  have h := fits_loop N (v17 := v17) (v3' := v3') (u := u) h6 hL hp hh t1 hn t2 n 0 N (by omega) (by omega)
  have h : f_Forecast_fits_L2 N N v17 v2 v3' v9 v10 u t (nI p) 0 = _ := h
  unfold f_Forecast_fits fitB
  rw [h, t1, nI_clamp (n := n) (by omega)]
  by_cases c : allF (soT v2 v3 v9 P g v10 t p) n 0 = true
  · rw [if_pos c, c]; rfl
  · rw [if_neg c, Bool.eq_false_iff.mpr c]; rfl
theorem ccount_loop {N : Nat} (hN : 10000 ≤ N) {v17 : VForecast} {v2 : VTown} {v3 v3' : VLaws} {v9 : VLots} {v10 u : VLives} {t : VTales} {w : VR} {P L g : Nat} (h6 : P ≤ 6) (hl : lotsR w v9 P L) (hh : heldR P L g v2 v3 v9 v10 (Forecast_held v17) (Forecast_harms v17)) (ht : taleR P 0 (R_state w) t) : ∀ (r k fuel : Nat) (fi : Nat → Int32), k + r = L → r < fuel → (∀ p, p < k → fi p = bI (fitB v2 v3 v9 P g v10 t p)) → Ev (f_Forecast_countFitting_L8 N fuel v17 v2 v3' v9 v10 u t (nI (cntB (fitB v2 v3 v9 P g v10 t) k)) (nI k) fi) (fun q => q.1 = nI (cntB (fitB v2 v3 v9 P g v10 t) L) ∧ ∀ p, p < L → q.2 p = bI (fitB v2 v3 v9 P g v10 t p))
  | _, _, 0, _, _, h, _ => absurd h (Nat.not_lt_zero _)
  | 0, k, fuel + 1, fi, hk, hf, hfi => by
    have hL := hl.2.2.1
    have hk : k = L := hk
    subst hk
    rw [f_Forecast_countFitting_L8, hl.2.1]
    refine Ev.ifp (nI_le (by omega) (by omega)) ?_
    exact Ev.ret ⟨rfl, hfi⟩
  | r + 1, k, fuel + 1, fi, hk, hf, hfi => by
    have hL := hl.2.2.1
    have hc := cntB_le (fitB v2 v3 v9 P g v10 t) k
    rw [f_Forecast_countFitting_L8, hl.2.1, nI_clamp (n := k) (by omega), show nI k + 1 = nI (k + 1) from nI_1 k]
    refine Ev.ifn (nI_ge (by omega) (by omega)) ?_
    refine Ev.ifn (nI_ge (b := 265) (by omega) (by decide)) ?_
    refine Ev.bnd (fits_ok hN (v17 := Forecast_fitting_s v17 fi) (v3' := v3') (u := u) h6 hL (show k < L by omega) hh ht) ?_
    refine Ev.ifn (by first | with_reducible assumption | decide | (simp (disch := omega) only [zlit, nI_add, pk_mul, pk_sub, zsubm, nI_clamp, nI_leI, nI_ltI, nI_eq, zeqF, Nat.reduceEqDiff, zleF, zleT, zltF, zltT, zneg1, zneg1L, zneg2, zneg0, eq_self, or_self, false_or, or_false, Nat.not_lt_zero, not_false_eq_true, not_true_eq_false]; done)) ?_
    refine Ev.ifn (by first | with_reducible assumption | decide | (simp (disch := omega) only [zlit, nI_add, pk_mul, pk_sub, zsubm, nI_clamp, nI_leI, nI_ltI, nI_eq, zeqF, Nat.reduceEqDiff, zleF, zleT, zltF, zltT, zneg1, zneg1L, zneg2, zneg0, eq_self, or_self, false_or, or_false, Nat.not_lt_zero, not_false_eq_true, not_true_eq_false]; done)) ?_
    rw [bI_nar]
    refine Ev.letE ?_
    have e : (if upd fi k (bI (fitB v2 v3 v9 P g v10 t k)) k = 0 then nI (cntB (fitB v2 v3 v9 P g v10 t) k) else nI (cntB (fitB v2 v3 v9 P g v10 t) k) + 1) = nI (cntB (fitB v2 v3 v9 P g v10 t) (k + 1)) := by
      rw [pk_us, cntB]
      cases fitB v2 v3 v9 P g v10 t k with
      | false => rfl
      | true => exact nI_1 _
    refine Ev.letG e ?_
    refine ccount_loop hN h6 hl hh ht r (k + 1) fuel _ (by omega) (by omega) (fun p hp => ?_)
    by_cases c : p = k
    · subst c; rw [pk_us]
    · rw [pk_un c]; exact hfi p (by omega)
theorem fitB_fs (v2 : VTown) (v3 : VLaws) (v9 : VLots) (P g : Nat) (v10 : VLives) (t : VTales) (fa sk : Nat → Int32) : fitB v2 (Laws_s_facts_stack v3 fa sk) v9 P g v10 t = fitB v2 v3 v9 P g v10 t := by
  funext p
  unfold fitB
  congr 1
  funext i
  unfold soT
  rw [wkV_fs]
theorem countFitting_ev {N : Nat} (hN : 10000 ≤ N) {v17 : VForecast} {v2 : VTown} {v3 : VLaws} {v9 : VLots} {v10 u : VLives} {t : VTales} {w : VR} {P L g : Nat} (hT : townR w v2 v3 P) (hG : signR w v2 g) (hl : lotsR w v9 P L) (hR : LR P 0 (R_state w) v10) (hI : LI P v10) (hf : foreR P L g v2 v3 v9 v10 v17) (ht : taleR P 0 (R_state w) t) : Ev (f_Forecast_countFitting N v17 v2 v3 v9 v10 u t) (fun q => q.1 = nI (cntB (fitB v2 v3 v9 P g v10 t) L) ∧ q.2.1 = 1 ∧ heldR P L g v2 v3 v9 v10 q.2.2.1 q.2.2.2.1 ∧ ∀ p, p < L → q.2.2.2.2.1 p = bI (fitB v2 v3 v9 P g v10 t p)) := by
  have hL := hl.2.2.1
  have h6 := hT.1.2
  unfold f_Forecast_countFitting
  refine Ev.bnx (foresee_ev hN hT hG hl hR hI hf) ?_
  rintro ⟨c1, c2, c3, c4⟩ ⟨d1, d2⟩
  have d2 : heldR P L g v2 v3 v9 v10 c2 c3 := d2
  refine Ev.bnx (ccount_loop hN (v17 := Forecast_s_ready_held_harms v17 c1 c2 c3) h6 hl d2 ht L 0 N (Forecast_fitting v17) (by omega) (by omega) (fun p hp => absurd hp (Nat.not_lt_zero _))) ?_
  rintro ⟨e1, e2⟩ ⟨g1, g2⟩
  exact Ev.ret ⟨g1, d1, d2, g2⟩
/-! the reference -/
def onDay (v2 : VTown) (v3 : VLaws) (v9 : VLots) (P g : Nat) (v10 : VLives) (t : VTales) (p d i : Nat) : Bool := (! decide (Tales_days t i = nI d)) || soT v2 v3 v9 P g v10 t p i
theorem told_loop (N : Nat) {w : VR} {v2 : VTown} {v3 : VLaws} {v9 : VLots} {v10 : VLives} {t : VTales} {P g p d n : Nat} (h6 : P ≤ 6) (hd1 : 1 ≤ d) (hd7 : d ≤ 7) (hn : n ≤ 8) (hR : LR P 1584 (R_state w) (wkV v2 v3 v9 P g v10 p d)) (hn46 : R_state w 46 = nI n) (ht2 : ∀ i, i < n → ∃ l d q : Nat, l < P ∧ 1 ≤ d ∧ d ≤ 7 ∧ q ≤ 9999 ∧ Tales_lives t i = nI l ∧ R_state w (0 + 47 + 3 * i) = nI l ∧ Tales_days t i = nI d ∧ R_state w (0 + 48 + 3 * i) = nI d ∧ Tales_purses t i = nI q ∧ R_state w (0 + 49 + 3 * i) = nI q) : ∀ (r k fuel : Nat) (b : Bool), k + r = n → r < fuel → f_R_isAsTold_L19 N fuel w (nI d) (bI b) (nI k) = some (bI (b && allF (onDay v2 v3 v9 P g v10 t p d) r k))
  | _, _, 0, _, _, h => absurd h (Nat.not_lt_zero _)
  | 0, k, fuel + 1, b, hk, hf => by
    rw [f_R_isAsTold_L19, show Int32.toNatClampNeg 46 = 46 from rfl, hn46]
    refine zifp (nI_le (by omega) (by omega)) ?_
    rw [allF, Bool.and_true]
  | r + 1, k, fuel + 1, b, hk, hf => by
    obtain ⟨l, d', q, a1, a2, a3, a4, a5, a6, a7, a8, a9, a10⟩ := ht2 k (by omega)
    have a6 : R_state w (47 + 3 * k) = nI l := by rw [← show 0 + 47 + 3 * k = 47 + 3 * k by omega]; exact a6
    have a8 : R_state w (48 + 3 * k) = nI d' := by rw [← show 0 + 48 + 3 * k = 48 + 3 * k by omega]; exact a8
    have a10 : R_state w (49 + 3 * k) = nI q := by rw [← show 0 + 49 + 3 * k = 49 + 3 * k by omega]; exact a10
    have ih := fun b => told_loop N h6 hd1 hd7 hn hR hn46 ht2 r (k + 1) fuel b (by omega) (by omega)
    have s1 : R_state w (1588 + l) = Lives_purse (wkV v2 v3 v9 P g v10 p d) l := (hR.1 l a1).1
    have e47 : (47 : Int32) + 3 * nI k = nI (47 + 3 * k) := by simp (maxSteps := 2000000) (disch := omega) only [zlit, nI_add, pk_mul, nI_clamp]
    rw [f_R_isAsTold_L19, show Int32.toNatClampNeg 46 = 46 from rfl, hn46, e47, show nI (47 + 3 * k) + 1 = nI (48 + 3 * k) by rw [nI_1]; congr 1; omega, show nI (47 + 3 * k) + 2 = nI (49 + 3 * k) by rw [show (2 : Int32) = nI 2 from rfl, nI_add]; congr 1; omega, nI_clamp (n := 47 + 3 * k) (by omega), nI_clamp (n := 48 + 3 * k) (by omega), nI_clamp (n := 49 + 3 * k) (by omega), a6, a8, a10, show (1588 : Int32) + nI l = nI (1588 + l) from nI_add 1588 l, nI_clamp (n := 1588 + l) (by omega), s1, show nI k + 1 = nI (k + 1) from nI_1 k]
    refine zifn (nI_ge (by omega) (by omega)) ?_
    show _ = some (bI (b && (onDay v2 v3 v9 P g v10 t p d k && allF (onDay v2 v3 v9 P g v10 t p d) r (k + 1))))
    cases b with
    | false =>
      refine zifp rfl ?_
      rw [show (0 : Int32) = bI false from rfl, ih, Bool.false_and, Bool.false_and]
    | true =>
      refine zifn (by decide) ?_
      refine zifn (fun x => x.elim (nI_pos (by omega)) (fun y => by omega)) ?_
      by_cases c : d' = d
      · subst c
        have e2 : onDay v2 v3 v9 P g v10 t p d' k = decide (Lives_purse (wkV v2 v3 v9 P g v10 p d') l = nI q) := by
          unfold onDay soT
          rw [a5, a7, a9, nI_clamp (n := d') (by omega), nI_clamp (n := l) (by omega), decide_eq_true (rfl : nI d' = nI d'), Bool.not_true, Bool.false_or]
        refine zifp rfl ?_
        refine zifn (fun x => x.elim (nI_pos (by omega)) (fun y => by omega)) ?_
        refine zifn (fun x => x.elim (nI_pos (by omega)) (fun y => by omega)) ?_
        refine zifn (fun x => x.elim (nI_pos (by omega)) (fun y => by omega)) ?_
        rw [e2]
        by_cases c2 : Lives_purse (wkV v2 v3 v9 P g v10 p d') l = nI q
        · refine zletG (y := 1) (if_pos c2) ?_
          rw [show (1 : Int32) = bI true from rfl, ih, decide_eq_true c2]
          rfl
        · refine zletG (y := 0) (if_neg c2) ?_
          rw [show (0 : Int32) = bI false from rfl, ih, decide_eq_false c2, Bool.true_and, Bool.false_and]
      · have c2 : ¬ nI d' = nI d := fun x => c ((nI_eq (by omega) (by omega)).mp x)
        have e2 : onDay v2 v3 v9 P g v10 t p d k = true := by
          unfold onDay
          rw [a7, decide_eq_false c2]
          rfl
        refine zifn c2 ?_
        rw [show (1 : Int32) = bI true from rfl, ih, e2, Bool.true_and, Bool.true_and]
def fromDay (v2 : VTown) (v3 : VLaws) (v9 : VLots) (P g : Nat) (v10 : VLives) (t : VTales) (p n : Nat) : Nat → Nat → Bool := allF (fun d => allF (onDay v2 v3 v9 P g v10 t p d) n 0)
theorem told7_loop {N : Nat} (hN : 10000 ≤ N) {w : VR} {v2 : VTown} {v3 : VLaws} {v9 : VLots} {v10 : VLives} {t : VTales} {P L g p n : Nat} (hT : townR w v2 v3 P) (hsg : R_signed w = nI g) (hg : g ≤ 999) (hl : lotsR w v9 P L) (hp : p < L) (hI : LI P v10) (hn : n ≤ 8) (hn46 : R_state w 46 = nI n) (ht2 : ∀ i, i < n → ∃ l d q : Nat, l < P ∧ 1 ≤ d ∧ d ≤ 7 ∧ q ≤ 9999 ∧ Tales_lives t i = nI l ∧ R_state w (0 + 47 + 3 * i) = nI l ∧ Tales_days t i = nI d ∧ R_state w (0 + 48 + 3 * i) = nI d ∧ Tales_purses t i = nI q ∧ R_state w (0 + 49 + 3 * i) = nI q) : ∀ (r d fuel : Nat) (b : Bool) (fa pl st : Nat → Int32), d + r = 7 → r < fuel → (∀ j, j < 1584 → st j = R_state w j) → LR P 1584 st (wkV v2 v3 v9 P g v10 p d) → Ev (f_R_isAsTold_L4 N fuel w (bI b) (nI (d + 1)) fa pl st) (fun q => q.1 = bI (b && fromDay v2 v3 v9 P g v10 t p n r (d + 1)) ∧ Fr 1584 1630 st q.2.2.2)
  | _, _, 0, _, _, _, _, _, h, _, _ => absurd h (Nat.not_lt_zero _)
  | 0, d, fuel + 1, b, fa, pl, st, hk, hf, hst, hR => by
    have hk : d = 7 := hk
    subst hk
    rw [f_R_isAsTold_L4]
    refine Ev.ifp (by decide) ?_
    refine Ev.ret ⟨?_, Fr.refl _ _ _⟩
    show bI b = bI (b && true)
    rw [Bool.and_true]
  | r + 1, d, fuel + 1, b, fa, pl, st, hk, hf, hst, hR => by
    have h6 := hT.1.2
    have hIw : LI P (wkV v2 v3 v9 P g v10 p d) := LI_week h6 hg hl hp hI (by omega)
    rw [f_R_isAsTold_L4, show nI (d + 1) + 1 = nI (d + 1 + 1) from nI_1 _]
    refine Ev.ifn (nI_nlt (a := 7) (by omega) (by decide)) ?_
    refine Ev.bnx (passes_v hN (w := R_s_facts_pile_state w fa pl st) (b := 1584) (by omega) hT hIw.2.2.1 hIw.2.1 hIw.1 hsg hg hR) ?_
    rintro ⟨c1, c2, c3⟩ ⟨d1, d2⟩
    have d2 : Fr 1584 1630 st c3 := d2
    have d1 : LR P 1584 c3 (wkV v2 v3 v9 P g v10 p (d + 1)) := by
      unfold wkV
      rw [daysV_succ]
      exact d1
    have hst2 : ∀ j, j < 1584 → c3 j = R_state w j := fun j hj => (d2 j (by omega)).trans (hst j hj)
    have hto := told_loop N (w := R_s_facts_pile_state w c1 c2 c3) (t := t) h6 (show 1 ≤ d + 1 by omega) (show d + 1 ≤ 7 by omega) hn d1 (by show c3 46 = nI n; rw [hst2 46 (by omega)]; exact hn46) (fun i hi => by
      obtain ⟨l, d', q, a1, a2, a3, a4, a5, a6, a7, a8, a9, a10⟩ := ht2 i hi
      refine ⟨l, d', q, a1, a2, a3, a4, a5, ?_, a7, ?_, a9, ?_⟩
      · show c3 (0 + 47 + 3 * i) = nI l
        rw [hst2 _ (by omega)]; exact a6
      · show c3 (0 + 48 + 3 * i) = nI d'
        rw [hst2 _ (by omega)]; exact a8
      · show c3 (0 + 49 + 3 * i) = nI q
        rw [hst2 _ (by omega)]; exact a10) n 0 N b (by omega) (by omega)
    have hto : f_R_isAsTold_L19 N N (R_s_facts_pile_state w c1 c2 c3) (nI (d + 1)) (bI b) 0 = some (bI (b && allF (onDay v2 v3 v9 P g v10 t p (d + 1)) n 0)) := hto
    refine Ev.bnd hto ?_
    refine (told7_loop hN hT hsg hg hl hp hI hn hn46 ht2 r (d + 1) fuel _ c1 c2 c3 (by omega) (by omega) hst2 d1).mono ?_
    rintro q ⟨q1, q2⟩
    refine ⟨?_, d2.trans q2⟩
    rw [q1, Bool.and_assoc]
    rfl
theorem fromDay_fit {v2 : VTown} {v3 : VLaws} {v9 : VLots} {P g : Nat} {v10 : VLives} {t : VTales} {p n : Nat} (hc : Tales_count t = nI n) (hn : n ≤ 8) (hd : ∀ i, i < n → ∃ d : Nat, 1 ≤ d ∧ d ≤ 7 ∧ Tales_days t i = nI d) : fromDay v2 v3 v9 P g v10 t p n 7 1 = fitB v2 v3 v9 P g v10 t p := by
  rw [Bool.eq_iff_iff]
  unfold fromDay fitB
  rw [allF_iff, hc, nI_clamp (n := n) (by omega), allF_iff]
  constructor
  · intro h i _ hi
    obtain ⟨d, d1, d2, d3⟩ := hd i (by omega)
    have := (allF_iff _ _ _).mp (h d d1 (by omega)) i (Nat.zero_le _) hi
    unfold onDay at this
    rw [d3, decide_eq_true (rfl : nI d = nI d), Bool.not_true, Bool.false_or] at this
    exact this
  · intro h d h1 h2
    show allF (onDay v2 v3 v9 P g v10 t p d) n 0 = true
    rw [allF_iff]
    intro i h3 h4
    unfold onDay
    rw [h i h3 h4, Bool.or_true]
theorem rcount_loop {N : Nat} (hN : 10000 ≤ N) {w : VR} {v2 : VTown} {v3 : VLaws} {v9 : VLots} {v10 : VLives} {t : VTales} {P L g : Nat} (hT : townR w v2 v3 P) (hsg : R_signed w = nI g) (hg : g ≤ 999) (hl : lotsR w v9 P L) (hR : LR P 0 (R_state w) v10) (hI : LI P v10) (ht : taleR P 0 (R_state w) t) : ∀ (r k fuel : Nat) (fa pl st fi : Nat → Int32), k + r = L → r < fuel → Fr 1584 1630 (R_state w) st → (∀ p, p < k → fi p = bI (fitB v2 v3 v9 P g v10 t p)) → Ev (f_R_findFitting_L7 N fuel w (nI k) fa pl st fi (nI (cntB (fitB v2 v3 v9 P g v10 t) k))) (fun q => q.2.2.2.2 = nI (cntB (fitB v2 v3 v9 P g v10 t) L) ∧ (∀ p, p < L → q.2.2.2.1 p = bI (fitB v2 v3 v9 P g v10 t p)) ∧ Fr 1584 1630 (R_state w) q.2.2.1)
  | _, _, 0, _, _, _, _, _, h, _, _ => absurd h (Nat.not_lt_zero _)
  | 0, k, fuel + 1, fa, pl, st, fi, hk, hf, hst, hfi => by
    have hL := hl.2.2.1
    have hk : k = L := hk
    subst hk
    rw [f_R_findFitting_L7, hl.1]
    refine Ev.ifp (nI_le (by omega) (by omega)) ?_
    exact Ev.ret ⟨rfl, hfi, hst⟩
  | r + 1, k, fuel + 1, fa, pl, st, fi, hk, hf, hst, hfi => by
    have h6 := hT.1.2
    have hL := hl.2.2.1
    have hkL : k < L := by omega
    obtain ⟨lo1, lo2, -⟩ := hl.2.2.2 k hkL
    obtain ⟨n, hn, t1, t2, t3⟩ := ht
    rw [f_R_findFitting_L7, hl.1, nI_clamp (n := k) (by omega), show nI k + 1 = nI (k + 1) from nI_1 k]
    refine Ev.ifn (nI_ge (by omega) (by omega)) ?_
    have hR0 : LR P 0 st v10 := hR.keep h6 (fun j a b => hst j (by omega))
    refine Ev.bnx (start2_ev hN (w := R_s_facts_pile_state_fits_fitting w fa pl st fi (nI (cntB (fitB v2 v3 v9 P g v10 t) k))) (v2 := v2) (v3 := v3) (v9 := v9) h6 hkL hR0) ?_
    intro s hs
    refine Ev.bnx (hs _ hT hl rfl) ?_
    rintro s2 ⟨d1, d2⟩
    have d2 : Fr 1584 1630 st s2 := d2
    have d3 : Fr 1584 1630 (R_state w) s2 := hst.trans d2
    unfold f_R_isAsTold
    have t2 : R_state w 46 = nI n := t2
    obtain ⟨q, e1, e2, e3⟩ := told7_loop hN (w := R_s_facts_pile_state_fits_fitting w fa pl s2 fi (nI (cntB (fitB v2 v3 v9 P g v10 t) k))) (t := t) (n := n) hT hsg hg hl hkL hI hn (by show s2 46 = nI n; rw [d3 46 (by omega)]; exact t2) (fun i hi => by
      obtain ⟨l, d', q, a1, a2, a3, a4, a5, a6, a7, a8, a9, a10⟩ := t3 i hi
      refine ⟨l, d', q, a1, a2, a3, a4, a5, ?_, a7, ?_, a9, ?_⟩
      · show s2 (0 + 47 + 3 * i) = nI l
        rw [d3 _ (by omega)]; exact a6
      · show s2 (0 + 48 + 3 * i) = nI d'
        rw [d3 _ (by omega)]; exact a8
      · show s2 (0 + 49 + 3 * i) = nI q
        rw [d3 _ (by omega)]; exact a10) 7 0 N true fa pl s2 (by omega) (by omega) (fun j hj => rfl) d1
    have e1 : f_R_isAsTold_L4 N N (R_s_facts_pile_state_fits_fitting w fa pl s2 fi (nI (cntB (fitB v2 v3 v9 P g v10 t) k))) 1 1 fa pl s2 = some q := e1
    have e2 : q.1 = bI (fitB v2 v3 v9 P g v10 t k) := by
      rw [e2, Bool.true_and, fromDay_fit t1 hn (fun i hi => by
        obtain ⟨l, d', q, a1, a2, a3, a4, a5, a6, a7, -⟩ := t3 i hi
        exact ⟨d', a2, a3, a7⟩)]
    have hin : Ev ((f_R_isAsTold_L4 N N (R_s_facts_pile_state_fits_fitting w fa pl s2 fi (nI (cntB (fitB v2 v3 v9 P g v10 t) k))) 1 1 fa pl s2).bind (fun q16 => (if (q16.1 = 0 ∨ q16.1 = 1) then (some (q16.1, q16.2.1, q16.2.2.1, q16.2.2.2)) else none))) (fun x => x = q) := by
      refine Ev.bnd e1 ?_
      refine Ev.ifp (by rw [e2]; exact bI_01 _) ?_
      exact Ev.ret rfl
    refine Ev.bnx hin ?_
    rintro x rfl
    refine Ev.ifn (by first | with_reducible assumption | decide | (simp (disch := omega) only [zlit, nI_add, pk_mul, pk_sub, zsubm, nI_clamp, nI_leI, nI_ltI, nI_eq, zeqF, Nat.reduceEqDiff, zleF, zleT, zltF, zltT, zneg1, zneg1L, zneg2, zneg0, eq_self, or_self, false_or, or_false, Nat.not_lt_zero, not_false_eq_true, not_true_eq_false]; done)) ?_
    rw [e2, bI_nar]
    refine Ev.letE ?_
    refine Ev.ifn (by first | with_reducible assumption | decide | (simp (disch := omega) only [zlit, nI_add, pk_mul, pk_sub, zsubm, nI_clamp, nI_leI, nI_ltI, nI_eq, zeqF, Nat.reduceEqDiff, zleF, zleT, zltF, zltT, zneg1, zneg1L, zneg2, zneg0, eq_self, or_self, false_or, or_false, Nat.not_lt_zero, not_false_eq_true, not_true_eq_false]; done)) ?_
    have e : nI (cntB (fitB v2 v3 v9 P g v10 t) k) + (if upd fi k (bI (fitB v2 v3 v9 P g v10 t k)) k = 0 then (0 : Int32) else 1) = nI (cntB (fitB v2 v3 v9 P g v10 t) (k + 1)) := by
      rw [pk_us, cntB]
      cases fitB v2 v3 v9 P g v10 t k with
      | false => exact nI_add _ 0
      | true => exact nI_1 _
    rw [e]
    have e3 : Fr 1584 1630 s2 x.2.2.2 := e3
    refine rcount_loop hN hT hsg hg hl hR hI ⟨n, hn, t1, t2, t3⟩ r (k + 1) fuel _ _ _ _ (by omega) (by omega) (d3.trans e3) (fun p hp => ?_)
    by_cases c : p = k
    · subst c; rw [pk_us]
    · rw [pk_un c]; exact hfi p (by omega)
theorem findFitting_ev {N : Nat} (hN : 10000 ≤ N) {w : VR} {v2 : VTown} {v3 : VLaws} {v9 : VLots} {v10 : VLives} {t : VTales} {P L g : Nat} (hT : townR w v2 v3 P) (hsg : R_signed w = nI g) (hg : g ≤ 999) (hl : lotsR w v9 P L) (hR : LR P 0 (R_state w) v10) (hI : LI P v10) (ht : taleR P 0 (R_state w) t) : Ev (f_R_findFitting N w) (fun q => q.2.2.2.2 = nI (cntB (fitB v2 v3 v9 P g v10 t) L) ∧ (∀ p, p < L → q.2.2.2.1 p = bI (fitB v2 v3 v9 P g v10 t p)) ∧ Fr 1584 1630 (R_state w) q.2.2.1) := by
  have hL := hl.2.2.1
  unfold f_R_findFitting
  obtain ⟨q, e1, e2, e3, e4⟩ := rcount_loop hN (w := R_fitting_s w 0) hT hsg hg hl hR hI ht L 0 N (R_facts w) (R_pile w) (R_state w) (R_fits w) (by omega) (by omega) (Fr.refl _ _ _) (fun p hp => absurd hp (Nat.not_lt_zero _))
  have e1 : f_R_findFitting_L7 N N (R_fitting_s w 0) 0 (R_facts w) (R_pile w) (R_state w) (R_fits w) 0 = some q := e1
  refine Ev.bnd e1 ?_
  exact Ev.ret ⟨e2, e3, e4⟩
theorem RELx.fore {v0 : VBl} {v1 : VTape} {v2 : VTown} {v3 : VLaws} {v7 : VYear} {v9 : VLots} {v10 : VLives} {v13 : VTales} {v17 : VForecast} {und mls : Nat → VLives} {mts : Nat → VTales} {w : VR} {P L g : Nat} (h : RELx P L g v0 v1 v2 v3 v7 v9 v10 v13 v17 und mls mts w) {fa sk : Nat → Int32} {ry : Int32} {held harms fi ta : Nat → Int32} (h1 : ry = 1) (hh : heldR P L g v2 v3 v9 v10 held harms) (hta : ∀ k, k < 10000 → ta k = 0) {w' : VR} (s : SameT w w') (hu : R_undos w' = R_undos w) (hk : ∀ j, j < 1512 → R_state w' j = R_state w j) : RELx P L g v0 v1 v2 (Laws_s_facts_stack v3 fa sk) v7 v9 v10 v13 (Forecast_s_ready_held_harms_fitting_tally v17 ry held harms fi ta) und mls mts w' := by
  have hf := h.2.2.2.2.2.2.2.2
  obtain ⟨x1, x2, x3, x4, x5, x6, x7, x8, -⟩ := h.trial (v3' := Laws_s_facts_stack v3 fa sk) s hu hk ⟨fa, sk, rfl⟩
  have hfn : foreR P L g v2 v3 v9 v10 (Forecast_s_ready_held_harms_fitting_tally v17 ry held harms fi ta) := ⟨Or.inr ⟨h1, hh⟩, hf.2.1, hta⟩
  exact ⟨x1, x2, x3, x4, x5, x6, x7, x8, foreR_fs hfn⟩
theorem m_how {N : Nat} (hN : 10000 ≤ N) {v0 : VBl} {v1 : VTape} {v2 : VTown} {v3 : VLaws} {v4 : VReader} {v5 : VTown} {v6 : VLaws} {v7 : VYear} {v8 : VYear} {v9 : VLots} {v10 : VLives} {v11 : VLives} {v13 : VTales} {v17 : VForecast} {v18 : VLives} {v19 : VDeeds} {v20 : VPairs} {und mls : Nat → VLives} {mts : Nat → VTales} {w : VR} {P L g : Nat} (h : RELx P L g v0 v1 v2 v3 v7 v9 v10 v13 v17 und mls mts w) : Ev (f_Bl_how N v0 v1 v2 v3 v4 v5 v6 v7 v8 v9 v10 v11 v13 v17 v18 v19 v20 und mls mts) (fun r => Ev (f_R_how N w) (fun q => r.1 = q.1 ∧ q.2.1 = 0 ∧ RELx P L g v0 v1 v2 (Laws_s_facts_stack v3 r.2.1 r.2.2.1) v7 v9 v10 v13 (Forecast_s_ready_held_harms_fitting v17 r.2.2.2.1 r.2.2.2.2.1 r.2.2.2.2.2.1 r.2.2.2.2.2.2.1) und mls mts (R_s_thrown_facts_pile_state_fits_fitting w q.2.1 q.2.2.1 q.2.2.2.1 q.2.2.2.2.1 q.2.2.2.2.2.1 q.2.2.2.2.2.2))) := by
  have hh := h
  obtain ⟨⟨hT, hB, hG, hD, hnm⟩, hl, ⟨hR, hI⟩, b4, ht, b6, b7, hpl, hf⟩ := h
  obtain ⟨c, e1, d1, d2, d3, d4⟩ := countFitting_ev hN (u := v18) hT hG hl hR hI hf ht
  obtain ⟨q, e2, d5, d6, d7⟩ := findFitting_ev hN (w := R_thrown_s w 0) hT hG.2.2.2 hG.1 hl hR hI ht
  unfold f_Bl_how f_R_how
  refine Ev.bnd e1 ?_
  refine Ev.ret ?_
  refine Ev.bnd e2 ?_
  refine Ev.ret ⟨d1.trans d5.symm, rfl, ?_⟩
  exact hh.fore (ta := Forecast_tally v17) (fi := c.2.2.2.2.1) d2 d3 hf.2.2 ⟨rfl, rfl, rfl, rfl, rfl, rfl, rfl, rfl, rfl, rfl, rfl, rfl, rfl⟩ rfl (fun j hj => d7 j (by omega))
/-! ===== who ===== -/
def whoS (F : Nat → Bool) (S : Nat → Int32) : Nat → Nat → Int32 → Int32
  | 0, _, x => x
  | r + 1, k, x => if F k = true then (if x = (-1) then whoS F S r (k + 1) (S k) else if S k = x then whoS F S r (k + 1) (S k) else (-1)) else whoS F S r (k + 1) x
theorem whoS_none {F : Nat → Bool} {S : Nat → Int32} : ∀ {r k : Nat} {x : Int32}, (∀ i, k ≤ i → i < k + r → F i = false) → whoS F S r k x = x
  | 0, _, _, _ => rfl
  | r + 1, k, x, h => by
    rw [whoS, h k (Nat.le_refl _) (by omega), if_neg (by decide)]
    exact whoS_none (fun i h1 h2 => h i (by omega) (by omega))
theorem cwho_loop (N : Nat) {v17 : VForecast} {v2 : VTown} {v3 : VLaws} {v9 : VLots} {v10 u : VLives} {w : VR} {P L l : Nat} {F : Nat → Bool} (h6 : P ≤ 6) (hl : lotsR w v9 P L) (hl2 : l < P) (hF : ∀ p, p < L → Forecast_fitting v17 p = bI (F p)) : ∀ (r k fuel : Nat) (x : Int32), k + r = L → r < fuel → Ev (f_Forecast_onlySelf_L4 N fuel v17 v2 v3 v9 v10 u (nI l) x (nI k)) (fun s => Sum.elim (fun _ => (-1 : Int32)) (fun y => y) s = whoS F (fun p => rowOf v9 p l) r k x)
  | _, _, 0, _, _, h => absurd h (Nat.not_lt_zero _)
  | 0, k, fuel + 1, x, hk, hf => by
    have hL := hl.2.2.1
    rw [f_Forecast_onlySelf_L4, hl.2.1]
    refine Ev.ifp (nI_le (by omega) (by omega)) ?_
    exact Ev.ret rfl
  | r + 1, k, fuel + 1, x, hk, hf => by
    have hL := hl.2.2.1
    rw [f_Forecast_onlySelf_L4, hl.2.1, nI_clamp (n := k) (by omega), hF k (by omega), show nI k + 1 = nI (k + 1) from nI_1 k]
    refine Ev.ifn (nI_ge (by omega) (by omega)) ?_
    refine Ev.ifn (nI_ge (b := 265) (by omega) (by decide)) ?_
    refine Ev.bnd (selfIn_ok hl.2.1 hL (show k < L by omega) (show l < 6 by omega)) ?_
    refine Ev.ifn (by first | with_reducible assumption | decide | (simp (disch := omega) only [zlit, nI_add, pk_mul, pk_sub, zsubm, nI_clamp, nI_leI, nI_ltI, nI_eq, zeqF, Nat.reduceEqDiff, zleF, zleT, zltF, zltT, zneg1, zneg1L, zneg2, zneg0, eq_self, or_self, false_or, or_false, Nat.not_lt_zero, not_false_eq_true, not_true_eq_false]; done)) ?_
    have ih := fun y => cwho_loop N (v17 := v17) (v2 := v2) (v3 := v3) (v10 := v10) (u := u) h6 hl hl2 hF r (k + 1) fuel y (by omega) (by omega)
    rw [whoS]
    cases F k with
    | false =>
      refine Ev.ifp rfl ?_
      refine Ev.ifn (by first | with_reducible assumption | decide | (simp (disch := omega) only [zlit, nI_add, pk_mul, pk_sub, zsubm, nI_clamp, nI_leI, nI_ltI, nI_eq, zeqF, Nat.reduceEqDiff, zleF, zleT, zltF, zltT, zneg1, zneg1L, zneg2, zneg0, eq_self, or_self, false_or, or_false, Nat.not_lt_zero, not_false_eq_true, not_true_eq_false]; done)) ?_
      refine Ev.letE ?_
      rw [if_neg (by decide : ¬ false = true)]
      exact ih x
    | true =>
      refine Ev.ifn (by decide) ?_
      rw [if_pos rfl]
      by_cases c : x = (-1)
      · rw [if_pos c, if_pos c]
        refine Ev.ifn (by first | with_reducible assumption | decide | (simp (disch := omega) only [zlit, nI_add, pk_mul, pk_sub, zsubm, nI_clamp, nI_leI, nI_ltI, nI_eq, zeqF, Nat.reduceEqDiff, zleF, zleT, zltF, zltT, zneg1, zneg1L, zneg2, zneg0, eq_self, or_self, false_or, or_false, Nat.not_lt_zero, not_false_eq_true, not_true_eq_false]; done)) ?_
        refine Ev.letE ?_
        exact ih _
      · rw [if_neg c, if_neg c]
        by_cases c2 : rowOf v9 k l = x
        · rw [if_pos c2, if_pos c2]
          refine Ev.ifn (by first | with_reducible assumption | decide | (simp (disch := omega) only [zlit, nI_add, pk_mul, pk_sub, zsubm, nI_clamp, nI_leI, nI_ltI, nI_eq, zeqF, Nat.reduceEqDiff, zleF, zleT, zltF, zltT, zneg1, zneg1L, zneg2, zneg0, eq_self, or_self, false_or, or_false, Nat.not_lt_zero, not_false_eq_true, not_true_eq_false]; done)) ?_
          refine Ev.letE ?_
          exact ih _
        · rw [if_neg c2, if_neg c2]
          exact Ev.ret rfl
theorem rwho_no {N : Nat} {w : VR} {v9 : VLots} {P L l : Nat} {F : Nat → Bool} (hl : lotsR w v9 P L) (hl2 : l < P) (hF : ∀ p, p < L → R_fits w p = bI (F p)) : ∀ (r k fuel : Nat) (x : Int32), k + r = L → r < fuel → Ev (f_R_who_L26 N fuel w (nI l) x 0 (nI k)) (fun q => q.2 = 0)
  | _, _, 0, _, _, h => absurd h (Nat.not_lt_zero _)
  | 0, k, fuel + 1, x, hk, hf => by
    have hL := hl.2.2.1
    rw [f_R_who_L26, hl.1]
    refine Ev.ifp (nI_le (by omega) (by omega)) ?_
    exact Ev.ret rfl
  | r + 1, k, fuel + 1, x, hk, hf => by
    have hL := hl.2.2.1
    have ih := fun y => rwho_no (N := N) hl hl2 hF r (k + 1) fuel y (by omega) (by omega)
    rw [f_R_who_L26, hl.1, nI_clamp (n := k) (by omega), hF k (by omega), show nI k + 1 = nI (k + 1) from nI_1 k]
    refine Ev.ifn (nI_ge (by omega) (by omega)) ?_
    refine Ev.ifn (by first | with_reducible assumption | decide | (simp (disch := omega) only [zlit, nI_add, pk_mul, pk_sub, zsubm, nI_clamp, nI_leI, nI_ltI, nI_eq, zeqF, Nat.reduceEqDiff, zleF, zleT, zltF, zltT, zneg1, zneg1L, zneg2, zneg0, eq_self, or_self, false_or, or_false, Nat.not_lt_zero, not_false_eq_true, not_true_eq_false]; done)) ?_
    cases F k with
    | false =>
      refine Ev.ifp rfl ?_
      exact ih x
    | true =>
      refine Ev.ifn (by decide) ?_
      refine Ev.ifp rfl ?_
      refine Ev.bnd (rselfOf_ok hl (show k < L by omega) hl2) ?_
      exact ih _
theorem rwho_loop {N : Nat} {w : VR} {v9 : VLots} {P L l : Nat} {F : Nat → Bool} (h6 : P ≤ 6) (hl : lotsR w v9 P L) (hl2 : l < P) (hF : ∀ p, p < L → R_fits w p = bI (F p)) : ∀ (r k fuel : Nat) (x : Int32), k + r = L → r < fuel → (x = (-1) ∨ ∃ s, s < P ∧ x = nI s) → Ev (f_R_who_L26 N fuel w (nI l) x 1 (nI k)) (fun q => (if q.2 = 0 then (-1) else q.1) = whoS F (fun p => rowOf v9 p l) r k x)
  | _, _, 0, _, _, h, _ => absurd h (Nat.not_lt_zero _)
  | 0, k, fuel + 1, x, hk, hf, hx => by
    have hL := hl.2.2.1
    rw [f_R_who_L26, hl.1]
    refine Ev.ifp (nI_le (by omega) (by omega)) ?_
    exact Ev.ret rfl
  | r + 1, k, fuel + 1, x, hk, hf, hx => by
    have hL := hl.2.2.1
    obtain ⟨s, hs, es⟩ := (hl.2.2.2 k (by omega)).1 l hl2
    have ih := fun y hy => rwho_loop (N := N) h6 hl hl2 hF r (k + 1) fuel y (by omega) (by omega) hy
    rw [f_R_who_L26, hl.1, nI_clamp (n := k) (by omega), hF k (by omega), show nI k + 1 = nI (k + 1) from nI_1 k, whoS]
    refine Ev.ifn (nI_ge (by omega) (by omega)) ?_
    refine Ev.ifn (by first | with_reducible assumption | decide | (simp (disch := omega) only [zlit, nI_add, pk_mul, pk_sub, zsubm, nI_clamp, nI_leI, nI_ltI, nI_eq, zeqF, Nat.reduceEqDiff, zleF, zleT, zltF, zltT, zneg1, zneg1L, zneg2, zneg0, eq_self, or_self, false_or, or_false, Nat.not_lt_zero, not_false_eq_true, not_true_eq_false]; done)) ?_
    cases F k with
    | false =>
      refine Ev.ifp rfl ?_
      rw [if_neg (by decide : ¬ false = true)]
      exact ih x hx
    | true =>
      refine Ev.ifn (by decide) ?_
      refine Ev.ifn (by decide) ?_
      rw [if_pos rfl]
      rcases hx with rfl | ⟨z, hz, rfl⟩
      · refine Ev.ifp (by decide) ?_
        refine Ev.bnd (rselfOf_ok hl (show k < L by omega) hl2) ?_
        rw [if_pos rfl]
        exact ih _ (Or.inr ⟨s, hs, es⟩)
      · refine Ev.ifn (nI_pos (by omega)) ?_
        refine Ev.bnd (rselfOf_ok hl (show k < L by omega) hl2) ?_
        refine Ev.bnd (rselfOf_ok hl (show k < L by omega) hl2) ?_
        rw [if_neg (nI_nem1 (by omega))]
        by_cases c2 : rowOf v9 k l = nI z
        · rw [if_pos c2, if_pos c2]
          exact ih _ (Or.inr ⟨s, hs, es⟩)
        · rw [if_neg c2, if_neg c2]
          refine (rwho_no hl hl2 hF r (k + 1) fuel _ (by omega) (by omega)).mono ?_
          intro q hq
          rw [if_pos hq]
theorem m_who {N : Nat} (hN : 10000 ≤ N) {v0 : VBl} {v1 : VTape} {v2 : VTown} {v3 : VLaws} {v4 : VReader} {v5 : VTown} {v6 : VLaws} {v7 : VYear} {v8 : VYear} {v9 : VLots} {v10 : VLives} {v11 : VLives} {v13 : VTales} {v17 : VForecast} {v18 : VLives} {v19 : VDeeds} {v20 : VPairs} {und mls : Nat → VLives} {mts : Nat → VTales} {w : VR} {P L g : Nat} (h : RELx P L g v0 v1 v2 v3 v7 v9 v10 v13 v17 und mls mts w) (a1 : Int32) : Ev (f_Bl_who N v0 v1 v2 v3 v4 v5 v6 v7 v8 v9 v10 v11 v13 v17 v18 v19 v20 und mls mts a1) (fun r => Ev (f_R_who N w a1) (fun q => r.1 = q.1 ∧ q.2.1 = 0 ∧ RELx P L g v0 v1 v2 (Laws_s_facts_stack v3 r.2.1 r.2.2.1) v7 v9 v10 v13 (Forecast_s_ready_held_harms_fitting v17 r.2.2.2.1 r.2.2.2.2.1 r.2.2.2.2.2.1 r.2.2.2.2.2.2.1) und mls mts (R_s_thrown_facts_pile_state_fits_fitting w q.2.1 q.2.2.1 q.2.2.2.1 q.2.2.2.2.1 q.2.2.2.2.2.1 q.2.2.2.2.2.2))) := by
  have hh := h
  obtain ⟨⟨hT, hB, hG, hD, hnm⟩, hl, ⟨hR, hI⟩, b4, ht, b6, b7, hpl, hf⟩ := h
  have h6 := hT.1.2
  have hL := hl.2.2.1
  have hT' : townR (R_thrown_s w 0) v2 v3 P := hT
  unfold f_Bl_who f_R_who
  rcases isPerson_both (N := N) hT' a1 with ⟨g1, g2⟩ | ⟨l, hl2, rfl, g1, g2⟩
  · refine Ev.bnd g1 ?_
    refine Ev.ifp rfl ?_
    refine Ev.ret ?_
    refine Ev.bnd g2 ?_
    refine Ev.ifp rfl ?_
    refine Ev.ret ⟨rfl, rfl, ?_⟩
    exact hh.trial ⟨rfl, rfl, rfl, rfl, rfl, rfl, rfl, rfl, rfl, rfl, rfl, rfl, rfl⟩ rfl (fun j hj => rfl) ⟨_, _, rfl⟩
  · obtain ⟨c, e1, d1, d2, d3, d4⟩ := countFitting_ev hN (u := v18) hT hG hl hR hI hf ht
    obtain ⟨q, e2, d5, d6, d7⟩ := findFitting_ev hN (w := R_thrown_s w 0) hT hG.2.2.2 hG.1 hl hR hI ht
    have hrel := hh.fore (fa := c.2.2.2.2.2.1) (sk := c.2.2.2.2.2.2.1) (ta := Forecast_tally v17) (fi := c.2.2.2.2.1) (w' := R_s_thrown_facts_pile_state_fits_fitting w 0 q.1 q.2.1 q.2.2.1 q.2.2.2.1 q.2.2.2.2) d2 d3 hf.2.2 ⟨rfl, rfl, rfl, rfl, rfl, rfl, rfl, rfl, rfl, rfl, rfl, rfl, rfl⟩ rfl (fun j hj => d7 j (by omega))
    obtain ⟨y, e3, d8⟩ := rwho_loop (N := N) (w := R_s_thrown_facts_pile_state_fits_fitting w 0 q.1 q.2.1 q.2.2.1 q.2.2.2.1 q.2.2.2.2) h6 hl hl2 d6 L 0 N (-1) (by omega) (by omega) (Or.inl rfl)
    have e3 : f_R_who_L26 N N (R_s_thrown_facts_pile_state_fits_fitting w 0 q.1 q.2.1 q.2.2.1 q.2.2.2.1 q.2.2.2.2) (nI l) (-1) 1 0 = some y := e3
    have hans : Ev (if y.2 = 0 then some ((-1 : Int32), (0 : Int32), q.1, q.2.1, q.2.2.1, q.2.2.2.1, q.2.2.2.2) else some (y.1, 0, q.1, q.2.1, q.2.2.1, q.2.2.2.1, q.2.2.2.2)) (fun z => z = (whoS (fitB v2 v3 v9 P g v10 v13) (fun p => rowOf v9 p l) L 0 (-1), 0, q.1, q.2.1, q.2.2.1, q.2.2.2.1, q.2.2.2.2)) := by
      rw [← d8]
      by_cases c0 : y.2 = 0
      · rw [if_pos c0, if_pos c0]; exact Ev.ret rfl
      · rw [if_neg c0, if_neg c0]; exact Ev.ret rfl
    refine Ev.bnd g1 ?_
    refine Ev.ifn (by decide) ?_
    refine Ev.bnd e1 ?_
    have hc := cntB_le (fitB v2 v3 v9 P g v10 v13) L
    by_cases c0 : cntB (fitB v2 v3 v9 P g v10 v13) L = 0
    · refine Ev.ifn (by rw [d1, c0]; decide) ?_
      refine Ev.ret ?_
      refine Ev.bnd g2 ?_
      refine Ev.ifn (by decide) ?_
      refine Ev.bnd e2 ?_
      refine Ev.bnd e3 ?_
      refine hans.mono ?_
      rintro z rfl
      refine ⟨?_, rfl, hrel⟩
      have hz := cntB_zero _ c0
      exact (whoS_none (fun i _ hi => hz i (by omega))).symm
    · refine Ev.ifp (by rw [d1]; exact nI_lt (a := 0) (by omega) (by omega)) ?_
      unfold f_Forecast_onlySelf
      obtain ⟨s, e4, d9⟩ := cwho_loop N (v17 := Forecast_s_ready_held_harms_fitting v17 c.2.1 c.2.2.1 c.2.2.2.1 c.2.2.2.2.1) (v2 := v2) (v3 := Laws_s_facts_stack v3 c.2.2.2.2.2.1 c.2.2.2.2.2.2.1) (v10 := v10) (u := Lives_s_purse_debt_home_hidden_self_worthThen_homeThen_away_days_homes_harm v18 c.2.2.2.2.2.2.2.1 c.2.2.2.2.2.2.2.2.1 c.2.2.2.2.2.2.2.2.2.1 c.2.2.2.2.2.2.2.2.2.2.1 c.2.2.2.2.2.2.2.2.2.2.2.1 c.2.2.2.2.2.2.2.2.2.2.2.2.1 c.2.2.2.2.2.2.2.2.2.2.2.2.2.1 c.2.2.2.2.2.2.2.2.2.2.2.2.2.2.1 c.2.2.2.2.2.2.2.2.2.2.2.2.2.2.2.1 c.2.2.2.2.2.2.2.2.2.2.2.2.2.2.2.2.1 c.2.2.2.2.2.2.2.2.2.2.2.2.2.2.2.2.2) (F := fitB v2 v3 v9 P g v10 v13) h6 hl hl2 d4 L 0 N (-1) (by omega) (by omega)
      have e4 : f_Forecast_onlySelf_L4 N N (Forecast_s_ready_held_harms_fitting v17 c.2.1 c.2.2.1 c.2.2.2.1 c.2.2.2.2.1) v2 (Laws_s_facts_stack v3 c.2.2.2.2.2.1 c.2.2.2.2.2.2.1) v9 v10 (Lives_s_purse_debt_home_hidden_self_worthThen_homeThen_away_days_homes_harm v18 c.2.2.2.2.2.2.2.1 c.2.2.2.2.2.2.2.2.1 c.2.2.2.2.2.2.2.2.2.1 c.2.2.2.2.2.2.2.2.2.2.1 c.2.2.2.2.2.2.2.2.2.2.2.1 c.2.2.2.2.2.2.2.2.2.2.2.2.1 c.2.2.2.2.2.2.2.2.2.2.2.2.2.1 c.2.2.2.2.2.2.2.2.2.2.2.2.2.2.1 c.2.2.2.2.2.2.2.2.2.2.2.2.2.2.2.1 c.2.2.2.2.2.2.2.2.2.2.2.2.2.2.2.2.1 c.2.2.2.2.2.2.2.2.2.2.2.2.2.2.2.2.2) (nI l) (-1) 0 = some s := e4
      have e5 : ∀ s : Unit ⊕ Int32, Sum.elim (fun _ => some (-1 : Int32)) (fun y => some y) s = some (Sum.elim (fun _ => (-1 : Int32)) (fun y => y) s) := fun s => by cases s <;> rfl
      refine Ev.bnd (a := whoS (fitB v2 v3 v9 P g v10 v13) (fun p => rowOf v9 p l) L 0 (-1)) ?_ ?_
      · rw [e4]
        show Sum.elim (fun _ => some (-1 : Int32)) (fun y => some y) s = _
        rw [e5, d9]
      · refine Ev.ret ?_
        refine Ev.bnd g2 ?_
        refine Ev.ifn (by decide) ?_
        refine Ev.bnd e2 ?_
        refine Ev.bnd e3 ?_
        refine hans.mono ?_
        rintro z rfl
        exact ⟨rfl, rfl, hrel⟩
