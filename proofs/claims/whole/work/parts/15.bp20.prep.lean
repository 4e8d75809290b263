/-! ===== prepare ===== -/
def owF (v2 : VTown) (v3 : VLaws) (v9 : VLots) (P g : Nat) (v10 : VLives) (l L : Nat) (k : Nat) : Nat := ownN v2 v3 v9 P g (hideV v10 l (nI (25 * k))) l L 0
theorem owF_le {w : VR} {v2 : VTown} {v3 : VLaws} {v9 : VLots} {P L g l k : Nat} {v10 : VLives} (h6 : P ≤ 6) (hg : g ≤ 999) (hl : lotsR w v9 P L) (hl2 : l < P) (hI : LI P v10) (hk : 25 * k ≤ 9999) : owF v2 v3 v9 P g v10 l L k ≤ 20000 * 265 := by
  have h := ownN_le (v2 := v2) (v3 := v3) h6 hg hl hl2 (LI_hide (l := l) (n := 25 * k) hI hk) L 0 (by omega)
  have hL := hl.2.2.1
  unfold owF
  omega
theorem own_ev {N : Nat} (hN : 10000 ≤ N) {v17 : VForecast} {v2 : VTown} {v3 : VLaws} {v9 : VLots} {v10 u : VLives} {w : VR} {P L g l k E : Nat} {fa sk : Nat → Int32} (hT : townR w v2 v3 P) (hG : signR w v2 g) (hl : lotsR w v9 P L) (hI : LI P v10) (ha : Lives_away v10 = 0 ∨ Lives_away v10 = 1) (hl2 : l < P) (hk : 25 * k ≤ 9999) (hE : E < 2 ^ 60) : Ev (f_Forecast_ownHarm N v17 v2 (Laws_s_facts_stack v3 fa sk) v9 v10 u (nI l) (nI (25 * k)) (lN E)) (fun q => ∃ b, b ≤ 20000 * 265 ∧ q.1 = lN b ∧ (owF v2 v3 v9 P g v10 l L k < E → b = owF v2 v3 v9 P g v10 l L k) ∧ (E ≤ owF v2 v3 v9 P g v10 l L k → E ≤ b)) := by
  have hL := hl.2.2.1
  obtain ⟨c, e1, b, d1, d2, d3, d4⟩ := cown_loop hN (v17 := v17) (u := u) (v3 := Laws_s_facts_stack v3 fa sk) (c := 25 * k) hT hG hl hI ha hl2 hk hE L 0 N 0 fa sk u (by omega) (by omega) (by omega)
  have e1 : f_Forecast_ownHarm_L6 N N v17 v2 (Laws_s_facts_stack v3 fa sk) v9 v10 u (nI l) (nI (25 * k)) (lN E) 0 0 fa sk (Lives_purse u) (Lives_debt u) (Lives_home u) (Lives_hidden u) (Lives_self u) (Lives_worthThen u) (Lives_homeThen u) (Lives_away u) (Lives_days u) (Lives_homes u) (Lives_harm u) = some c := e1
  rw [ownN_fs, Nat.zero_add] at d3 d4
  unfold f_Forecast_ownHarm
  refine Ev.bnd e1 ?_
  exact Ev.ret ⟨b, d1, d2, d3, d4⟩
theorem seek_loop {N : Nat} (hN : 10000 ≤ N) {v17 : VForecast} {v2 : VTown} {v3 : VLaws} {v9 : VLots} {v10 u : VLives} {w : VR} {P L g l n : Nat} (hT : townR w v2 v3 P) (hG : signR w v2 g) (hl : lotsR w v9 P L) (hI : LI P v10) (ha : Lives_away v10 = 0 ∨ Lives_away v10 = 1) (hl2 : l < P) (hpu : Lives_purse v10 l = nI n) (hn : n ≤ 9999) : ∀ (r k fuel : Nat) (bc : Int32) (bh : Int64) (fa sk : Nat → Int32) (V : VLives), k + r = n / 25 + 1 → r < fuel → ((k = 0 ∧ bc = 0 ∧ bh = lN 1000000000000) ∨ ∃ j, k = j + 1 ∧ bc = nI (25 * bestN (owF v2 v3 v9 P g v10 l L) j) ∧ bh = lN (owF v2 v3 v9 P g v10 l L (bestN (owF v2 v3 v9 P g v10 l L) j))) → Ev (f_Forecast_seekHiding_L39 N fuel v17 v2 v3 v9 v10 u (nI l) (nI (25 * k)) bc bh fa sk (Lives_purse V) (Lives_debt V) (Lives_home V) (Lives_hidden V) (Lives_self V) (Lives_worthThen V) (Lives_homeThen V) (Lives_away V) (Lives_days V) (Lives_homes V) (Lives_harm V)) (fun q => q.1 = nI (25 * bestN (owF v2 v3 v9 P g v10 l L) (n / 25)) ∧ q.2.1 = lN (owF v2 v3 v9 P g v10 l L (bestN (owF v2 v3 v9 P g v10 l L) (n / 25))))
  | _, _, 0, _, _, _, _, _, _, h, _ => absurd h (Nat.not_lt_zero _)
  | 0, k, fuel + 1, bc, bh, fa, sk, V, hk, hf, hx => by
    have h6 := hT.1.2
    obtain ⟨j, rfl, rfl, rfl⟩ := hx.resolve_left (fun q => by omega)
    have e : n / 25 = j := by omega
    rw [f_Forecast_seekHiding_L39, nI_clamp (n := l) (by omega), hpu, e]
    refine Ev.ifn (by first | with_reducible assumption | decide | (simp (disch := omega) only [zlit, nI_add, pk_mul, pk_sub, zsubm, nI_clamp, nI_leI, nI_ltI, nI_eq, zeqF, Nat.reduceEqDiff, zleF, zleT, zltF, zltT, zneg1, zneg1L, zneg2, zneg0, eq_self, or_self, false_or, or_false, Nat.not_lt_zero, not_false_eq_true, not_true_eq_false]; done)) ?_
    refine Ev.ifp (nI_lt (by omega) (by omega)) ?_
    exact Ev.ret ⟨rfl, rfl⟩
  | r + 1, k, fuel + 1, bc, bh, fa, sk, V, hk, hf, hx => by
    have h6 := hT.1.2
    have h25 : 25 * k ≤ n := by omega
    have hFk := owF_le (v2 := v2) (v3 := v3) h6 hG.1 hl hl2 hI (show 25 * k ≤ 9999 by omega)
    rw [f_Forecast_seekHiding_L39, nI_clamp (n := l) (by omega), hpu, show nI (25 * k) + 25 = nI (25 * (k + 1)) by rw [show (25 : Int32) = nI 25 from rfl, nI_add, Nat.mul_succ]]
    refine Ev.ifn (by first | with_reducible assumption | decide | (simp (disch := omega) only [zlit, nI_add, pk_mul, pk_sub, zsubm, nI_clamp, nI_leI, nI_ltI, nI_eq, zeqF, Nat.reduceEqDiff, zleF, zleT, zltF, zltT, zneg1, zneg1L, zneg2, zneg0, eq_self, or_self, false_or, or_false, Nat.not_lt_zero, not_false_eq_true, not_true_eq_false]; done)) ?_
    refine Ev.ifn (nI_nlt h25 (by omega)) ?_
    refine Ev.ifn (nI_nlt (b := 25 * k) (a := 9999) (by omega) (by decide)) ?_
    rcases hx with ⟨rfl, rfl, rfl⟩ | ⟨j, rfl, rfl, rfl⟩
    · refine Ev.bnx (own_ev hN (k := 0) (E := 1000000000000) (fa := fa) (sk := sk) hT hG hl hI ha hl2 (by omega) (by decide)) ?_
      rintro q ⟨b, b1, b2, b3, -⟩
      have b3 := b3 (by omega)
      subst b3
      have hng : ¬ 0 ≤ lg_cmp q.1 (lN 1000000000000) := fun x => by
        have := (lg_cmp_ge _ _).mp x
        rw [b2, pk_lLE (by decide) (by omega)] at this
        omega
      rw [if_neg hng, if_neg hng]
      refine Ev.letE ?_
      refine Ev.letE ?_
      exact seek_loop hN hT hG hl hI ha hl2 hpu hn r 1 fuel _ _ q.2.1 q.2.2.1 (q.2.2.2.1, q.2.2.2.2.1, q.2.2.2.2.2.1, q.2.2.2.2.2.2.1, q.2.2.2.2.2.2.2.1, q.2.2.2.2.2.2.2.2.1, q.2.2.2.2.2.2.2.2.2.1, q.2.2.2.2.2.2.2.2.2.2.1, q.2.2.2.2.2.2.2.2.2.2.2.1, q.2.2.2.2.2.2.2.2.2.2.2.2.1, q.2.2.2.2.2.2.2.2.2.2.2.2.2) (by omega) (by omega) (Or.inr ⟨0, rfl, rfl, b2⟩)
    · have hb := bestN_le (owF v2 v3 v9 P g v10 l L) j
      have hFb := owF_le (v2 := v2) (v3 := v3) (k := bestN (owF v2 v3 v9 P g v10 l L) j) h6 hG.1 hl hl2 hI (by omega)
      refine Ev.bnx (own_ev hN (k := j + 1) (E := owF v2 v3 v9 P g v10 l L (bestN (owF v2 v3 v9 P g v10 l L) j)) (fa := fa) (sk := sk) hT hG hl hI ha hl2 (by omega) (by omega)) ?_
      rintro q ⟨b, b1, b2, b3, b4⟩
      by_cases c : owF v2 v3 v9 P g v10 l L (j + 1) < owF v2 v3 v9 P g v10 l L (bestN (owF v2 v3 v9 P g v10 l L) j)
      · have b3 := b3 c
        subst b3
        have hng : ¬ 0 ≤ lg_cmp q.1 (lN (owF v2 v3 v9 P g v10 l L (bestN (owF v2 v3 v9 P g v10 l L) j))) := fun x => by
          have := (lg_cmp_ge _ _).mp x
          rw [b2, pk_lLE (by omega) (by omega)] at this
          omega
        rw [if_neg hng, if_neg hng]
        refine Ev.letE ?_
        refine Ev.letE ?_
        exact seek_loop hN hT hG hl hI ha hl2 hpu hn r (j + 1 + 1) fuel _ _ q.2.1 q.2.2.1 (q.2.2.2.1, q.2.2.2.2.1, q.2.2.2.2.2.1, q.2.2.2.2.2.2.1, q.2.2.2.2.2.2.2.1, q.2.2.2.2.2.2.2.2.1, q.2.2.2.2.2.2.2.2.2.1, q.2.2.2.2.2.2.2.2.2.2.1, q.2.2.2.2.2.2.2.2.2.2.2.1, q.2.2.2.2.2.2.2.2.2.2.2.2.1, q.2.2.2.2.2.2.2.2.2.2.2.2.2) (by omega) (by omega) (Or.inr ⟨j + 1, rfl, by rw [bestN, if_pos c], by rw [bestN, if_pos c]; exact b2⟩)
      · have b4 := b4 (by omega)
        have hge : 0 ≤ lg_cmp q.1 (lN (owF v2 v3 v9 P g v10 l L (bestN (owF v2 v3 v9 P g v10 l L) j))) := by
          refine (lg_cmp_ge _ _).mpr ?_
          rw [b2, pk_lLE (by omega) (by omega)]
          exact b4
        rw [if_pos hge, if_pos hge]
        refine Ev.letE ?_
        refine Ev.letE ?_
        exact seek_loop hN hT hG hl hI ha hl2 hpu hn r (j + 1 + 1) fuel _ _ q.2.1 q.2.2.1 (q.2.2.2.1, q.2.2.2.2.1, q.2.2.2.2.2.1, q.2.2.2.2.2.2.1, q.2.2.2.2.2.2.2.1, q.2.2.2.2.2.2.2.2.1, q.2.2.2.2.2.2.2.2.2.1, q.2.2.2.2.2.2.2.2.2.2.1, q.2.2.2.2.2.2.2.2.2.2.2.1, q.2.2.2.2.2.2.2.2.2.2.2.2.1, q.2.2.2.2.2.2.2.2.2.2.2.2.2) (by omega) (by omega) (Or.inr ⟨j + 1, rfl, by rw [bestN, if_neg c], by rw [bestN, if_neg c]⟩)
theorem seekHiding_ev {N : Nat} (hN : 10000 ≤ N) {v17 : VForecast} {v2 : VTown} {v3 : VLaws} {v9 : VLots} {v10 u : VLives} {w : VR} {P L g l n : Nat} (hT : townR w v2 v3 P) (hG : signR w v2 g) (hl : lotsR w v9 P L) (hI : LI P v10) (ha : Lives_away v10 = 0 ∨ Lives_away v10 = 1) (hl2 : l < P) (hpu : Lives_purse v10 l = nI n) (hn : n ≤ 9999) (hf : foreR P L g v2 v3 v9 v10 v17) : Ev (f_Forecast_seekHiding N v17 v2 v3 v9 v10 u (nI l)) (fun q => q.1 = nI l ∧ q.2.1 = nI (25 * bestN (owF v2 v3 v9 P g v10 l L) (n / 25)) ∧ q.2.2.1 = lN (owF v2 v3 v9 P g v10 l L (bestN (owF v2 v3 v9 P g v10 l L) (n / 25)))) := by
  have h6 := hT.1.2
  unfold f_Forecast_seekHiding
  refine Ev.bnd (has_ok hT.1 hl2) ?_
  refine Ev.ifn (by decide) ?_
  by_cases c : nI l = Forecast_prepared v17
  · refine Ev.ifp c ?_
    rcases hf.2.1 with e | ⟨l', n', a1, a2, a3, a4, a5, a6⟩
    · exact absurd (c.trans e) (nI_nem1 (by omega))
    · have e1 : l = l' := (nI_eq (by omega) (by omega)).mp (c.trans a2)
      subst e1
      have e2 : n = n' := (nI_eq (by omega) (by omega)).mp (hpu.symm.trans a3)
      subst e2
      exact Ev.ret ⟨a2, a5, a6⟩
  · refine Ev.ifn c ?_
    obtain ⟨q, e1, d1, d2⟩ := seek_loop hN (v17 := Forecast_s_prepared_bestCoins_bestHarm v17 (nI l) 0 1000000000000) (u := u) hT hG hl hI ha hl2 hpu hn (n / 25 + 1) 0 N 0 1000000000000 (Laws_facts v3) (Laws_stack v3) u (by omega) (by omega) (Or.inl ⟨rfl, rfl, rfl⟩)
    have e1 : f_Forecast_seekHiding_L39 N N (Forecast_s_prepared_bestCoins_bestHarm v17 (nI l) 0 1000000000000) v2 v3 v9 v10 u (nI l) 0 0 1000000000000 (Laws_facts v3) (Laws_stack v3) (Lives_purse u) (Lives_debt u) (Lives_home u) (Lives_hidden u) (Lives_self u) (Lives_worthThen u) (Lives_homeThen u) (Lives_away u) (Lives_days u) (Lives_homes u) (Lives_harm u) = some q := e1
    refine Ev.bnd e1 ?_
    exact Ev.ret ⟨rfl, d1, d2⟩
theorem rown_loop {N : Nat} (hN : 10000 ≤ N) {w : VR} {v2 : VTown} {v3 : VLaws} {v9 : VLots} {v : VLives} {P L g l : Nat} {y2 y3 y4 y7 : Int32} {y5 : Int64} (hT : townR w v2 v3 P) (hsg : R_signed w = nI g) (hg : g ≤ 999) (hl : lotsR w v9 P L) (hl2 : l < P) (hI : LI P v) : ∀ (r k fuel a : Nat) (fa pl st : Nat → Int32), k + r = L → r < fuel → LR P 0 st v → Ev (f_R_prepare_L82 N fuel w (nI l) y2 y3 y4 y5 y7 (lN a) (nI k) fa pl st) (fun q => q.1 = lN (a + ownN v2 v3 v9 P g v l r k) ∧ Fr 1584 1630 st q.2.2.2)
  | _, _, 0, _, _, _, _, _, h, _ => absurd h (Nat.not_lt_zero _)
  | 0, k, fuel + 1, a, fa, pl, st, hk, hf, hR => by
    have hL := hl.2.2.1
    rw [f_R_prepare_L82, hl.1]
    refine Ev.ifp (nI_le (by omega) (by omega)) ?_
    exact Ev.ret ⟨rfl, Fr.refl _ _ _⟩
  | r + 1, k, fuel + 1, a, fa, pl, st, hk, hf, hR => by
    have h6 := hT.1.2
    have hL := hl.2.2.1
    rw [f_R_prepare_L82, hl.1, show nI k + 1 = nI (k + 1) from nI_1 k]
    refine Ev.ifn (nI_ge (by omega) (by omega)) ?_
    refine Ev.bnx (weekBy_ev hN (w := R_s_facts_pile_state w fa pl st) hT hsg hg hl (show k < L by omega) hR hI) ?_
    rintro ⟨c1, c2, c3⟩ ⟨d1, d2⟩
    have d2 : Fr 1584 1630 st c3 := d2
    refine Ev.bnd (rharmOf_ok (w := R_s_facts_pile_state w c1 c2 c3) (b := 1584) (by omega) h6 hl2 d1).1 ?_
    have hR2 : LR P 0 c3 v := hR.keep h6 (fun j a b => d2 j (by omega))
    obtain ⟨e1, e2⟩ := ownH (v2 := v2) (v3 := v3) h6 hg hl (show k < L by omega) hl2 hI
    have e3 : lN a + (hmOf (wkV v2 v3 v9 P g v k 7) l).toInt64 = lN (a + (hmOf (wkV v2 v3 v9 P g v k 7) l).toNatClampNeg) := by
      rw [e1, nI_l (by omega), lN_add, nI_clamp (by omega)]
    rw [e3]
    refine (rown_loop hN hT hsg hg hl hl2 hI r (k + 1) fuel _ c1 c2 c3 (by omega) (by omega) hR2).mono ?_
    rintro q ⟨q1, q2⟩
    refine ⟨?_, d2.trans q2⟩
    rw [q1, Nat.add_assoc]
    rfl
theorem rprep_loop {N : Nat} (hN : 10000 ≤ N) {w : VR} {v2 : VTown} {v3 : VLaws} {v9 : VLots} {v10 : VLives} {P L g l n : Nat} {y2 y3 : Int32} (hT : townR w v2 v3 P) (hsg : R_signed w = nI g) (hg : g ≤ 999) (hl : lotsR w v9 P L) (hl2 : l < P) (hI : LI P v10) (hpu : Lives_purse v10 l = nI n) (hn : n ≤ 9999) : ∀ (r k fuel : Nat) (x4 : Int32) (x5 : Int64) (fa pl st : Nat → Int32) (c : Int32), k + r = n / 25 + 1 → r < fuel → ((k = 0 ∧ x4 = 0 ∧ x5 = (-1)) ∨ ∃ j, k = j + 1 ∧ x4 = nI (25 * bestN (owF v2 v3 v9 P g v10 l L) j) ∧ x5 = lN (owF v2 v3 v9 P g v10 l L (bestN (owF v2 v3 v9 P g v10 l L) j))) → LR P 0 st (hideV v10 l c) → Ev (f_R_prepare_L52 N fuel w (nI l) y2 y3 x4 x5 (nI (25 * k)) fa pl st) (fun q => q.1 = nI (25 * bestN (owF v2 v3 v9 P g v10 l L) (n / 25)) ∧ q.2.1 = lN (owF v2 v3 v9 P g v10 l L (bestN (owF v2 v3 v9 P g v10 l L) (n / 25))) ∧ ∀ j, ¬ j = 22 + l → (j < 1584 ∨ 1630 ≤ j) → q.2.2.2.2 j = st j)
  | _, _, 0, _, _, _, _, _, _, _, h, _, _ => absurd h (Nat.not_lt_zero _)
  | 0, k, fuel + 1, x4, x5, fa, pl, st, c, hk, hf, hx, hR => by
    have h6 := hT.1.2
    obtain ⟨j, rfl, rfl, rfl⟩ := hx.resolve_left (fun q => by omega)
    have e : n / 25 = j := by omega
    have s1 : st (4 + l) = nI n := by
      have := (hR.1 l hl2).1
      rw [show 0 + 4 + l = 4 + l by omega] at this
      exact this.trans hpu
    rw [f_R_prepare_L52, show (4 : Int32) + nI l = nI (4 + l) from nI_add 4 l, nI_clamp (n := 4 + l) (by omega), s1, e]
    refine Ev.ifn (by first | with_reducible assumption | decide | (simp (disch := omega) only [zlit, nI_add, pk_mul, pk_sub, zsubm, nI_clamp, nI_leI, nI_ltI, nI_eq, zeqF, Nat.reduceEqDiff, zleF, zleT, zltF, zltT, zneg1, zneg1L, zneg2, zneg0, eq_self, or_self, false_or, or_false, Nat.not_lt_zero, not_false_eq_true, not_true_eq_false]; done)) ?_
    refine Ev.ifp (nI_lt (by omega) (by omega)) ?_
    exact Ev.ret ⟨rfl, rfl, fun _ _ _ => rfl⟩
  | r + 1, k, fuel + 1, x4, x5, fa, pl, st, c, hk, hf, hx, hR => by
    have h6 := hT.1.2
    have h25 : 25 * k ≤ n := by omega
    have hFk := owF_le (v2 := v2) (v3 := v3) h6 hg hl hl2 hI (show 25 * k ≤ 9999 by omega)
    have s1 : st (4 + l) = nI n := by
      have := (hR.1 l hl2).1
      rw [show 0 + 4 + l = 4 + l by omega] at this
      exact this.trans hpu
    have hR1 : LR P 0 (upd st (22 + l) (nI (25 * k))) (hideV v10 l (nI (25 * k))) := by
      have := LR_hide (c := nI (25 * k)) h6 hR hl2
      rw [hideV_hideV] at this
      exact this
    have hI1 : LI P (hideV v10 l (nI (25 * k))) := LI_hide hI (by omega)
    rw [f_R_prepare_L52, show (4 : Int32) + nI l = nI (4 + l) from nI_add 4 l, show (22 : Int32) + nI l = nI (22 + l) from nI_add 22 l, nI_clamp (n := 4 + l) (by omega), nI_clamp (n := 22 + l) (by omega), s1, show nI (25 * k) + 25 = nI (25 * (k + 1)) by rw [show (25 : Int32) = nI 25 from rfl, nI_add, Nat.mul_succ]]
    refine Ev.ifn (by first | with_reducible assumption | decide | (simp (disch := omega) only [zlit, nI_add, pk_mul, pk_sub, zsubm, nI_clamp, nI_leI, nI_ltI, nI_eq, zeqF, Nat.reduceEqDiff, zleF, zleT, zltF, zltT, zneg1, zneg1L, zneg2, zneg0, eq_self, or_self, false_or, or_false, Nat.not_lt_zero, not_false_eq_true, not_true_eq_false]; done)) ?_
    refine Ev.ifn (nI_nlt h25 (by omega)) ?_
    refine Ev.ifn (by first | with_reducible assumption | decide | (simp (disch := omega) only [zlit, nI_add, pk_mul, pk_sub, zsubm, nI_clamp, nI_leI, nI_ltI, nI_eq, zeqF, Nat.reduceEqDiff, zleF, zleT, zltF, zltT, zneg1, zneg1L, zneg2, zneg0, eq_self, or_self, false_or, or_false, Nat.not_lt_zero, not_false_eq_true, not_true_eq_false]; done)) ?_
    refine Ev.letE ?_
    obtain ⟨q, e1, d1, d2⟩ := rown_loop hN (w := R_s_facts_pile_state w fa pl (upd st (22 + l) (nI (25 * k)))) (y2 := y2) (y3 := y3) (y4 := x4) (y5 := x5) (y7 := nI (25 * k)) hT hsg hg hl hl2 hI1 L 0 N 0 fa pl (upd st (22 + l) (nI (25 * k))) (by omega) (by have := hl.2.2.1; omega) hR1
    have e1 : f_R_prepare_L82 N N (R_s_facts_pile_state w fa pl (upd st (22 + l) (nI (25 * k)))) (nI l) y2 y3 x4 x5 (nI (25 * k)) 0 0 fa pl (upd st (22 + l) (nI (25 * k))) = some q := e1
    refine Ev.bnd e1 ?_
    have d1 : q.1 = lN (owF v2 v3 v9 P g v10 l L k) := by
      rw [d1, Nat.zero_add]
      rfl
    rw [d1]
    have hR2 : LR P 0 q.2.2.2 (hideV v10 l (nI (25 * k))) := hR1.keep h6 (fun j a b => d2 j (by omega))
    have fr : ∀ j, ¬ j = 22 + l → (j < 1584 ∨ 1630 ≤ j) → q.2.2.2 j = st j := fun j h1 h2 => by
      rw [d2 j (by omega), pk_un h1]
    refine Ev.letE ?_
    refine Ev.letE ?_
    have hnx : ∃ j, k + 1 = j + 1 ∧ (if lg_cmp x5 0 < 0 then nI (25 * k) else (if 0 ≤ lg_cmp (lN (owF v2 v3 v9 P g v10 l L k)) x5 then x4 else nI (25 * k))) = nI (25 * bestN (owF v2 v3 v9 P g v10 l L) j) ∧ (if lg_cmp x5 0 < 0 then lN (owF v2 v3 v9 P g v10 l L k) else (if 0 ≤ lg_cmp (lN (owF v2 v3 v9 P g v10 l L k)) x5 then x5 else lN (owF v2 v3 v9 P g v10 l L k))) = lN (owF v2 v3 v9 P g v10 l L (bestN (owF v2 v3 v9 P g v10 l L) j)) := by
      refine ⟨k, rfl, ?_⟩
      rcases hx with ⟨rfl, rfl, rfl⟩ | ⟨j, rfl, rfl, rfl⟩
      · have hm : lg_cmp (-1) 0 < 0 := (lg_cmp_lt _ _).mpr (by decide)
        rw [if_pos hm, if_pos hm]
        exact ⟨rfl, rfl⟩
      · have hb := bestN_le (owF v2 v3 v9 P g v10 l L) j
        have hFb := owF_le (v2 := v2) (v3 := v3) (k := bestN (owF v2 v3 v9 P g v10 l L) j) h6 hg hl hl2 hI (by omega)
        have hm : ¬ lg_cmp (lN (owF v2 v3 v9 P g v10 l L (bestN (owF v2 v3 v9 P g v10 l L) j))) 0 < 0 := fun x => by
          have := (lg_cmp_lt _ _).mp x
          rw [show (0 : Int64) = lN 0 from rfl, pk_lLT (by omega) (by decide)] at this
          omega
        rw [if_neg hm, if_neg hm, bestN]
        by_cases cc : owF v2 v3 v9 P g v10 l L (j + 1) < owF v2 v3 v9 P g v10 l L (bestN (owF v2 v3 v9 P g v10 l L) j)
        · have hng : ¬ 0 ≤ lg_cmp (lN (owF v2 v3 v9 P g v10 l L (j + 1))) (lN (owF v2 v3 v9 P g v10 l L (bestN (owF v2 v3 v9 P g v10 l L) j))) := fun x => by
            have := (lg_cmp_ge _ _).mp x
            rw [pk_lLE (by omega) (by omega)] at this
            omega
          rw [if_pos cc, if_neg hng, if_neg hng]
          exact ⟨rfl, rfl⟩
        · have hge : 0 ≤ lg_cmp (lN (owF v2 v3 v9 P g v10 l L (j + 1))) (lN (owF v2 v3 v9 P g v10 l L (bestN (owF v2 v3 v9 P g v10 l L) j))) := by
            refine (lg_cmp_ge _ _).mpr ?_
            rw [pk_lLE (by omega) (by omega)]
            omega
          rw [if_neg cc, if_pos hge, if_pos hge]
          exact ⟨rfl, rfl⟩
    refine (rprep_loop hN hT hsg hg hl hl2 hI hpu hn r (k + 1) fuel _ _ q.2.1 q.2.2.1 q.2.2.2 (nI (25 * k)) (by omega) (by omega) (Or.inr hnx) hR2).mono ?_
    rintro q' ⟨q1, q2, q3⟩
    exact ⟨q1, q2, fun j h1 h2 => (q3 j h1 h2).trans (fr j h1 h2)⟩
theorem m_prepare {N : Nat} (hN : 10000 ≤ N) {v0 : VBl} {v1 : VTape} {v2 : VTown} {v3 : VLaws} {v4 : VReader} {v5 : VTown} {v6 : VLaws} {v7 : VYear} {v8 : VYear} {v9 : VLots} {v10 : VLives} {v11 : VLives} {v13 : VTales} {v17 : VForecast} {v18 : VLives} {v19 : VDeeds} {v20 : VPairs} {und mls : Nat → VLives} {mts : Nat → VTales} {w : VR} {P L g : Nat} (h : RELx P L g v0 v1 v2 v3 v7 v9 v10 v13 v17 und mls mts w) (a1 a2 : Int32) : Ev (f_Bl_prepare N v0 v1 v2 v3 v4 v5 v6 v7 v8 v9 v10 v11 v13 v17 v18 v19 v20 und mls mts a1 a2) (fun r => Ev (f_R_prepare N w a1 a2) (fun q => r.1 = q.1 ∧ q.2.1 = 0 ∧ RELx P L g v0 v1 v2 (Laws_s_facts_stack v3 r.2.1 r.2.2.1) v7 v9 v10 v13 (Forecast_s_prepared_bestCoins_bestHarm v17 r.2.2.2.1 r.2.2.2.2.1 r.2.2.2.2.2.1) und mls mts (R_s_thrown_facts_pile_state w q.2.1 q.2.2.1 q.2.2.2.1 q.2.2.2.2))) := by
  have hh := h
  obtain ⟨⟨hT, hB, hG, hD, hnm⟩, hl, ⟨hR, hI⟩, b4, b5, b6, b7, hpl, hf⟩ := h
  have h6 := hT.1.2
  have hL := hl.2.2.1
  have ha := hR.2.2.2.2.2.1
  have hT' : townR (R_thrown_s w 0) v2 v3 P := hT
  have rel0 : ∀ (fa sk f2 pl st : Nat → Int32), (∀ j, j < 1512 → st j = R_state w j) → RELx P L g v0 v1 v2 (Laws_s_facts_stack v3 fa sk) v7 v9 v10 v13 v17 und mls mts (R_s_thrown_facts_pile_state w 0 f2 pl st) := fun fa sk f2 pl st hf => hh.trial ⟨rfl, rfl, rfl, rfl, rfl, rfl, rfl, rfl, rfl, rfl, rfl, rfl, rfl⟩ rfl hf ⟨fa, sk, rfl⟩
  have no : f_Bl_prepare N v0 v1 v2 v3 v4 v5 v6 v7 v8 v9 v10 v11 v13 v17 v18 v19 v20 und mls mts a1 a2 = some (-1, Laws_facts v3, Laws_stack v3, Forecast_prepared v17, Forecast_bestCoins v17, Forecast_bestHarm v17, Lives_purse v18, Lives_debt v18, Lives_home v18, Lives_hidden v18, Lives_self v18, Lives_worthThen v18, Lives_homeThen v18, Lives_away v18, Lives_days v18, Lives_homes v18, Lives_harm v18) → f_R_prepare N w a1 a2 = some (-1, 0, R_facts w, R_pile w, R_state w) → Ev (f_Bl_prepare N v0 v1 v2 v3 v4 v5 v6 v7 v8 v9 v10 v11 v13 v17 v18 v19 v20 und mls mts a1 a2) (fun r => Ev (f_R_prepare N w a1 a2) (fun q => r.1 = q.1 ∧ q.2.1 = 0 ∧ RELx P L g v0 v1 v2 (Laws_s_facts_stack v3 r.2.1 r.2.2.1) v7 v9 v10 v13 (Forecast_s_prepared_bestCoins_bestHarm v17 r.2.2.2.1 r.2.2.2.2.1 r.2.2.2.2.2.1) und mls mts (R_s_thrown_facts_pile_state w q.2.1 q.2.2.1 q.2.2.2.1 q.2.2.2.2))) := fun e e2 => Ev.of e (Ev.of e2 ⟨rfl, rfl, rel0 _ _ _ _ _ (fun _ _ => rfl)⟩)
  rcases isPerson_both (N := N) hT' a1 with ⟨g1, g2⟩ | ⟨l, hl2, rfl, g1, g2⟩
  · refine no ?_ ?_
    · unfold f_Bl_prepare
      by_cases c : Lots_count v9 ≤ 0
      · rw [if_pos c]
      · rw [if_neg c]
        refine bnd g1 ?_
        rfl
    · unfold f_R_prepare
      repeat (first | (with_reducible refine zletE ?_) | (with_reducible refine zifn ?_ ?_; · (first | with_reducible assumption | decide | (simp (disch := omega) only [zlit, nI_add, pk_mul, pk_sub, zsubm, nI_clamp, nI_leI, nI_ltI, nI_eq, zeqF, Nat.reduceEqDiff, zleF, zleT, zltF, zltT, zneg1, zneg1L, zneg2, zneg0, eq_self, or_self, false_or, or_false, Nat.not_lt_zero, not_false_eq_true, not_true_eq_false]; done))) | (with_reducible refine zifp ?_ ?_; · (first | with_reducible assumption | decide | (simp (disch := omega) only [zlit, nI_add, pk_mul, pk_sub, zsubm, nI_clamp, nI_leI, nI_ltI, nI_eq, zeqF, Nat.reduceEqDiff, zleF, zleT, zltF, zltT, zneg1, zneg1L, zneg2, zneg0, eq_self, or_self, false_or, or_false, Nat.not_lt_zero, not_false_eq_true, not_true_eq_false]; done))) | (with_reducible refine bnd (g2) ?_) | (with_reducible refine bnd (x := some _) rfl ?_))
      rfl
  by_cases w1 : a2 < 0 ∨ 1 < a2
  · refine no ?_ ?_
    · unfold f_Bl_prepare
      by_cases c : Lots_count v9 ≤ 0
      · rw [if_pos c]
      · rw [if_neg c]
        refine bnd g1 ?_
        refine zifn (by decide) ?_
        rcases w1 with w1 | w1
        · rw [if_pos w1]
        · rw [if_neg (show ¬ a2 < 0 by grind), if_neg (show ¬ a2 ≤ 1 by grind)]
    · unfold f_R_prepare
      repeat (first | (with_reducible refine zletE ?_) | (with_reducible refine zifn ?_ ?_; · (first | with_reducible assumption | decide | (simp (disch := omega) only [zlit, nI_add, pk_mul, pk_sub, zsubm, nI_clamp, nI_leI, nI_ltI, nI_eq, zeqF, Nat.reduceEqDiff, zleF, zleT, zltF, zltT, zneg1, zneg1L, zneg2, zneg0, eq_self, or_self, false_or, or_false, Nat.not_lt_zero, not_false_eq_true, not_true_eq_false]; done))) | (with_reducible refine zifp ?_ ?_; · (first | with_reducible assumption | decide | (simp (disch := omega) only [zlit, nI_add, pk_mul, pk_sub, zsubm, nI_clamp, nI_leI, nI_ltI, nI_eq, zeqF, Nat.reduceEqDiff, zleF, zleT, zltF, zltT, zneg1, zneg1L, zneg2, zneg0, eq_self, or_self, false_or, or_false, Nat.not_lt_zero, not_false_eq_true, not_true_eq_false]; done))) | (with_reducible refine bnd (g2) ?_) | (with_reducible refine bnd (within_no w1) ?_) | (with_reducible refine bnd (x := some _) rfl ?_))
      rfl
  obtain ⟨w2, w3⟩ := not_or.mp w1
  by_cases hz : L = 0
  · subst hz
    refine no ?_ ?_
    · unfold f_Bl_prepare
      rw [hl.2.1]
      exact if_pos (by decide)
    · unfold f_R_prepare
      rw [hl.1]
      repeat (first | (with_reducible refine zletE ?_) | (with_reducible refine zifn ?_ ?_; · (first | with_reducible assumption | decide | (simp (disch := omega) only [zlit, nI_add, pk_mul, pk_sub, zsubm, nI_clamp, nI_leI, nI_ltI, nI_eq, zeqF, Nat.reduceEqDiff, zleF, zleT, zltF, zltT, zneg1, zneg1L, zneg2, zneg0, eq_self, or_self, false_or, or_false, Nat.not_lt_zero, not_false_eq_true, not_true_eq_false]; done))) | (with_reducible refine zifp ?_ ?_; · (first | with_reducible assumption | decide | (simp (disch := omega) only [zlit, nI_add, pk_mul, pk_sub, zsubm, nI_clamp, nI_leI, nI_ltI, nI_eq, zeqF, Nat.reduceEqDiff, zleF, zleT, zltF, zltT, zneg1, zneg1L, zneg2, zneg0, eq_self, or_self, false_or, or_false, Nat.not_lt_zero, not_false_eq_true, not_true_eq_false]; done))) | (with_reducible refine bnd (g2) ?_) | (with_reducible refine bnd (within_yes w2 w3) ?_) | (with_reducible refine bnd (x := some _) rfl ?_))
      rfl
  have h0 : 0 < L := by omega
  obtain ⟨⟨n, hn, hpu⟩, -⟩ := hI.1 l hl2
  have hpu : Lives_purse v10 l = nI n := hpu
  obtain ⟨c, e1, d1, d2, d3⟩ := seekHiding_ev hN (u := v18) hT hG hl hI ha hl2 hpu hn hf
  have hR0 : LR P 0 (R_state w) (hideV v10 l (Lives_hidden v10 l)) := by rw [hideV_same]; exact hR
  obtain ⟨q, e2, d4, d5, d6⟩ := rprep_loop hN (w := R_thrown_s w 0) (y2 := a2) (y3 := R_state w (22 + l)) hT hG.2.2.2 hG.1 hl hl2 hI hpu hn (n / 25 + 1) 0 N 0 (-1) (R_facts w) (R_pile w) (R_state w) (Lives_hidden v10 l) (by omega) (by omega) (Or.inl ⟨rfl, rfl, rfl⟩) hR0
  have e2 : f_R_prepare_L52 N N (R_thrown_s w 0) (nI l) a2 (R_state w (22 + l)) 0 (-1) 0 (R_facts w) (R_pile w) (R_state w) = some q := e2
  have hst : ∀ j, j < 1512 → upd q.2.2.2.2 (22 + l) (R_state w (22 + l)) j = R_state w j := fun j hj => by
    by_cases e : j = 22 + l
    · subst e; rw [pk_us]
    · rw [pk_un e]; exact d6 j e (by omega)
  have hrel : RELx P L g v0 v1 v2 (Laws_s_facts_stack v3 c.2.2.2.1 c.2.2.2.2.1) v7 v9 v10 v13 (Forecast_s_prepared_bestCoins_bestHarm v17 c.1 c.2.1 c.2.2.1) und mls mts (R_s_thrown_facts_pile_state w 0 q.2.2.1 q.2.2.2.1 (upd q.2.2.2.2 (22 + l) (R_state w (22 + l)))) := by
    obtain ⟨x1, x2, x3, x4, x5, x6, x7, x8, -⟩ := rel0 c.2.2.2.1 c.2.2.2.2.1 q.2.2.1 q.2.2.2.1 (upd q.2.2.2.2 (22 + l) (R_state w (22 + l))) hst
    have hfn : foreR P L g v2 v3 v9 v10 (Forecast_s_prepared_bestCoins_bestHarm v17 c.1 c.2.1 c.2.2.1) := ⟨hf.1, Or.inr ⟨l, n, hl2, d1, hpu, hn, d2, d3⟩, hf.2.2⟩
    exact ⟨x1, x2, x3, x4, x5, x6, x7, x8, foreR_fs hfn⟩
  unfold f_Bl_prepare f_R_prepare
  rw [hl.2.1, hl.1, show (22 : Int32) + nI l = nI (22 + l) from nI_add 22 l, nI_clamp (n := 22 + l) (by omega)]
  refine Ev.ifn (nI_nle h0 (by omega)) ?_
  refine Ev.bnd g1 ?_
  refine Ev.ifn (by decide) ?_
  refine Ev.ifn w2 ?_
  refine Ev.ifp (by grind) ?_
  refine Ev.bnd e1 ?_
  have hi1 : ¬ (nI (22 + l) < 0 ∨ 1656 ≤ 22 + l) := fun x => x.elim (nI_pos (by omega)) (fun y => by omega)
  by_cases c0 : a2 = 0
  · refine Ev.ifp c0 ?_
    refine Ev.ret ?_
    refine Ev.bnd g2 ?_
    refine Ev.ifn (by decide) ?_
    refine Ev.bnd (within_yes w2 w3) ?_
    refine Ev.ifn (by decide) ?_
    refine Ev.ifn (nI_ne0 h0 (by omega)) ?_
    refine Ev.ifn hi1 ?_
    refine Ev.bnd e2 ?_
    refine Ev.ifn hi1 ?_
    refine Ev.letE ?_
    refine Ev.ifp c0 ?_
    exact Ev.ret ⟨d2.trans d4.symm, rfl, hrel⟩
  · refine Ev.ifn c0 ?_
    refine Ev.bnd (mean_ok hl.2.1 h0 hL) ?_
    refine Ev.ret ?_
    refine Ev.bnd g2 ?_
    refine Ev.ifn (by decide) ?_
    refine Ev.bnd (within_yes w2 w3) ?_
    refine Ev.ifn (by decide) ?_
    refine Ev.ifn (nI_ne0 h0 (by omega)) ?_
    refine Ev.ifn hi1 ?_
    refine Ev.bnd e2 ?_
    refine Ev.ifn hi1 ?_
    refine Ev.letE ?_
    refine Ev.ifn c0 ?_
    refine Ev.ifn (lN_ne0 h0 (by omega)) ?_
    refine Ev.ret ⟨?_, rfl, hrel⟩
    show Int64.toInt32 ((c.2.2.1 * 1000) / (nI L).toInt64) = Int64.toInt32 ((q.2.1 * 1000) / (nI L).toInt64)
    rw [d3, d5]
