/-! ===== YEARS by draws ===== -/
theorem LRb_hide {P b l : Nat} {st : Nat → Int32} {v : VLives} {c : Int32} (h6 : P ≤ 6) (h : LR P b st v) (hl : l < P) : LR P b (upd st (b + 22 + l) c) (hideV v l c) := by
  obtain ⟨h1, h2, h3, h4, h5, h7, h8⟩ := h
  refine ⟨fun k hk => ?_, ?_, ?_, ?_, ?_, h7, fun ha k hk => ?_⟩
  · obtain ⟨a1, a2, a3, a4, a5⟩ := h1 k hk
    refine ⟨?_, ?_, ?_, ?_, ?_⟩
    · rw [pk_un (by omega)]; exact a1
    · rw [pk_un (by omega)]; exact a2
    · rw [pk_un (by omega)]; exact a3
    · show _ = upd (Lives_hidden v) l c k
      by_cases e : k = l
      · subst e; rw [pk_us, pk_us]
      · rw [pk_un (by omega), pk_un e]; exact a4
    · rw [pk_un (by omega)]; exact a5
  · rw [pk_un (by omega)]; exact h2
  · rw [pk_un (by omega)]; exact h3
  · rw [pk_un (by omega)]; exact h4
  · rw [pk_un (by omega)]; exact h5
  · rw [pk_un (by omega), pk_un (by omega)]; exact h8 ha k hk
theorem LR_zero {P b : Nat} {st st' : Nat → Int32} {v : VLives} (h6 : P ≤ 6) (h : LR P b st v) (hz : ∀ l, l < P → Lives_hidden v l = 0) (h1 : ∀ l, l < P → st' (b + 22 + l) = 0) (h2 : ∀ j, (∀ l, l < P → ¬ j = b + 22 + l) → st' j = st j) : LR P b st' v := by
  obtain ⟨g1, g2, g3, g4, g5, g7, g8⟩ := h
  refine ⟨fun k hk => ?_, ?_, ?_, ?_, ?_, g7, fun ha k hk => ?_⟩
  · obtain ⟨a1, a2, a3, a4, a5⟩ := g1 k hk
    refine ⟨?_, ?_, ?_, ?_, ?_⟩
    · rw [h2 _ (fun l hl => by omega)]; exact a1
    · rw [h2 _ (fun l hl => by omega)]; exact a2
    · rw [h2 _ (fun l hl => by omega)]; exact a3
    · rw [h1 k hk]; exact (hz k hk).symm
    · rw [h2 _ (fun l hl => by omega)]; exact a5
  · rw [h2 _ (fun l hl => by omega)]; exact g2
  · rw [h2 _ (fun l hl => by omega)]; exact g3
  · rw [h2 _ (fun l hl => by omega)]; exact g4
  · rw [h2 _ (fun l hl => by omega)]; exact g5
  · rw [h2 _ (fun l hl => by omega), h2 _ (fun l hl => by omega)]; exact g8 ha k hk
theorem fill_loop (N : Nat) {n0 : Nat} {v0 : Nat → Int32} {x : Int32} (hn : n0 < 2 ^ 30) : ∀ (r k fuel : Nat) (a : Nat → Int32), k + r = n0 → r < fuel → Ev (f_Arr_fill_L5 N fuel n0 v0 x (nI n0) (nI k) a) (fun q => (∀ l, k ≤ l → l < n0 → q l = x) ∧ ∀ l, l < k → q l = a l)
  | _, _, 0, _, _, h => absurd h (Nat.not_lt_zero _)
  | 0, k, fuel + 1, a, hk, hf => by
    rw [f_Arr_fill_L5]
    refine Ev.ifp (nI_le (by omega) (by omega)) ?_
    exact Ev.ret ⟨fun l h1 h2 => absurd h2 (by omega), fun l _ => rfl⟩
  | r + 1, k, fuel + 1, a, hk, hf => by
    rw [f_Arr_fill_L5, nI_clamp (n := k) (by omega), show nI k + 1 = nI (k + 1) from nI_1 k]
    refine Ev.ifn (nI_ge (by omega) (by omega)) ?_
    refine Ev.ifn (fun x => x.elim (nI_pos (by omega)) (fun y => by omega)) ?_
    refine (fill_loop N hn r (k + 1) fuel _ (by omega) (by omega)).mono ?_
    rintro q ⟨q1, q2⟩
    refine ⟨fun l h1 h2 => ?_, fun l h1 => ?_⟩
    · by_cases e : l = k
      · subst e; rw [q2 l (by omega), pk_us]
      · exact q1 l (by omega) h2
    · rw [q2 l (by omega), pk_un (by omega)]
theorem fill_ev {N : Nat} (hN : 10000 ≤ N) {n0 : Nat} {v0 : Nat → Int32} {x : Int32} (hn : n0 < 10000) : Ev (f_Arr_fill N n0 v0 x) (fun q => ∀ l, l < n0 → q l = x) := by
  unfold f_Arr_fill
  obtain ⟨q, e, q1, -⟩ := fill_loop N (n0 := n0) (v0 := v0) (x := x) (by omega) n0 0 N v0 (by omega) (by omega)
  have e : f_Arr_fill_L5 N N n0 v0 x (Int32.ofNat n0) 0 v0 = some q := e
  refine Ev.bnd e ?_
  exact Ev.ret (fun l hl => q1 l (Nat.zero_le _) hl)
theorem zero_loop {N : Nat} {w : VR} {v2 : VTown} {v3 : VLaws} {P : Nat} {y2 y3 y4 y5 y6 : Int32} (hT : townR w v2 v3 P) : ∀ (r k fuel : Nat) (st : Nat → Int32), k + r = P → r < fuel → Ev (f_R_years_L165 N fuel w y2 y3 y4 y5 y6 (nI k) st) (fun q => (∀ l, k ≤ l → l < P → q (1584 + 22 + l) = 0) ∧ ∀ j, (∀ l, k ≤ l → l < P → ¬ j = 1584 + 22 + l) → q j = st j)
  | _, _, 0, _, _, h => absurd h (Nat.not_lt_zero _)
  | 0, k, fuel + 1, st, hk, hf => by
    have h6 := hT.1.2
    rw [f_R_years_L165]
    refine Ev.bnd (people_ok (w := R_state_s w st) hT) ?_
    refine Ev.ifp (nI_le (by omega) (by omega)) ?_
    exact Ev.ret ⟨fun l h1 h2 => absurd h2 (by omega), fun j _ => rfl⟩
  | r + 1, k, fuel + 1, st, hk, hf => by
    have h6 := hT.1.2
    rw [f_R_years_L165, show (1606 : Int32) + nI k = nI (1606 + k) from nI_add 1606 k, nI_clamp (n := 1606 + k) (by omega), show nI k + 1 = nI (k + 1) from nI_1 k]
    refine Ev.bnd (people_ok (w := R_state_s w st) hT) ?_
    refine Ev.ifn (nI_ge (by omega) (by omega)) ?_
    refine Ev.ifn (fun x => x.elim (nI_pos (by omega)) (fun y => by omega)) ?_
    refine Ev.letE ?_
    refine (zero_loop hT r (k + 1) fuel _ (by omega) (by omega)).mono ?_
    rintro q ⟨q1, q2⟩
    refine ⟨fun l h1 h2 => ?_, fun j hj => ?_⟩
    · by_cases e : l = k
      · subst e
        rw [q2 _ (fun i hi hi2 => by omega), show 1584 + 22 + l = 1606 + l by omega, pk_us]
      · exact q1 l (by omega) h2
    · have := hj k (Nat.le_refl _) (by omega)
      rw [q2 j (fun l h1 h2 => hj l (by omega) h2), pk_un (by omega)]
theorem hides_loop {N : Nat} {v17 : VForecast} {v2 : VTown} {v3 v3' : VLaws} {v9 : VLots} {v10 U : VLives} {w : VR} {P : Nat} (hT : townR w v2 v3 P) : ∀ (r k fuel n : Nat) (hd st : Nat → Int32), k + r = P → r < fuel → n < 2147483648 → LR P 1584 st (Lives_hidden_s U hd) → LI P (Lives_hidden_s U hd) → Ev (f_Forecast_hideByDraws_L5 N fuel v17 v2 v3' v9 v10 U (lN n) (nI k) hd) (fun a => Ev (f_R_hidesByDraw_L2 N fuel w (nI k) st (lN n)) (fun b => ∃ m, m < 2147483648 ∧ a.1 = lN m ∧ b.2 = lN m ∧ LR P 1584 b.1 (Lives_hidden_s U a.2) ∧ LI P (Lives_hidden_s U a.2) ∧ Fr 1584 1630 st b.1))
  | _, _, 0, _, _, _, _, h, _, _, _ => absurd h (Nat.not_lt_zero _)
  | 0, k, fuel + 1, n, hd, st, hk, hf, hn, hR, hI => by
    have h6 := hT.1.2
    rw [f_Forecast_hideByDraws_L5, f_R_hidesByDraw_L2, hT.1.1]
    refine Ev.ifp (nI_le (by omega) (by omega)) ?_
    refine Ev.ret ?_
    refine Ev.bnd (people_ok (w := R_s_state_g w st (lN n)) hT) ?_
    refine Ev.ifp (nI_le (by omega) (by omega)) ?_
    exact Ev.ret ⟨n, hn, rfl, rfl, hR, hI, Fr.refl _ _ _⟩
  | r + 1, k, fuel + 1, n, hd, st, hk, hf, hn, hR, hI => by
    have h6 := hT.1.2
    have hk2 : k < P := by omega
    have hnx := nxt_lt n
    obtain ⟨⟨p, hp, ep⟩, -⟩ := hI.1 k hk2
    have ep : Lives_purse U k = nI p := ep
    have s1 : st (1588 + k) = nI p := ((hR.1 k hk2).1).trans ep
    have ih := hides_loop (N := N) (v17 := v17) (v3' := v3') (v9 := v9) (v10 := v10) (U := U) hT r (k + 1) fuel (nxt n)
    have hdr := drawBelow_ok (N := N) (n := nxt n) (L := 3) hnx (by decide) (by decide)
    have hrd := rdraw_ok (N := N) (n := n) (L := 3) (w := R_s_state_g w st (lN n)) rfl (by omega) (by decide) (by decide)
    rw [f_Forecast_hideByDraws_L5, f_R_hidesByDraw_L2, hT.1.1, nI_clamp (n := k) (by omega), ep, show (1588 : Int32) + nI k = nI (1588 + k) from nI_add 1588 k, show (1606 : Int32) + nI k = nI (1606 + k) from nI_add 1606 k, nI_clamp (n := 1588 + k) (by omega), nI_clamp (n := 1606 + k) (by omega), s1, upd_same, show nI k + 1 = nI (k + 1) from nI_1 k]
    have i1 : ¬ (nI (1588 + k) < 0 ∨ 1656 ≤ 1588 + k) := fun x => x.elim (nI_pos (by omega)) (fun y => by omega)
    have i2 : ¬ (nI (1606 + k) < 0 ∨ 1656 ≤ 1606 + k) := fun x => x.elim (nI_pos (by omega)) (fun y => by omega)
    have i3 : ¬ (nI k < 0 ∨ 6 ≤ k) := fun x => x.elim (nI_pos (by omega)) (fun y => by omega)
    refine Ev.ifn (nI_ge (by omega) (by omega)) ?_
    refine Ev.ifn (nI_ge (b := 6) (by omega) (by decide)) ?_
    refine Ev.bnd nextDraw_ok ?_
    refine Ev.bnd hdr ?_
    by_cases c0 : nI (nxt n / 65536 % 3) = 0
    · refine Ev.ifp c0 ?_
      refine Ev.ifn i3 ?_
      by_cases c1 : p < 20
      · refine Ev.ifp (nI_lt (b := 20) c1 (by decide)) ?_
        obtain ⟨a, e1, b, e2, d⟩ := ih hd st (by omega) (by omega) hnx hR hI
        refine Ev.of e1 ?_
        refine Ev.bnd (people_ok (w := R_s_state_g w st (lN n)) hT) ?_
        refine Ev.ifn (nI_ge (by omega) (by omega)) ?_
        refine Ev.bnd hrd ?_
        refine Ev.ifp c0 ?_
        refine Ev.ifn i1 ?_
        refine Ev.letG (if_pos (nI_lt (b := 20) c1 (by decide))) ?_
        refine Ev.ifp rfl ?_
        refine Ev.ifn i2 ?_
        refine Ev.ifn i2 ?_
        refine Ev.letE ?_
        exact Ev.of e2 d
      · refine Ev.ifn (nI_nlt (b := 20) (by omega) (by omega)) ?_
        refine Ev.ifn i3 ?_
        have hR2 : LR P 1584 (upd st (1606 + k) 20) (Lives_hidden_s U (upd hd k 20)) := LRb_hide (c := 20) h6 hR hk2
        have hI2 : LI P (Lives_hidden_s U (upd hd k 20)) := LI_hide (l := k) (n := 20) hI (by decide)
        obtain ⟨a, e1, b, e2, m, d1, d2, d3, d4, d5, d6⟩ := ih (upd hd k 20) (upd st (1606 + k) 20) (by omega) (by omega) hnx hR2 hI2
        refine Ev.of e1 ?_
        refine Ev.bnd (people_ok (w := R_s_state_g w st (lN n)) hT) ?_
        refine Ev.ifn (nI_ge (by omega) (by omega)) ?_
        refine Ev.bnd hrd ?_
        refine Ev.ifp c0 ?_
        refine Ev.ifn i1 ?_
        refine Ev.letG (if_neg (nI_nlt (b := 20) (by omega) (by omega))) ?_
        refine Ev.ifn (by decide) ?_
        refine Ev.ifn i2 ?_
        refine Ev.letE ?_
        exact Ev.of e2 ⟨m, d1, d2, d3, d4, d5, (Fr.upd (Fr.refl _ _ _) (by omega) (by omega)).trans d6⟩
    · refine Ev.ifn c0 ?_
      obtain ⟨a, e1, b, e2, d⟩ := ih hd st (by omega) (by omega) hnx hR hI
      refine Ev.of e1 ?_
      refine Ev.bnd (people_ok (w := R_s_state_g w st (lN n)) hT) ?_
      refine Ev.ifn (nI_ge (by omega) (by omega)) ?_
      refine Ev.bnd hrd ?_
      refine Ev.ifn c0 ?_
      refine Ev.ifn i2 ?_
      refine Ev.ifn i2 ?_
      refine Ev.letE ?_
      exact Ev.of e2 d
theorem yweek_loop {N : Nat} (hN : 10000 ≤ N) {w : VR} {v2 : VTown} {v3 : VLaws} {P g : Nat} {y2 y3 y4 y5 y6 : Int32} (hT : townR w v2 v3 P) (hsg : R_signed w = nI g) (hg : g ≤ 999) : ∀ (r k fuel : Nat) (fa pl st : Nat → Int32) (V : VLives), k + r = 7 → r < fuel → LI P V → Lives_days V = nI k → LR P 1584 st V → Ev (f_R_years_L117 N fuel w y2 y3 y4 y5 y6 (nI k) fa pl st) (fun q => LR P 1584 q.2.2 (daysV v2 v3 P (nI g) r V) ∧ Fr 1584 1630 st q.2.2)
  | _, _, 0, _, _, _, _, _, h, _, _, _ => absurd h (Nat.not_lt_zero _)
  | 0, k, fuel + 1, fa, pl, st, V, hk, hf, hI, hd, hR => by
    rw [f_R_years_L117]
    refine Ev.ifp (nI_le (a := 7) (by omega) (by omega)) ?_
    exact Ev.ret ⟨hR, Fr.refl _ _ _⟩
  | r + 1, k, fuel + 1, fa, pl, st, V, hk, hf, hI, hd, hR => by
    have h6 := hT.1.2
    rw [f_R_years_L117, show nI k + 1 = nI (k + 1) from nI_1 k]
    refine Ev.ifn (nI_ge (b := 7) (by omega) (by decide)) ?_
    refine Ev.bnx (passes_v hN (w := R_s_facts_pile_state w fa pl st) (b := 1584) (by omega) hT hI.2.2.1 hI.2.1 hI.1 hsg hg hR) ?_
    rintro ⟨c1, c2, c3⟩ ⟨d1, d2⟩
    refine (yweek_loop hN hT hsg hg r (k + 1) fuel c1 c2 c3 (dayV v2 v3 P (nI g) V) (by omega) (by omega) (LI_day h6 hg hI ⟨k, by omega, hd⟩) (by show Lives_days V + 1 = nI (k + 1); rw [hd]; exact nI_1 k) d1).mono ?_
    rintro q ⟨q1, q2⟩
    exact ⟨q1, d2.trans q2⟩
theorem wkV_away (v2 : VTown) (v3 : VLaws) (v9 : VLots) (P g : Nat) (v : VLives) (p d : Nat) : Lives_away (wkV v2 v3 v9 P g v p d) = 1 := by
  unfold wkV
  rw [daysV_eq]
  rfl
theorem years_loop {N : Nat} (hN : 10000 ≤ N) {v17 : VForecast} {v2 : VTown} {v3 : VLaws} {v9 : VLots} {v10 u : VLives} {w : VR} {P L g Y : Nat} {y3 : Int32} (hT : townR w v2 v3 P) (hG : signR w v2 g) (hl : lotsR w v9 P L) (hY : Y ≤ 20) : ∀ (r k fuel n : Nat) (ha go : Int32) (fa sk f2 pl st : Nat → Int32) (U : VLives), k + r = Y → r < fuel → n < 2147483648 → LR P 1584 st U → LI P U → Ev (f_Forecast_passYears_L35 N fuel v17 v2 v3 v9 v10 u (nI Y) (lN n) (nI k) ha go fa sk (Lives_purse U) (Lives_debt U) (Lives_home U) (Lives_hidden U) (Lives_self U) (Lives_worthThen U) (Lives_homeThen U) (Lives_away U) (Lives_days U) (Lives_homes U) (Lives_harm U)) (fun a => Ev (f_R_years_L82 N fuel w (nI Y) y3 ha go (nI k) f2 pl st (lN n)) (fun b => a.1 = b.1 ∧ a.2.1 = b.2.1 ∧ LR P 1584 b.2.2.2.2.1 (a.2.2.2.2.1, a.2.2.2.2.2.1, a.2.2.2.2.2.2.1, a.2.2.2.2.2.2.2.1, a.2.2.2.2.2.2.2.2.1, a.2.2.2.2.2.2.2.2.2.1, a.2.2.2.2.2.2.2.2.2.2.1, a.2.2.2.2.2.2.2.2.2.2.2.1, a.2.2.2.2.2.2.2.2.2.2.2.2.1, a.2.2.2.2.2.2.2.2.2.2.2.2.2.1, a.2.2.2.2.2.2.2.2.2.2.2.2.2.2) ∧ Fr 1584 1630 st b.2.2.2.2.1))
  | _, _, 0, _, _, _, _, _, _, _, _, _, _, h, _, _, _ => absurd h (Nat.not_lt_zero _)
  | 0, k, fuel + 1, n, ha, go, fa, sk, f2, pl, st, U, hk, hf, hn, hR, hI => by
    rw [f_Forecast_passYears_L35, f_R_years_L82]
    refine Ev.ifp (nI_le (by omega) (by omega)) ?_
    refine Ev.ret ?_
    refine Ev.ifp (nI_le (by omega) (by omega)) ?_
    exact Ev.ret ⟨rfl, rfl, hR, Fr.refl _ _ _⟩
  | r + 1, k, fuel + 1, n, ha, go, fa, sk, f2, pl, st, U, hk, hf, hn, hR, hI => by
    have h6 := hT.1.2
    have hL := hl.2.2.1
    obtain ⟨⟨a1, a2⟩, e1, ⟨b1, b2⟩, e2, m, d1, d2, d3, d4, d5, d6⟩ := hides_loop (N := N) (v17 := Forecast_s_yearsHarm_yearsGood v17 ha go) (v3' := Laws_s_facts_stack v3 fa sk) (v9 := v9) (v10 := v10) (U := U) (w := R_s_facts_pile_state_g w f2 pl st (lN n)) hT P 0 N n (Lives_hidden U) st (by omega) (by omega) hn hR hI
    have e1 : f_Forecast_hideByDraws_L5 N N (Forecast_s_yearsHarm_yearsGood v17 ha go) v2 (Laws_s_facts_stack v3 fa sk) v9 v10 (Lives_s_purse_debt_home_hidden_self_worthThen_homeThen_away_days_homes_harm u (Lives_purse U) (Lives_debt U) (Lives_home U) (Lives_hidden U) (Lives_self U) (Lives_worthThen U) (Lives_homeThen U) (Lives_away U) (Lives_days U) (Lives_homes U) (Lives_harm U)) (lN n) 0 (Lives_hidden U) = some (a1, a2) := e1
    have e2 : f_R_hidesByDraw_L2 N N (R_s_facts_pile_state_g w f2 pl st (lN n)) 0 st (lN n) = some (b1, b2) := e2
    have d2 : a1 = lN m := d2
    have d3 : b2 = lN m := d3
    have d4 : LR P 1584 b1 (Lives_hidden_s U a2) := d4
    have d5 : LI P (Lives_hidden_s U a2) := d5
    have d6 : Fr 1584 1630 st b1 := d6
    subst d2
    subst d3
    have hcd : f_Forecast_hideByDraws N (Forecast_s_yearsHarm_yearsGood v17 ha go) v2 (Laws_s_facts_stack v3 fa sk) v9 v10 (Lives_s_purse_debt_home_hidden_self_worthThen_homeThen_away_days_homes_harm u (Lives_purse U) (Lives_debt U) (Lives_home U) (Lives_hidden U) (Lives_self U) (Lives_worthThen U) (Lives_homeThen U) (Lives_away U) (Lives_days U) (Lives_homes U) (Lives_harm U)) (lN n) = some (lN m, a2) := by
      unfold f_Forecast_hideByDraws
      exact bnd e1 rfl
    have hrd : f_R_hidesByDraw N (R_s_facts_pile_state_g w f2 pl st (lN n)) = some (b1, lN m) := by
      unfold f_R_hidesByDraw
      exact bnd e2 rfl
    rw [f_Forecast_passYears_L35, f_R_years_L82, hl.1, hl.2.1, show nI k + 1 = nI (k + 1) from nI_1 k]
    refine Ev.ifn (nI_ge (by omega) (by omega)) ?_
    refine Ev.bnd hcd ?_
    by_cases hz : L = 0
    · subst hz
      refine Ev.ifp (by decide) ?_
      refine Ev.bnx (fill_ev hN (by decide)) ?_
      intro q6 h6z
      obtain ⟨z, e3, z1, z2⟩ := zero_loop (N := N) (w := R_s_facts_pile_state_g w f2 pl b1 (lN m)) (y2 := nI Y) (y3 := y3) (y4 := ha) (y5 := go) (y6 := nI k) hT P 0 N b1 (by omega) (by omega)
      have e3 : f_R_years_L165 N N (R_s_facts_pile_state_g w f2 pl b1 (lN m)) (nI Y) y3 ha go (nI k) 0 b1 = some z := e3
      have hR2 : LR P 1584 z (Lives_hidden_s U q6) := by
        obtain ⟨g1, g2, g3, g4, g5, g7, g8⟩ := d4
        refine ⟨fun x hx => ?_, ?_, ?_, ?_, ?_, g7, fun hw x hx => ?_⟩
        · obtain ⟨x1, x2, x3, x4, x5⟩ := g1 x hx
          refine ⟨?_, ?_, ?_, ?_, ?_⟩
          · rw [z2 _ (fun l _ hl => by omega)]; exact x1
          · rw [z2 _ (fun l _ hl => by omega)]; exact x2
          · rw [z2 _ (fun l _ hl => by omega)]; exact x3
          · rw [z1 x (Nat.zero_le _) hx]; exact (h6z x (by omega)).symm
          · rw [z2 _ (fun l _ hl => by omega)]; exact x5
        · rw [z2 _ (fun l _ hl => by omega)]; exact g2
        · rw [z2 _ (fun l _ hl => by omega)]; exact g3
        · rw [z2 _ (fun l _ hl => by omega)]; exact g4
        · rw [z2 _ (fun l _ hl => by omega)]; exact g5
        · rw [z2 _ (fun l _ hl => by omega), z2 _ (fun l _ hl => by omega)]; exact g8 hw x hx
      have hI2 : LI P (Lives_hidden_s U q6) := ⟨hI.1, fun x hx => ⟨0, by omega, h6z x (by omega)⟩, hI.2.2⟩
      obtain ⟨a, e4, b, e5, f1, f2', f3, f4⟩ := years_loop hN (v17 := v17) (v10 := v10) (u := u) (y3 := y3) hT hG hl hY r (k + 1) fuel m ha go fa sk f2 pl z (Lives_hidden_s U q6) (by omega) (by omega) d1 hR2 hI2
      refine Ev.of e4 ?_
      refine Ev.ifn (nI_ge (by omega) (by omega)) ?_
      refine Ev.bnd hrd ?_
      refine Ev.ifp (by decide) ?_
      refine Ev.bnd e3 ?_
      refine Ev.of e5 ⟨f1, f2', f3, (d6.trans ?_).trans f4⟩
      exact fun j hj => z2 j (fun l _ hl => by omega)
    · have h0 : 0 < L := by omega
      have hnx := nxt_lt m
      have hpL : nxt m / 65536 % L < L := Nat.mod_lt _ h0
      have hU6 : AGP 6 (Lives_purse U, Lives_debt U, Lives_home U, a2, Lives_self U, Lives_worthThen U, Lives_homeThen U, Lives_away U, Lives_days U, Lives_homes U, Lives_harm U) (Lives_hidden_s U a2) := AGP.refl 6 _
      refine Ev.ifn (nI_nle h0 (by omega)) ?_
      refine Ev.bnd nextDraw_ok ?_
      refine Ev.bnd (drawBelow_ok hnx h0 (by omega)) ?_
      refine Ev.bnx (cgo_ev hN (fa := fa) (sk := sk) hT hl hpL d5 hG.1 hU6) ?_
      intro q10 h10
      rw [hG.2.1]
      refine Ev.bnx h10 ?_
      intro q11 h11
      have h11 : AGP P (q11.1, q11.2.1, q11.2.2.1, a2, q10.1, q10.2.1, q10.2.2.1, q10.2.2.2.1, q11.2.2.2.1, Lives_homes U, Lives_harm U) (wkV v2 v3 v9 P g (Lives_hidden_s U a2) (nxt m / 65536 % L) 7) := h11
      have hw7 : Lives_away (q11.1, q11.2.1, q11.2.2.1, a2, q10.1, q10.2.1, q10.2.2.1, q10.2.2.2.1, q11.2.2.2.1, Lives_homes U, Lives_harm U) = 1 := h11.2.1.trans (wkV_away _ _ _ _ _ _ _ _)
      have hI7 : LI P (q11.1, q11.2.1, q11.2.2.1, a2, q10.1, q10.2.1, q10.2.2.1, q10.2.2.2.1, q11.2.2.2.1, Lives_homes U, Lives_harm U) := (LI_week h6 hG.1 hl hpL d5 (by omega)).ag h11.symm
      refine Ev.bnd (goodAll_ok hN (v := (q11.1, q11.2.1, q11.2.2.1, a2, q10.1, q10.2.1, q10.2.2.1, q10.2.2.2.1, q11.2.2.2.1, Lives_homes U, Lives_harm U)) (v2 := Laws_s_facts_stack v3 q11.2.2.2.2.1 q11.2.2.2.2.2) hT.1) ?_
      refine Ev.bnx (goHome_ag hN (v := (q11.1, q11.2.1, q11.2.2.1, a2, q10.1, q10.2.1, q10.2.2.1, q10.2.2.2.1, q11.2.2.2.1, Lives_homes U, Lives_harm U)) (v2 := Laws_s_facts_stack v3 q11.2.2.2.2.1 q11.2.2.2.2.2) hT.1 (by rw [hw7]; decide)) ?_
      rintro q13 ⟨g1, g2⟩
      refine Ev.bnx (fill_ev hN (by decide)) ?_
      intro q14 h14
      have g3 : AGP P (q11.1, q11.2.1, q11.2.2.1, q14, q13.2.2.1, q10.2.1, q10.2.2.1, q13.2.2.2.1, q13.2.2.2.2.1, q13.2.2.2.2.2.1, q13.2.2.2.2.2.2) (homeV P (q11.1, q11.2.1, q11.2.2.1, a2, q10.1, q10.2.1, q10.2.2.1, q10.2.2.2.1, q11.2.2.2.1, Lives_homes U, Lives_harm U)) := by
        obtain ⟨x1, x2, x3, x4, x5, x6⟩ := g2
        exact ⟨fun x hx => ⟨(x1 x hx).1, (x1 x hx).2.1, (x1 x hx).2.2.1, h14 x (by omega), (x1 x hx).2.2.2.2⟩, x2, x3, x4, x5, fun hne => absurd x2 hne⟩
      -- the reference
      have hrdr := rdraw_ok (N := N) (n := m) (L := L) (w := R_s_facts_pile_state_g w f2 pl b1 (lN m)) rfl d1 h0 (by omega)
      obtain ⟨s1, e6, x1, x2⟩ := leaves_v hN (w := R_s_facts_pile_state_g w f2 pl b1 (lN (nxt m))) (b := 1584) (by omega) hT hl hpL d4
      have e6 : f_R_leaves N (R_s_facts_pile_state_g w f2 pl b1 (lN (nxt m))) 1584 (nI (nxt m / 65536 % L)) = some s1 := e6
      have x2 : Fr 1584 1630 b1 s1 := x2
      obtain ⟨lo1, lo2, -⟩ := hl.2.2.2 _ hpL
      obtain ⟨⟨t1, t2, t3⟩, e7, x3, x4⟩ := yweek_loop hN (w := R_s_facts_pile_state_g w f2 pl s1 (lN (nxt m))) (y2 := nI Y) (y3 := y3) (y4 := ha) (y5 := go) (y6 := nI k) hT hG.2.2.2 hG.1 7 0 N f2 pl s1 (leaveV (Lives_hidden_s U a2) (rowOf v9 (nxt m / 65536 % L))) (by omega) (by omega) (LI_leave d5 lo1 lo2) rfl x1
      have e7 : f_R_years_L117 N N (R_s_facts_pile_state_g w f2 pl s1 (lN (nxt m))) (nI Y) y3 ha go (nI k) 0 f2 pl s1 = some (t1, t2, t3) := e7
      have x3 : LR P 1584 t3 (q11.1, q11.2.1, q11.2.2.1, a2, q10.1, q10.2.1, q10.2.2.1, q10.2.2.2.1, q11.2.2.2.1, Lives_homes U, Lives_harm U) := LR.ag x3 h11.symm
      have x4 : Fr 1584 1630 s1 t3 := x4
      have e8 := (allHarm_ok hN (w := R_s_facts_pile_state_g w t1 t2 t3 (lN (nxt m))) (b := 1584) (by omega) hT x3).2
      obtain ⟨⟨y1, y2⟩, e9, x5, x6, x7⟩ := goesHome_v hN (w := R_s_facts_pile_state_g w t1 t2 t3 (lN (nxt m))) (b := 1584) (by omega) hT x3
      have e9 : f_R_goesHome N (R_s_facts_pile_state_g w t1 t2 t3 (lN (nxt m))) 1584 = some (y1, y2) := e9
      have x7 : Fr 1584 1630 t3 y2 := x7
      obtain ⟨z, e10, z1, z2⟩ := zero_loop (N := N) (w := R_s_facts_pile_state_g w t1 t2 y2 (lN (nxt m))) (y2 := nI Y) (y3 := y3) (y4 := ha + y1) (y5 := go + sumN (gdOf (q11.1, q11.2.1, q11.2.2.1, a2, q10.1, q10.2.1, q10.2.2.1, q10.2.2.2.1, q11.2.2.2.1, Lives_homes U, Lives_harm U)) P 0 0) (y6 := nI k) hT P 0 N y2 (by omega) (by omega)
      have e10 : f_R_years_L165 N N (R_s_facts_pile_state_g w t1 t2 y2 (lN (nxt m))) (nI Y) y3 (ha + y1) (go + sumN (gdOf (q11.1, q11.2.1, q11.2.2.1, a2, q10.1, q10.2.1, q10.2.2.1, q10.2.2.2.1, q11.2.2.2.1, Lives_homes U, Lives_harm U)) P 0 0) (nI k) 0 y2 = some z := e10
      have hR2 : LR P 1584 z (q11.1, q11.2.1, q11.2.2.1, q14, q13.2.2.1, q10.2.1, q10.2.2.1, q13.2.2.2.1, q13.2.2.2.2.1, q13.2.2.2.2.2.1, q13.2.2.2.2.2.2) := (LR_zero h6 x6 (fun _ _ => rfl) (fun l hl => z1 l (Nat.zero_le _) hl) (fun j hj => z2 j (fun l _ hl => hj l hl))).ag g3.symm
      have hI2 : LI P (q11.1, q11.2.1, q11.2.2.1, q14, q13.2.2.1, q10.2.1, q10.2.2.1, q13.2.2.2.1, q13.2.2.2.2.1, q13.2.2.2.2.2.1, q13.2.2.2.2.2.2) := (LI_home h6 hI7).ag g3.symm
      have g1 : q13.1 = y1 := g1.trans x5.symm
      rw [g1]
      obtain ⟨a, e4, b, e5, f1, f2', f3, f4⟩ := years_loop hN (v17 := v17) (v10 := v10) (u := u) (y3 := y3) hT hG hl hY r (k + 1) fuel (nxt m) (ha + y1) (go + sumN (gdOf (q11.1, q11.2.1, q11.2.2.1, a2, q10.1, q10.2.1, q10.2.2.1, q10.2.2.2.1, q11.2.2.2.1, Lives_homes U, Lives_harm U)) P 0 0) q11.2.2.2.2.1 q11.2.2.2.2.2 t1 t2 z (q11.1, q11.2.1, q11.2.2.1, q14, q13.2.2.1, q10.2.1, q10.2.2.1, q13.2.2.2.1, q13.2.2.2.2.1, q13.2.2.2.2.2.1, q13.2.2.2.2.2.2) (by omega) (by omega) hnx hR2 hI2
      refine Ev.of e4 ?_
      refine Ev.ifn (nI_ge (by omega) (by omega)) ?_
      refine Ev.bnd hrd ?_
      refine Ev.ifn (nI_nle h0 (by omega)) ?_
      refine Ev.bnd hrdr ?_
      refine Ev.bnd e6 ?_
      refine Ev.bnd e7 ?_
      refine Ev.bnd e8 ?_
      refine Ev.bnd e9 ?_
      refine Ev.bnd e10 ?_
      refine Ev.of e5 ⟨f1, f2', f3, ?_⟩
      have z3 : Fr 1584 1630 y2 z := fun j hj => z2 j (fun l _ hl => by omega)
      exact ((((d6.trans x2).trans x4).trans x7).trans z3).trans f4
theorem m_years {N : Nat} (hN : 10000 ≤ N) {v0 : VBl} {v1 : VTape} {v2 : VTown} {v3 : VLaws} {v4 : VReader} {v5 : VTown} {v6 : VLaws} {v7 : VYear} {v8 : VYear} {v9 : VLots} {v10 : VLives} {v11 : VLives} {v13 : VTales} {v17 : VForecast} {v18 : VLives} {v19 : VDeeds} {v20 : VPairs} {und mls : Nat → VLives} {mts : Nat → VTales} {w : VR} {P L g : Nat} (h : RELx P L g v0 v1 v2 v3 v7 v9 v10 v13 v17 und mls mts w) (a1 a2 a3 : Int32) : Ev (f_Bl_years N v0 v1 v2 v3 v4 v5 v6 v7 v8 v9 v10 v11 v13 v17 v18 v19 v20 und mls mts a1 a2 a3) (fun r => Ev (f_R_years N w a1 a2 a3) (fun q => r.1 = q.1 ∧ q.2.1 = 0 ∧ RELx P L g v0 v1 v2 (Laws_s_facts_stack v3 r.2.1 r.2.2.1) v7 v9 v10 v13 (Forecast_s_yearsHarm_yearsGood_yearsPurses v17 r.2.2.2.1 r.2.2.2.2.1 r.2.2.2.2.2.1) und mls mts (R_s_thrown_facts_pile_state_g w q.2.1 q.2.2.1 q.2.2.2.1 q.2.2.2.2.1 q.2.2.2.2.2))) := by
  have hh := h
  obtain ⟨⟨hT, hB, hG, hD, hnm⟩, hl, ⟨hR, hI⟩, b4, ht, b6, b7, hpl, hf⟩ := h
  have h6 := hT.1.2
  have hL := hl.2.2.1
  have haw := hR.2.2.2.2.2.1
  have rel0 : ∀ (fa sk f2 pl st : Nat → Int32) (gg : Int64) (a b c : Int32), (∀ j, j < 1512 → st j = R_state w j) → RELx P L g v0 v1 v2 (Laws_s_facts_stack v3 fa sk) v7 v9 v10 v13 (Forecast_s_yearsHarm_yearsGood_yearsPurses v17 a b c) und mls mts (R_s_thrown_facts_pile_state_g w 0 f2 pl st gg) := fun fa sk f2 pl st gg a b c hf2 => by
    obtain ⟨x1, x2, x3, x4, x5, x6, x7, x8, x9⟩ := hh.trial (v3' := Laws_s_facts_stack v3 fa sk) (w' := R_s_thrown_facts_pile_state_g w 0 f2 pl st gg) ⟨rfl, rfl, rfl, rfl, rfl, rfl, rfl, rfl, rfl, rfl, rfl, rfl, rfl⟩ rfl hf2 ⟨fa, sk, rfl⟩
    exact ⟨x1, x2, x3, x4, x5, x6, x7, x8, x9⟩
  have no : f_Bl_years N v0 v1 v2 v3 v4 v5 v6 v7 v8 v9 v10 v11 v13 v17 v18 v19 v20 und mls mts a1 a2 a3 = some (-1, Laws_facts v3, Laws_stack v3, Forecast_yearsHarm v17, Forecast_yearsGood v17, Forecast_yearsPurses v17, Lives_purse v18, Lives_debt v18, Lives_home v18, Lives_hidden v18, Lives_self v18, Lives_worthThen v18, Lives_homeThen v18, Lives_away v18, Lives_days v18, Lives_homes v18, Lives_harm v18) → f_R_years N w a1 a2 a3 = some (-1, 0, R_facts w, R_pile w, R_state w, R_g w) → Ev (f_Bl_years N v0 v1 v2 v3 v4 v5 v6 v7 v8 v9 v10 v11 v13 v17 v18 v19 v20 und mls mts a1 a2 a3) (fun r => Ev (f_R_years N w a1 a2 a3) (fun q => r.1 = q.1 ∧ q.2.1 = 0 ∧ RELx P L g v0 v1 v2 (Laws_s_facts_stack v3 r.2.1 r.2.2.1) v7 v9 v10 v13 (Forecast_s_yearsHarm_yearsGood_yearsPurses v17 r.2.2.2.1 r.2.2.2.2.1 r.2.2.2.2.2.1) und mls mts (R_s_thrown_facts_pile_state_g w q.2.1 q.2.2.1 q.2.2.2.1 q.2.2.2.2.1 q.2.2.2.2.2))) := fun e e2 => Ev.of e (Ev.of e2 ⟨rfl, rfl, rel0 _ _ _ _ _ _ _ _ _ (fun _ _ => rfl)⟩)
  by_cases w1 : a1 < 0 ∨ 9999 < a1
  · refine no ?_ ?_
    · unfold f_Bl_years
      rcases w1 with w1 | w1
      · rw [if_pos w1]
      · rw [if_neg (show ¬ a1 < 0 by grind), if_pos w1]
    · unfold f_R_years
      repeat (first | (with_reducible refine zletE ?_) | (with_reducible refine zifn ?_ ?_; · (first | with_reducible assumption | decide | (simp (disch := omega) only [zlit, nI_add, pk_mul, pk_sub, zsubm, nI_clamp, nI_leI, nI_ltI, nI_eq, zeqF, Nat.reduceEqDiff, zleF, zleT, zltF, zltT, zneg1, zneg1L, zneg2, zneg0, eq_self, or_self, false_or, or_false, Nat.not_lt_zero, not_false_eq_true, not_true_eq_false]; done))) | (with_reducible refine zifp ?_ ?_; · (first | with_reducible assumption | decide | (simp (disch := omega) only [zlit, nI_add, pk_mul, pk_sub, zsubm, nI_clamp, nI_leI, nI_ltI, nI_eq, zeqF, Nat.reduceEqDiff, zleF, zleT, zltF, zltT, zneg1, zneg1L, zneg2, zneg0, eq_self, or_self, false_or, or_false, Nat.not_lt_zero, not_false_eq_true, not_true_eq_false]; done))) | (with_reducible refine bnd (within_no w1) ?_) | (with_reducible refine bnd (x := some _) rfl ?_))
      rfl
  obtain ⟨w2, w3⟩ := not_or.mp w1
  by_cases w4 : a2 < 1 ∨ 20 < a2
  · refine no ?_ ?_
    · unfold f_Bl_years
      rw [if_neg w2, if_neg w3]
      rcases w4 with w4 | w4
      · rw [if_pos w4]
      · rw [if_neg (show ¬ a2 < 1 by grind), if_pos w4]
    · unfold f_R_years
      repeat (first | (with_reducible refine zletE ?_) | (with_reducible refine zifn ?_ ?_; · (first | with_reducible assumption | decide | (simp (disch := omega) only [zlit, nI_add, pk_mul, pk_sub, zsubm, nI_clamp, nI_leI, nI_ltI, nI_eq, zeqF, Nat.reduceEqDiff, zleF, zleT, zltF, zltT, zneg1, zneg1L, zneg2, zneg0, eq_self, or_self, false_or, or_false, Nat.not_lt_zero, not_false_eq_true, not_true_eq_false]; done))) | (with_reducible refine zifp ?_ ?_; · (first | with_reducible assumption | decide | (simp (disch := omega) only [zlit, nI_add, pk_mul, pk_sub, zsubm, nI_clamp, nI_leI, nI_ltI, nI_eq, zeqF, Nat.reduceEqDiff, zleF, zleT, zltF, zltT, zneg1, zneg1L, zneg2, zneg0, eq_self, or_self, false_or, or_false, Nat.not_lt_zero, not_false_eq_true, not_true_eq_false]; done))) | (with_reducible refine bnd (within_yes w2 w3) ?_) | (with_reducible refine bnd (within_no w4) ?_) | (with_reducible refine bnd (x := some _) rfl ?_))
      rfl
  obtain ⟨w5, w6⟩ := not_or.mp w4
  by_cases w7 : a3 < 0 ∨ 2 < a3
  · refine no ?_ ?_
    · unfold f_Bl_years
      rw [if_neg w2, if_neg w3, if_neg w5, if_neg w6]
      rcases w7 with w7 | w7
      · rw [if_pos w7]
      · rw [if_neg (show ¬ a3 < 0 by grind), if_neg (show ¬ a3 ≤ 2 by grind)]
    · unfold f_R_years
      repeat (first | (with_reducible refine zletE ?_) | (with_reducible refine zifn ?_ ?_; · (first | with_reducible assumption | decide | (simp (disch := omega) only [zlit, nI_add, pk_mul, pk_sub, zsubm, nI_clamp, nI_leI, nI_ltI, nI_eq, zeqF, Nat.reduceEqDiff, zleF, zleT, zltF, zltT, zneg1, zneg1L, zneg2, zneg0, eq_self, or_self, false_or, or_false, Nat.not_lt_zero, not_false_eq_true, not_true_eq_false]; done))) | (with_reducible refine zifp ?_ ?_; · (first | with_reducible assumption | decide | (simp (disch := omega) only [zlit, nI_add, pk_mul, pk_sub, zsubm, nI_clamp, nI_leI, nI_ltI, nI_eq, zeqF, Nat.reduceEqDiff, zleF, zleT, zltF, zltT, zneg1, zneg1L, zneg2, zneg0, eq_self, or_self, false_or, or_false, Nat.not_lt_zero, not_false_eq_true, not_true_eq_false]; done))) | (with_reducible refine bnd (within_yes w2 w3) ?_) | (with_reducible refine bnd (within_yes w5 w6) ?_) | (with_reducible refine bnd (within_no w7) ?_) | (with_reducible refine bnd (x := some _) rfl ?_))
      rfl
  obtain ⟨w8, w9⟩ := not_or.mp w7
  have w10 : a3 ≤ 2 := by grind
  obtain ⟨n, hn, rfl⟩ := nI_of w2
  obtain ⟨Y, hY, rfl⟩ := nI_of (x := a2) (by grind)
  have hn9 : n ≤ 9999 := by
    rw [show (9999 : Int32) = nI 9999 from rfl, nI_ltI (by omega) (by omega)] at w3
    omega
  have hY20 : Y ≤ 20 := by
    rw [show (20 : Int32) = nI 20 from rfl, nI_ltI (by omega) (by omega)] at w6
    omega
  -- the class: the copy, home
  obtain ⟨c, e1, hc⟩ := copy_ev (N := N) (v := v18) (v1 := v2) (v2 := v3) haw
  have hc : AGP 6 c v10 := hc
  obtain ⟨s0, e2, s1, s2⟩ := copies_ev hN (w := R_thrown_s w 0) (a := 0) (b := 1584) (n := 46) (by omega) (by omega) (by omega)
  have e2 : f_R_copies N (R_thrown_s w 0) 0 1584 46 = some s0 := e2
  have s1 : ∀ j, j < 46 → s0 (1584 + j) = R_state w (0 + j) := s1
  have s2 : ∀ j, ¬ (1584 ≤ j ∧ j < 1584 + 46) → s0 j = R_state w j := s2
  have hR0 : LR P 1584 s0 c := (hR.moved (b := 1584) h6 s1).ag (hc.le h6).symm
  have hI0 : LI P c := hI.ag (hc.le h6).symm
  have r84 : s0 (Int32.toNatClampNeg 1584) = Lives_away c := hR0.2.1
  -- both stand alike behind it
  have hst : ∃ q2 : Int32 × (Nat → Int32) × (Nat → Int32) × Int32 × Int32 × Int32 × Int32, f_Lives_goHome N (Lives_s_purse_debt_home_hidden_self_worthThen_homeThen_away_days_homes_harm v18 c.1 c.2.1 c.2.2.1 c.2.2.2.1 c.2.2.2.2.1 c.2.2.2.2.2.1 c.2.2.2.2.2.2.1 c.2.2.2.2.2.2.2.1 c.2.2.2.2.2.2.2.2.1 c.2.2.2.2.2.2.2.2.2.1 c.2.2.2.2.2.2.2.2.2.2) v2 v3 = some q2 ∧ ∃ st, LR P 1584 st (c.1, c.2.1, c.2.2.1, q2.2.1, q2.2.2.1, c.2.2.2.2.2.1, c.2.2.2.2.2.2.1, q2.2.2.2.1, q2.2.2.2.2.1, q2.2.2.2.2.2.1, q2.2.2.2.2.2.2) ∧ LI P (c.1, c.2.1, c.2.2.1, q2.2.1, q2.2.2.1, c.2.2.2.2.2.1, c.2.2.2.2.2.2.1, q2.2.2.2.1, q2.2.2.2.2.1, q2.2.2.2.2.2.1, q2.2.2.2.2.2.2) ∧ (∀ j, j < 1512 → st j = R_state w j) ∧ ((s0 (Int32.toNatClampNeg 1584) = 1 ∧ ∃ y, f_R_goesHome N (R_s_thrown_state w 0 s0) 1584 = some (y, st)) ∨ (¬ s0 (Int32.toNatClampNeg 1584) = 1 ∧ st = s0)) := by
    by_cases hz : Lives_away c = 0
    · refine ⟨(-1, c.2.2.2.1, c.2.2.2.2.1, c.2.2.2.2.2.2.2.1, c.2.2.2.2.2.2.2.2.1, c.2.2.2.2.2.2.2.2.2.1, c.2.2.2.2.2.2.2.2.2.2), ?_, s0, hR0, hI0, fun j hj => s2 j (by omega), Or.inr ⟨by rw [r84, hz]; decide, rfl⟩⟩
      unfold f_Lives_goHome
      exact if_pos hz
    · have h1 : Lives_away c = 1 := hR0.2.2.2.2.2.1.resolve_left hz
      obtain ⟨q2, f1, f2, f3⟩ := goHome_ag hN (v := Lives_s_purse_debt_home_hidden_self_worthThen_homeThen_away_days_homes_harm v18 c.1 c.2.1 c.2.2.1 c.2.2.2.1 c.2.2.2.2.1 c.2.2.2.2.2.1 c.2.2.2.2.2.2.1 c.2.2.2.2.2.2.2.1 c.2.2.2.2.2.2.2.2.1 c.2.2.2.2.2.2.2.2.2.1 c.2.2.2.2.2.2.2.2.2.2) (v2 := v3) hT.1 hz
      obtain ⟨⟨y, st⟩, f4, f5, f6, f7⟩ := goesHome_v hN (w := R_s_thrown_state w 0 s0) (b := 1584) (by omega) hT hR0
      have f4 : f_R_goesHome N (R_s_thrown_state w 0 s0) 1584 = some (y, st) := f4
      have f6 : LR P 1584 st (homeV P c) := f6
      have f7 : Fr 1584 1630 s0 st := f7
      have f3 : AGP P (c.1, c.2.1, c.2.2.1, q2.2.1, q2.2.2.1, c.2.2.2.2.2.1, c.2.2.2.2.2.2.1, q2.2.2.2.1, q2.2.2.2.2.1, q2.2.2.2.2.2.1, q2.2.2.2.2.2.2) (homeV P c) := f3
      exact ⟨q2, f1, st, f6.ag f3.symm, (LI_home h6 hI0).ag f3.symm, fun j hj => (f7 j (by omega)).trans (s2 j (by omega)), Or.inl ⟨by rw [r84]; exact h1, y, f4⟩⟩
  obtain ⟨q2, e3, st, hR1, hI1, hst1, hst2⟩ := hst
  have key : ∀ w' : VR, townR w' v2 v3 P → signR w' v2 g → lotsR w' v9 P L → Ev (f_Forecast_passYears_L35 N N (Forecast_s_yearsHarm_yearsGood v17 0 0) v2 v3 v9 v10 (Lives_s_purse_debt_home_hidden_self_worthThen_homeThen_away_days_homes_harm v18 c.1 c.2.1 c.2.2.1 q2.2.1 q2.2.2.1 c.2.2.2.2.2.1 c.2.2.2.2.2.2.1 q2.2.2.2.1 q2.2.2.2.2.1 q2.2.2.2.2.2.1 q2.2.2.2.2.2.2) (nI Y) (Int32.toInt64 (nI n)) 0 0 0 (Laws_facts v3) (Laws_stack v3) c.1 c.2.1 c.2.2.1 q2.2.1 q2.2.2.1 c.2.2.2.2.2.1 c.2.2.2.2.2.2.1 q2.2.2.2.1 q2.2.2.2.2.1 q2.2.2.2.2.2.1 q2.2.2.2.2.2.2) (fun a => Ev (f_R_years_L82 N N w' (nI Y) a3 0 0 0 (R_facts w) (R_pile w) st (Int32.toInt64 (nI n))) (fun b => a.1 = b.1 ∧ a.2.1 = b.2.1 ∧ LR P 1584 b.2.2.2.2.1 (a.2.2.2.2.1, a.2.2.2.2.2.1, a.2.2.2.2.2.2.1, a.2.2.2.2.2.2.2.1, a.2.2.2.2.2.2.2.2.1, a.2.2.2.2.2.2.2.2.2.1, a.2.2.2.2.2.2.2.2.2.2.1, a.2.2.2.2.2.2.2.2.2.2.2.1, a.2.2.2.2.2.2.2.2.2.2.2.2.1, a.2.2.2.2.2.2.2.2.2.2.2.2.2.1, a.2.2.2.2.2.2.2.2.2.2.2.2.2.2) ∧ Fr 1584 1630 st b.2.2.2.2.1)) := fun w' hT' hG' hl' => by
    rw [nI_l (by omega)]
    exact years_loop hN (v17 := Forecast_s_yearsHarm_yearsGood v17 0 0) (v10 := v10) (u := Lives_s_purse_debt_home_hidden_self_worthThen_homeThen_away_days_homes_harm v18 c.1 c.2.1 c.2.2.1 q2.2.1 q2.2.2.1 c.2.2.2.2.2.1 c.2.2.2.2.2.2.1 q2.2.2.2.1 q2.2.2.2.2.1 q2.2.2.2.2.2.1 q2.2.2.2.2.2.2) (y3 := a3) hT' hG' hl' hY20 Y 0 N n 0 0 (Laws_facts v3) (Laws_stack v3) (R_facts w) (R_pile w) st (c.1, c.2.1, c.2.2.1, q2.2.1, q2.2.2.1, c.2.2.2.2.2.1, c.2.2.2.2.2.2.1, q2.2.2.2.1, q2.2.2.2.2.1, q2.2.2.2.2.2.1, q2.2.2.2.2.2.2) (by omega) (by omega) (by omega) hR1 hI1
  have fin : ∀ w' : VR, w' = R_s_thrown_state_g w 0 st (Int32.toInt64 (nI n)) → Ev (f_Bl_years N v0 v1 v2 v3 v4 v5 v6 v7 v8 v9 v10 v11 v13 v17 v18 v19 v20 und mls mts (nI n) (nI Y) a3) (fun r => Ev ((f_R_years_L82 N N w' (nI Y) a3 0 0 0 (R_facts w) (R_pile w) st (Int32.toInt64 (nI n))).bind (fun q35 => (if (a3 = 0) then (some (q35.1, (0 : Int32), q35.2.2.1, q35.2.2.2.1, q35.2.2.2.2.1, q35.2.2.2.2.2)) else (if (a3 = 1) then (some (q35.2.1, 0, q35.2.2.1, q35.2.2.2.1, q35.2.2.2.2.1, q35.2.2.2.2.2)) else ((f_R_pursesOf N (R_s_thrown_facts_pile_state_g w 0 q35.2.2.1 q35.2.2.2.1 q35.2.2.2.2.1 q35.2.2.2.2.2) 1584).bind (fun q39 => (some (q39, 0, q35.2.2.1, q35.2.2.2.1, q35.2.2.2.2.1, q35.2.2.2.2.2)))))))) (fun q => r.1 = q.1 ∧ q.2.1 = 0 ∧ RELx P L g v0 v1 v2 (Laws_s_facts_stack v3 r.2.1 r.2.2.1) v7 v9 v10 v13 (Forecast_s_yearsHarm_yearsGood_yearsPurses v17 r.2.2.2.1 r.2.2.2.2.1 r.2.2.2.2.2.1) und mls mts (R_s_thrown_facts_pile_state_g w q.2.1 q.2.2.1 q.2.2.2.1 q.2.2.2.2.1 q.2.2.2.2.2))) := by
    rintro w' rfl
    obtain ⟨a, e4, b, e5, k1, k2, k3, k4⟩ := key (R_s_thrown_state_g w 0 st (Int32.toInt64 (nI n))) hT hG hl
    have hk : ∀ j, j < 1512 → b.2.2.2.2.1 j = R_state w j := fun j hj => (k4 j (by omega)).trans (hst1 j hj)
    have hsum := sumPurse_ok hN (v := (a.2.2.2.2.1, a.2.2.2.2.2.1, a.2.2.2.2.2.2.1, a.2.2.2.2.2.2.2.1, a.2.2.2.2.2.2.2.2.1, a.2.2.2.2.2.2.2.2.2.1, a.2.2.2.2.2.2.2.2.2.2.1, a.2.2.2.2.2.2.2.2.2.2.2.1, a.2.2.2.2.2.2.2.2.2.2.2.2.1, a.2.2.2.2.2.2.2.2.2.2.2.2.2.1, a.2.2.2.2.2.2.2.2.2.2.2.2.2.2)) (v2 := Laws_s_facts_stack v3 a.2.2.1 a.2.2.2.1) hT.1
    have hrs := rpurses_ok hN (w := R_s_thrown_facts_pile_state_g w 0 b.2.2.1 b.2.2.2.1 b.2.2.2.2.1 b.2.2.2.2.2) (b := 1584) (by omega) hT k3
    unfold f_Bl_years f_Forecast_passYears
    refine Ev.ifn w2 ?_
    refine Ev.ifn w3 ?_
    refine Ev.ifn w5 ?_
    refine Ev.ifn w6 ?_
    refine Ev.ifn w8 ?_
    refine Ev.ifp w10 ?_
    refine Ev.bnd (a := (a.1, a.2.1, sumN (Lives_purse (a.2.2.2.2.1, a.2.2.2.2.2.1, a.2.2.2.2.2.2.1, a.2.2.2.2.2.2.2.1, a.2.2.2.2.2.2.2.2.1, a.2.2.2.2.2.2.2.2.2.1, a.2.2.2.2.2.2.2.2.2.2.1, a.2.2.2.2.2.2.2.2.2.2.2.1, a.2.2.2.2.2.2.2.2.2.2.2.2.1, a.2.2.2.2.2.2.2.2.2.2.2.2.2.1, a.2.2.2.2.2.2.2.2.2.2.2.2.2.2)) P 0 0, a.2.2.1, a.2.2.2.1, a.2.2.2.2.1, a.2.2.2.2.2.1, a.2.2.2.2.2.2.1, a.2.2.2.2.2.2.2.1, a.2.2.2.2.2.2.2.2.1, a.2.2.2.2.2.2.2.2.2.1, a.2.2.2.2.2.2.2.2.2.2.1, a.2.2.2.2.2.2.2.2.2.2.2.1, a.2.2.2.2.2.2.2.2.2.2.2.2.1, a.2.2.2.2.2.2.2.2.2.2.2.2.2.1, a.2.2.2.2.2.2.2.2.2.2.2.2.2.2)) ?_ ?_
    · refine bnd e1 ?_
      refine bnd e3 ?_
      refine bnd e4 ?_
      refine bnd hsum ?_
      rfl
    · by_cases k0 : a3 = 0
      · refine Ev.ifp k0 ?_
        refine Ev.ret ?_
        refine Ev.bnd e5 ?_
        refine Ev.ifp k0 ?_
        exact Ev.ret ⟨k1, rfl, rel0 _ _ _ _ _ _ _ _ _ hk⟩
      · refine Ev.ifn k0 ?_
        by_cases k9 : a3 = 1
        · refine Ev.ifp k9 ?_
          refine Ev.ret ?_
          refine Ev.bnd e5 ?_
          refine Ev.ifn k0 ?_
          refine Ev.ifp k9 ?_
          exact Ev.ret ⟨k2, rfl, rel0 _ _ _ _ _ _ _ _ _ hk⟩
        · refine Ev.ifn k9 ?_
          refine Ev.ret ?_
          refine Ev.bnd e5 ?_
          refine Ev.ifn k0 ?_
          refine Ev.ifn k9 ?_
          refine Ev.bnd hrs ?_
          exact Ev.ret ⟨rfl, rfl, rel0 _ _ _ _ _ _ _ _ _ hk⟩
  unfold f_R_years
  rcases hst2 with ⟨k1, y, k2⟩ | ⟨k1, k2⟩
  · refine (fin _ rfl).mono ?_
    intro r hr
    refine Ev.bnd (within_yes w2 w3) ?_
    refine Ev.ifn (by decide) ?_
    refine Ev.bnd (within_yes w5 w6) ?_
    refine Ev.ifn (by decide) ?_
    refine Ev.bnd (within_yes w8 w9) ?_
    refine Ev.ifn (by decide) ?_
    refine Ev.bnd e2 ?_
    refine Ev.ifp k1 ?_
    refine Ev.bnd k2 ?_
    exact hr
  · subst k2
    refine (fin _ rfl).mono ?_
    intro r hr
    refine Ev.bnd (within_yes w2 w3) ?_
    refine Ev.ifn (by decide) ?_
    refine Ev.bnd (within_yes w5 w6) ?_
    refine Ev.ifn (by decide) ?_
    refine Ev.bnd (within_yes w8 w9) ?_
    refine Ev.ifn (by decide) ?_
    refine Ev.bnd e2 ?_
    refine Ev.ifn k1 ?_
    exact hr
