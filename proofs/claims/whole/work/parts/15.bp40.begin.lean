/-! ===== a TOWN begins ===== -/
theorem laid_loop (N : Nat) {v0 : VBl} {v1 : VTape} {v2 : VTown} {v3 : VLaws} {v4 : VReader} {v5 : VTown} {v6 : VLaws} {v7 : VYear} {v8 : VYear} {v9 : VLots} {v10 : VLives} {v11 : VLives} {v13 : VTales} {v17 : VForecast} {v18 : VLives} {v19 : VDeeds} {v20 : VPairs} {und mls : Nat → VLives} {mts : Nat → VTales} : ∀ (r k fuel : Nat) (a : Nat → Int32), k + r = 4 → r < fuel → Ev (f_Bl_beginTown_L41 N fuel v0 v1 v2 v3 v4 v5 v6 v7 v8 v9 v10 v11 v13 v17 v18 v19 v20 und mls mts (nI k) a) (fun q => ∀ i, (k ≤ i → i < 4 → q i = 0) ∧ (i < k → q i = a i))
  | _, _, 0, _, _, h => absurd h (Nat.not_lt_zero _)
  | 0, k, fuel + 1, a, hk, _ => by
    rw [f_Bl_beginTown_L41]
    refine Ev.ifp (by rw [show k = 4 by omega]; decide) ?_
    exact Ev.ret fun i => ⟨fun h1 h2 => absurd h1 (by omega), fun _ => rfl⟩
  | r + 1, k, fuel + 1, a, hk, hf => by
    rw [f_Bl_beginTown_L41, nI_clamp (n := k) (by omega), show nI k + 1 = nI (k + 1) from nI_1 k]
    refine Ev.ifn (ngF (L := 4) (b := 4) rfl (by omega) (by omega)) ?_
    refine Ev.ifn (fun q => q.elim (nI_pos (by omega)) (fun y => by omega)) ?_
    refine (laid_loop N r (k + 1) fuel _ (by omega) (by omega)).mono ?_
    intro q hq i
    refine ⟨fun h1 h2 => ?_, fun h1 => ?_⟩
    · by_cases e : i = k
      · rw [(hq i).2 (by omega), e, pk_us]
        rfl
      · exact (hq i).1 (by omega) h2
    · rw [(hq i).2 (by omega), pk_un (by omega)]
theorem mark_loop (N : Nat) {w : VR} : ∀ (r k fuel : Nat) (a : Nat → Int32), k + r = 4 → r < fuel → Ev (f_R_begins_L37 N fuel w (nI k) a) (fun q => ∀ i, (k ≤ i → i < 4 → q i = 0) ∧ (i < k → q i = a i))
  | _, _, 0, _, _, h => absurd h (Nat.not_lt_zero _)
  | 0, k, fuel + 1, a, hk, _ => by
    rw [f_R_begins_L37]
    refine Ev.ifp (by rw [show k = 4 by omega]; decide) ?_
    exact Ev.ret fun i => ⟨fun h1 h2 => absurd h1 (by omega), fun _ => rfl⟩
  | r + 1, k, fuel + 1, a, hk, hf => by
    rw [f_R_begins_L37, nI_clamp (n := k) (by omega), show nI k + 1 = nI (k + 1) from nI_1 k]
    refine Ev.ifn (ngF (L := 4) (b := 4) rfl (by omega) (by omega)) ?_
    refine Ev.ifn (fun q => q.elim (nI_pos (by omega)) (fun y => by omega)) ?_
    refine Ev.letE ?_
    refine (mark_loop N r (k + 1) fuel _ (by omega) (by omega)).mono ?_
    intro q hq i
    refine ⟨fun h1 h2 => ?_, fun h1 => ?_⟩
    · by_cases e : i = k
      · rw [(hq i).2 (by omega), e, pk_us]
        rfl
      · exact (hq i).1 (by omega) h2
    · rw [(hq i).2 (by omega), pk_un (by omega)]
theorem m_begin {N : Nat} (hN : 10000 ≤ N) {v0 : VBl} {v1 : VTape} {v2 : VTown} {v3 : VLaws} {v4 : VReader} {v5 : VTown} {v6 : VLaws} {v7 : VYear} {v8 : VYear} {v9 : VLots} {v10 : VLives} {v11 : VLives} {v13 : VTales} {v17 : VForecast} {v18 : VLives} {v19 : VDeeds} {v20 : VPairs} {und mls : Nat → VLives} {mts : Nat → VTales} {w : VR} {P g : Nat} (hT : townR w v2 v3 P) (hB : barR w v2 P) (hG : g ≤ 999 ∧ Town_sign v2 = nI g ∧ R_towns w 2 = nI g) (hD : toldR v2 P) (hNm : nameR w v2 P) (hW : wordsR w) (hta : tapeR w v1) (htal : ∀ k, k < 10000 → Forecast_tally v17 k = 0) (hq : ∃ q, q < 17 ∧ Bl_nextUndo v0 = nI q) : Ev (f_Bl_beginTown N v0 v1 v2 v3 v4 v5 v6 v7 v8 v9 v10 v11 v13 v17 v18 v19 v20 und mls mts) (fun r => Ev (f_R_begins N w) (fun q => ∃ L, RELx P L g (Bl_nextUndo v0, r.1, r.2.1) v1 v2 v3 (Year_lines_s v7 r.2.2.1) (Lots_s_people_count_selves_row v9 r.2.2.2.1 r.2.2.2.2.1 r.2.2.2.2.2.1 r.2.2.2.2.2.2.1) (Lives_s_purse_debt_home_hidden_self_away_days_homes_harm v10 r.2.2.2.2.2.2.2.1 r.2.2.2.2.2.2.2.2.1 r.2.2.2.2.2.2.2.2.2.1 r.2.2.2.2.2.2.2.2.2.2.1 r.2.2.2.2.2.2.2.2.2.2.2.1 r.2.2.2.2.2.2.2.2.2.2.2.2.1 r.2.2.2.2.2.2.2.2.2.2.2.2.2.1 r.2.2.2.2.2.2.2.2.2.2.2.2.2.2.1 r.2.2.2.2.2.2.2.2.2.2.2.2.2.2.2.1) (Tales_count_s v13 r.2.2.2.2.2.2.2.2.2.2.2.2.2.2.2.2.1) (Forecast_s_ready_prepared v17 r.2.2.2.2.2.2.2.2.2.2.2.2.2.2.2.2.2.1 r.2.2.2.2.2.2.2.2.2.2.2.2.2.2.2.2.2.2) und mls mts (R_s_lines_state_undos_isMarked_signed_lotRows_lotRow_lotsMany w q.1 q.2.1 q.2.2.1 q.2.2.2.1 q.2.2.2.2.1 q.2.2.2.2.2.1 q.2.2.2.2.2.2.1 q.2.2.2.2.2.2.2))) := by
  have h6 : P ≤ 6 := hT.1.2
  obtain ⟨st, s1, s2, s3⟩ := starts_ev hN (w := R_signed_s w (R_towns w 2)) (v1 := v2) (v2 := v3) (P := P) (b := 0) (by omega) hT
  have s1' : f_R_starts N (R_signed_s w (R_towns w (Int32.toNatClampNeg 2))) 0 = some st := s1
  obtain ⟨mk, m1, m2⟩ := mark_loop N (w := R_s_lines_state_undos_signed w (upd (R_lines w) (Int32.toNatClampNeg 0) 0) (upd st (Int32.toNatClampNeg 46) 0) 0 (R_towns w (Int32.toNatClampNeg 2))) 4 0 N (R_isMarked w) rfl (by omega)
  have m1' : f_R_begins_L37 N N (R_s_lines_state_undos_signed w (upd (R_lines w) (Int32.toNatClampNeg 0) 0) (upd st (Int32.toNatClampNeg 46) 0) 0 (R_towns w (Int32.toNatClampNeg 2))) 0 (R_isMarked w) = some mk := m1
  obtain ⟨⟨l1, l2, l3, l4⟩, f1, ⟨b1, b2, b3⟩, f2, L, f3⟩ := lots_both hN (v9 := v9) (v2 := v2) (v3 := v3) (w := R_s_lines_state_undos_isMarked_signed w (upd (R_lines w) (Int32.toNatClampNeg 0) 0) (upd st (Int32.toNatClampNeg 46) 0) 0 mk (R_towns w (Int32.toNatClampNeg 2))) (P := P) hT hB
  obtain ⟨⟨c1, c2, c3, c4, c5, c6, c7, c8, c9⟩, d1, hag⟩ := begin_ev hN (v := v10) (v1 := v2) (v2 := v3)
  have hag : AGP 6 (c1, c2, c3, c4, c5, Lives_worthThen v10, Lives_homeThen v10, c6, c7, c8, c9) (startV v2) := hag
  have hag2 := (hag.le h6).symm
  unfold f_Bl_beginTown
  refine Ev.bnd f1 ?_
  refine Ev.bnd d1 ?_
  refine Ev.bnx (laid_loop N 4 0 N (Bl_laid v0) rfl (by omega)) ?_
  intro la hla
  refine Ev.bnd (a := (0, -1)) rfl ?_
  refine Ev.ret ?_
  unfold f_R_begins
  refine Ev.bnd s1' ?_
  refine Ev.letE ?_
  refine Ev.letE ?_
  refine Ev.bnd m1' ?_
  refine Ev.bnd f2 ?_
  refine Ev.ret ⟨L, ⟨hT, hB, ⟨hG.1, hG.2.1, hG.2.2, hG.2.2⟩, hD, hNm, hW⟩, f3, ⟨?_, ?_⟩, hta, ?_, ?_, ?_, ?_, ?_⟩
  · refine LR.ag ?_ hag2
    refine LR.keep h6 s2 (fun j h1 h2 => ?_)
    exact pk_un (show j ≠ 46 by omega)
  · exact (LI_start h6 hD).ag hag2
  · exact ⟨0, by omega, rfl, (pk_us : upd st 46 0 46 = 0), fun i hi => absurd hi (by omega)⟩
  · obtain ⟨q, q1, q2⟩ := hq
    exact ⟨0, q, by omega, q1, rfl, rfl, q2, fun i hi => absurd hi (by omega)⟩
  · intro i hi
    exact Or.inl ⟨(hla i).1 (by omega) hi, (m2 i).1 (by omega) hi⟩
  · exact ⟨0, by omega, rfl, (pk_us : upd (R_lines w) 0 0 0 = 0), fun k hk => absurd hk (by omega)⟩
  · exact ⟨Or.inl rfl, Or.inl rfl, htal⟩
