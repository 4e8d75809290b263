/-! ===== the YEAR ===== -/
theorem FrL.trans {a b c : Nat → Int32} (h : FrL a b) (g : FrL b c) : FrL a c := fun i hi => (g i hi).trans (h i hi)
theorem year_loop {N n0 m p : Nat} (hN : 10000 ≤ N) {v0 : VYear} {v1 : VTape} {v2 : VTown} {v3 : VLaws} {w0 : VR} (h : LexAt n0 m v1 w0) (hp : p ≤ 6) (hpe : Town_people v2 = nI p) (hy : R_namesMany w0 = nI p) (hnr : NamesR p (Town_names v2) (R_names w0)) : ∀ (k fuel fuel' j x : Nat) (f nl xr : Int32) (wo fi se ls : Nat → Int32), j ≤ m → (f = 0 ∨ dead f) → (f = 0 → x ≤ 40 ∧ nl = nI x ∧ xr = nI x ∧ YR p x wo fi se ls) → ((f = 0 → m + 1 < j + k) ∧ 1 ≤ k ∧ x ≤ 1000) → k ≤ fuel → k ≤ fuel' → ∃ nl' wo' fi' se' j' f' xr' ls', f_Year_readFrom_L11 N fuel v0 v1 v2 v3 (nI x) nl wo fi se (nI j) f = some (nl', wo', fi', se', nI j', f') ∧ f_R_year_L11 N fuel' w0 xr (nI j) f ls = some (xr', nI j', f', ls') ∧ j' ≤ m ∧ (f' = 0 ∨ dead f') ∧ FrL ls ls' ∧ (f' = 0 → ∃ n', n' ≤ 40 ∧ nl' = nI n' ∧ xr' = nI n' ∧ YR p n' wo' fi' se' ls')
  | 0, _, _, _, _, _, _, _, _, _, _, _, _, _, _, hk, _, _ => absurd hk.2.1 (by omega)
  | k + 1, 0, _, _, _, _, _, _, _, _, _, _, _, _, _, _, h1, _ => absurd h1 (by omega)
  | k + 1, _, 0, _, _, _, _, _, _, _, _, _, _, _, _, _, _, h1 => absurd h1 (by omega)
  | k + 1, fuel + 1, fuel' + 1, j, x, f, nl, xr, wo, fi, se, ls, hj, hf, hd, hk, h1, h2 => by
    have hm := h.m1000
    have hx := hk.2.2
    rcases hf with rfl | hf
    · have htk := token_A (N := N) (v := Tape_s_at_fault v1 (nI j) 0) h hj rfl rfl
      obtain ⟨hx4, rfl, rfl, hyr⟩ := hd rfl
      have nx : ¬ 40 < nI x := nltF (L := 40) (a := 40) rfl hx4 (by omega)
      by_cases c0 : Tape_tokens v1 j = 0
      · refine ⟨nI x, wo, fi, se, j, 0, nI x, ls, ?_, ?_, hj, Or.inl rfl, fun _ _ => rfl, fun _ => ⟨x, hx4, rfl, rfl, hyr⟩⟩
        · rw [f_Year_readFrom_L11]
          refine zifn nx ?_
          refine bnd (a := 0) ?_ (zifp rfl rfl)
          unfold f_Tape_goesOn
          refine bnd htk ?_
          exact zifp c0 rfl
        · rw [f_R_year_L11]
          refine zifp rfl ?_
          rw [nI_clamp (n := j) (by omega)]
          refine zifn (t_ix h hj).2 ?_
          exact zifp ((tok_end (h.tok hj).1).1.mpr c0) rfl
      · have hlt : j < m := tk_lt h hj c0
        obtain ⟨nl1, wo1, fi1, se1, j1, f1, xr1, ls1, x1, y1, g1, g2, g3, gF, g4⟩ := yline_both (N := N) (fuel := fuel') (v0 := Year_s_lines_words_first_second v0 (nI x) wo fi se) (v1 := Tape_s_at_fault v1 (nI j) 0) (v2 := v2) (v3 := v3) (w0 := w0) (n := x) hN h hj rfl rfl c0 hp hpe hy hnr hx4 rfl hyr
        have hgo : f_Tape_goesOn N (Tape_s_at_fault v1 (nI j) 0) = some 1 := by
          unfold f_Tape_goesOn
          refine bnd htk ?_
          refine zifn c0 ?_
          exact zifn (tok_end (h.tok hj).1).2 rfl
        have hk1 := hk.1 rfl
        obtain ⟨nl2, wo2, fi2, se2, j2, f2, xr2, ls2, x2, y2, r2a, r2b, r2F, r2c⟩ := year_loop hN (v0 := v0) (v1 := v1) (v3 := v3) h hp hpe hy hnr k fuel fuel' j1 (x + 1) f1 nl1 xr1 wo1 fi1 se1 ls1 g2 g3 (fun q => (g4 q).2) ⟨fun q => by have := (g4 q).1; omega, by omega, by omega⟩ (by omega) (by omega)
        refine ⟨nl2, wo2, fi2, se2, j2, f2, xr2, ls2, ?_, y1.trans y2, r2a, r2b, gF.trans r2F, r2c⟩
        rw [f_Year_readFrom_L11]
        refine zifn nx ?_
        refine bnd hgo ?_
        refine zifn (by decide) ?_
        refine bnd x1 ?_
        rw [show nI x + 1 = nI (x + 1) from nI_1 x]
        exact x2
    · refine ⟨nl, wo, fi, se, j, f, xr, ls, ?_, ?_, hj, Or.inr hf, fun _ _ => rfl, fun q => absurd q hf.ne⟩
      · rw [f_Year_readFrom_L11]
        by_cases c : 40 < nI x
        · exact zifp c rfl
        · refine zifn c ?_
          refine bnd (a := 0) ?_ (zifp rfl rfl)
          unfold f_Tape_goesOn
          refine bnd (token_B (v := Tape_s_at_fault v1 (nI j) f) hf) ?_
          refine zifn (by decide) ?_
          exact zifp rfl rfl
      · rw [f_R_year_L11]
        exact zifn hf.ne rfl
theorem copyL (N : Nat) {w : VR} {n : Nat} (hn : n ≤ 40) : ∀ (r k fuel : Nat) (ls : Nat → Int32), k + r = 3 * n → r < fuel → Ev (f_R_year_L127 N fuel w (nI n) (nI k) ls) (fun q => ∀ i, (k ≤ i → i < 3 * n → q (1 + i) = ls (125 + i)) ∧ ((i < 1 + k ∨ 1 + 3 * n ≤ i) → q i = ls i))
  | _, _, 0, _, _, h => absurd h (Nat.not_lt_zero _)
  | 0, k, fuel + 1, ls, hk, _ => by
    rw [f_R_year_L127, show (3 : Int32) * nI n = nI (3 * n) by rw [show (3 : Int32) = nI 3 from rfl, pk_mul]]
    refine Ev.ifp (nI_le (by omega) (by omega)) ?_
    exact Ev.ret fun i => ⟨fun h1 h2 => absurd h1 (by omega), fun _ => rfl⟩
  | r + 1, k, fuel + 1, ls, hk, hf => by
    rw [f_R_year_L127, show (3 : Int32) * nI n = nI (3 * n) by rw [show (3 : Int32) = nI 3 from rfl, pk_mul], show (125 : Int32) + nI k = nI (125 + k) by rw [show (125 : Int32) = nI 125 from rfl, nI_add], show (1 : Int32) + nI k = nI (1 + k) by rw [show (1 : Int32) = nI 1 from rfl, nI_add], nI_clamp (n := 125 + k) (by omega), nI_clamp (n := 1 + k) (by omega), show nI k + 1 = nI (k + 1) from nI_1 k]
    refine Ev.ifn (nI_ge (by omega) (by omega)) ?_
    refine Ev.ifn (fun q => q.elim (nI_pos (by omega)) (fun y => by omega)) ?_
    refine Ev.ifn (fun q => q.elim (nI_pos (by omega)) (fun y => by omega)) ?_
    refine Ev.letE ?_
    refine (copyL N hn r (k + 1) fuel _ (by omega) (by omega)).mono ?_
    intro q hq i
    refine ⟨fun h1 h2 => ?_, fun h1 => ?_⟩
    · by_cases e : i = k
      · rw [(hq (1 + i)).2 (by omega), e, pk_us]
      · rw [(hq i).1 (by omega) h2, pk_un (by omega)]
    · rw [(hq i).2 (by omega), pk_un (by omega)]
theorem m_year {N : Nat} (hN : 10000 ≤ N) {v0 : VBl} {v1 : VTape} {v2 : VTown} {v3 : VLaws} {v4 : VReader} {v5 : VTown} {v6 : VLaws} {v7 : VYear} {v8 : VYear} {v9 : VLots} {v10 : VLives} {v11 : VLives} {v13 : VTales} {v17 : VForecast} {v18 : VLives} {v19 : VDeeds} {v20 : VPairs} {und mls : Nat → VLives} {mts : Nat → VTales} {w : VR} {P L g : Nat} (h : RELx P L g v0 v1 v2 v3 v7 v9 v10 v13 v17 und mls mts w) : Ev (f_Bl_year N v0 v1 v2 v3 v4 v5 v6 v7 v8 v9 v10 v11 v13 v17 v18 v19 v20 und mls mts) (fun r => Ev (f_R_year N w) (fun q => r.1 = q.1 ∧ q.2.1 = 0 ∧ RELx P L g v0 (Tape_s_length_tokens_places_values_tokenCount_at_fault v1 r.2.1 r.2.2.1 r.2.2.2.1 r.2.2.2.2.1 r.2.2.2.2.2.1 r.2.2.2.2.2.2.1 r.2.2.2.2.2.2.2.1) v2 v3 (Year_s_lines_words_first_second v7 r.2.2.2.2.2.2.2.2.1 r.2.2.2.2.2.2.2.2.2.1 r.2.2.2.2.2.2.2.2.2.2.1 r.2.2.2.2.2.2.2.2.2.2.2.1) v9 v10 v13 v17 und mls mts (R_s_thrown_taped_size_sort_place_value_at_fault_lines w q.2.1 q.2.2.1 q.2.2.2.1 q.2.2.2.2.1 q.2.2.2.2.2.1 q.2.2.2.2.2.2.1 q.2.2.2.2.2.2.2.1 q.2.2.2.2.2.2.2.2.1 q.2.2.2.2.2.2.2.2.2))) := by
  obtain ⟨⟨hT, hB, hG, hD, hNm, hW⟩, hl, ⟨hR, hI⟩, hta, htl, hu, hm, hpl, hf⟩ := h
  have h6 := hT.1.2
  obtain ⟨⟨a1, a2, a3, a4, a5, a6, a7⟩, x1, ⟨b1, b2, b3, b4, b5, b6, b7⟩, y1, n0, m0, hLR, e1, e5, e6, e7, u1, u6, u7⟩ := lex_both hN (v := v1) (w := R_thrown_s w 0) hta
  have e1 : a1 = 0 := e1
  have e5 : a5 = nI (m0 + 1) := e5
  have e6 : a6 = 0 := e6
  have e7 : a7 = 0 := e7
  have u1 : b1 = 0 := u1
  have u6 : b6 = 0 := u6
  have u7 : b7 = 0 := u7
  subst e1 e5 e6 e7 u1 u6 u7
  have hLex : LexAt n0 m0 (Tape_s_length_tokens_places_values_tokenCount_at_fault v1 0 a2 a3 a4 (nI (m0 + 1)) 0 0) (R_s_thrown_taped_size_sort_place_value_at_fault w 0 0 b2 b3 b4 b5 0 0) := ⟨rfl, hLR, hW⟩
  have hm1000 := hLex.m1000
  obtain ⟨nl', wo', fi', se', j', f', xr', ls', x2, y2, k1, k2, kF, k3⟩ := year_loop hN (v0 := Year_lines_s v8 0) (v1 := Tape_s_length_tokens_places_values_tokenCount_at_fault v1 0 a2 a3 a4 (nI (m0 + 1)) 0 0) (v2 := v2) (v3 := v3) (w0 := R_s_thrown_taped_size_sort_place_value_at_fault w 0 0 b2 b3 b4 b5 0 0) hLex h6 hT.1.1 hNm.1 ⟨hNm.2.1, hNm.2.2⟩ (m0 + 2) N N 0 0 0 0 0 (Year_words v8) (Year_first v8) (Year_second v8) (R_lines w) (Nat.zero_le _) (Or.inl rfl) (fun _ => ⟨by omega, rfl, rfl, fun k hk => absurd hk (by omega)⟩) ⟨fun _ => by omega, by omega, by omega⟩ (by omega) (by omega)
  have hrt : f_Year_readFrom N v8 v1 v2 v3 = some (f', nl', wo', fi', se', 0, a2, a3, a4, nI (m0 + 1), nI j', f') := by
    unfold f_Year_readFrom
    refine bnd x1 ?_
    exact bnd x2 rfl
  have y2' : f_R_year_L11 N N (R_s_thrown_taped_size_sort_place_value_at_fault w 0 0 b2 b3 b4 b5 0 0) 0 0 0 (R_lines w) = some (xr', nI j', f', ls') := y2
  rcases k2 with rfl | k2
  · obtain ⟨n', q1, rfl, rfl, q4⟩ := k3 rfl
    obtain ⟨Q, c1, c2⟩ := copyL N (w := R_s_thrown_taped_size_sort_place_value_at_fault_lines w 0 0 b2 b3 b4 b5 (nI j') 0 (upd ls' 0 (nI n'))) q1 (3 * n') 0 N (upd ls' 0 (nI n')) (by omega) (by omega)
    unfold f_Bl_year
    refine Ev.bnd hrt ?_
    refine Ev.ifp rfl ?_
    refine Ev.bnd (a := (nI n', va_cpy wo' (Year_words v7) 0 0 40, va_cpy fi' (Year_first v7) 0 0 40, va_cpy se' (Year_second v7) 0 0 40)) rfl ?_
    refine Ev.ret ?_
    unfold f_R_year
    refine Ev.bnd y1 ?_
    refine Ev.bnd y2' ?_
    refine Ev.ifp (show (0 : Int32) ≤ 0 by decide) ?_
    refine Ev.letE ?_
    refine Ev.bnd c1 ?_
    refine Ev.ret ⟨rfl, rfl, ⟨hT, hB, hG, hD, hNm, hW⟩, hl, ⟨hR, hI⟩, ⟨0, by omega, rfl, rfl, fun k hk => absurd hk (by omega)⟩, htl, hu, hm, ⟨n', q1, rfl, ?_, fun k hk => ?_⟩, hf⟩
    · exact ((c2 0).2 (Or.inl (by omega))).trans pk_us
    · have d1 : Q (1 + 3 * k) = ls' (125 + 3 * k) := ((c2 (3 * k)).1 (by omega) (by omega)).trans (pk_un (by omega))
      have d2 : Q (2 + 3 * k) = ls' (126 + 3 * k) := by
        rw [show 2 + 3 * k = 1 + (3 * k + 1) by omega, show 126 + 3 * k = 125 + (3 * k + 1) by omega]
        exact ((c2 (3 * k + 1)).1 (by omega) (by omega)).trans (pk_un (by omega))
      have d3 : Q (3 + 3 * k) = ls' (127 + 3 * k) := by
        rw [show 3 + 3 * k = 1 + (3 * k + 2) by omega, show 127 + 3 * k = 125 + (3 * k + 2) by omega]
        exact ((c2 (3 * k + 2)).1 (by omega) (by omega)).trans (pk_un (by omega))
      show lineR P (va_cpy wo' (Year_words v7) 0 0 40 k) (va_cpy fi' (Year_first v7) 0 0 40 k) (va_cpy se' (Year_second v7) 0 0 40 k) (Q (1 + 3 * k)) (Q (2 + 3 * k)) (Q (3 + 3 * k))
      rw [cpyN wo' (Year_words v7) (show k < 40 by omega), cpyN fi' (Year_first v7) (show k < 40 by omega), cpyN se' (Year_second v7) (show k < 40 by omega), d1, d2, d3]
      exact q4 k hk
  · unfold f_Bl_year
    refine Ev.bnd hrt ?_
    refine Ev.ifn k2.ne ?_
    refine Ev.ret ?_
    unfold f_R_year
    refine Ev.bnd y1 ?_
    refine Ev.bnd y2' ?_
    refine Ev.ifn k2.nle ?_
    refine Ev.ret ⟨rfl, rfl, ⟨hT, hB, hG, hD, hNm, hW⟩, hl, ⟨hR, hI⟩, ⟨0, by omega, rfl, rfl, fun k hk => absurd hk (by omega)⟩, htl, hu, hm, ?_, hf⟩
    obtain ⟨n, p1, p2, p3, p4⟩ := hpl
    refine ⟨n, p1, p2, (kF 0 (by omega)).trans p3, fun k hk => ?_⟩
    show lineR P (Year_words v7 k) (Year_first v7 k) (Year_second v7 k) (ls' (1 + 3 * k)) (ls' (2 + 3 * k)) (ls' (3 + 3 * k))
    rw [kF _ (by omega), kF _ (by omega), kF _ (by omega)]
    exact p4 k hk
