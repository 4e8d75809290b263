/-! ===== the town ===== -/
theorem lawRel_made {tw op ar T O A : Nat → Int32} {v3 v3n : VLaws} {s c k : Nat} (h : lawDr tw op ar v3 s c k) (hs : s ≤ 1000) (hc : c < 1100) (hT : T (3 + k) = tw (83 + k)) (hO : ∀ i, i < c → O i = op (1100 + i) ∧ A i = ar (1100 + i)) (hf : Laws_from v3n k = Laws_from v3 k) (hto : Laws_to v3n k = Laws_to v3 k) (hcd : ∀ i, i < 1000 → Laws_codes v3n i = Laws_codes v3 i) : lawRel T O A v3n k := by
  obtain ⟨⟨f, t, a1, a2, a3, a4, a5⟩, h2⟩ := h
  refine ⟨⟨f, t, hf.trans a1, hto.trans a2, a3, a4, fun q => ?_⟩, ?_⟩
  · rw [show seg (Laws_codes v3n) f (t - f) = seg (Laws_codes v3) f (t - f) from seg_cong (fun i hi => hcd _ (by omega))]
    exact a5 q
  · rcases h2 with ⟨h2, h3⟩ | ⟨f', t', b, b1, b2, b3, b4, b5, b6, b7, b8⟩
    · exact Or.inl ⟨by rw [hf, hto]; exact h2, hT.trans h3⟩
    · refine Or.inr ⟨f', t', b, hf.trans b1, hto.trans b2, b3, by omega, hT.trans b5, by omega, fun i hi => ?_, ?_⟩
      · rw [hcd (f' + i) (by omega), (hO (b + i) (by omega)).1, (hO (b + i) (by omega)).2, show 1100 + (b + i) = 1100 + b + i by omega]
        exact b7 i hi
      · rw [(hO (b + (t' - f')) (by omega)).1, show 1100 + (b + (t' - f')) = 1100 + b + (t' - f') by omega]
        exact b8
theorem zbit0 : ∀ l, l < 6 → (((0 : Int32) >>> (nI l &&& 31)) &&& 1) = 0 := by decide +kernel
theorem m_town {N : Nat} (hN : 10000 ≤ N) {v0 : VBl} {v1 : VTape} {v2 : VTown} {v3 : VLaws} {v4 : VReader} {v5 : VTown} {v6 : VLaws} {v7 : VYear} {v8 : VYear} {v9 : VLots} {v10 : VLives} {v11 : VLives} {v13 : VTales} {v17 : VForecast} {v18 : VLives} {v19 : VDeeds} {v20 : VPairs} {und mls : Nat → VLives} {mts : Nat → VTales} {w : VR} {P L g : Nat} (h : RELx P L g v0 v1 v2 v3 v7 v9 v10 v13 v17 und mls mts w) : Ev (f_Bl_town N v0 v1 v2 v3 v4 v5 v6 v7 v8 v9 v10 v11 v13 v17 v18 v19 v20 und mls mts) (fun r => Ev (f_R_town N w) (fun q => r.1 = q.1 ∧ q.2.1 = 0 ∧ ∃ P' L' g', RELx P' L' g' (Bl_nextUndo v0, r.2.1, r.2.2.1) (Tape_s_length_tokens_places_values_tokenCount_at_fault v1 r.2.2.2.1 r.2.2.2.2.1 r.2.2.2.2.2.1 r.2.2.2.2.2.2.1 r.2.2.2.2.2.2.2.1 r.2.2.2.2.2.2.2.2.1 r.2.2.2.2.2.2.2.2.2.1) (Town_s_people_names_kinds_skills_purses_debts_homes_barred_bars_sign_signTold v2 r.2.2.2.2.2.2.2.2.2.2.1 r.2.2.2.2.2.2.2.2.2.2.2.1 r.2.2.2.2.2.2.2.2.2.2.2.2.1 r.2.2.2.2.2.2.2.2.2.2.2.2.2.1 r.2.2.2.2.2.2.2.2.2.2.2.2.2.2.1 r.2.2.2.2.2.2.2.2.2.2.2.2.2.2.2.1 r.2.2.2.2.2.2.2.2.2.2.2.2.2.2.2.2.1 r.2.2.2.2.2.2.2.2.2.2.2.2.2.2.2.2.2.1 r.2.2.2.2.2.2.2.2.2.2.2.2.2.2.2.2.2.2.1 r.2.2.2.2.2.2.2.2.2.2.2.2.2.2.2.2.2.2.2.1 r.2.2.2.2.2.2.2.2.2.2.2.2.2.2.2.2.2.2.2.2.1) (Laws_s_codes_size_from_to v3 r.2.2.2.2.2.2.2.2.2.2.2.2.2.2.2.2.2.2.2.2.2.1 r.2.2.2.2.2.2.2.2.2.2.2.2.2.2.2.2.2.2.2.2.2.2.1 r.2.2.2.2.2.2.2.2.2.2.2.2.2.2.2.2.2.2.2.2.2.2.2.1 r.2.2.2.2.2.2.2.2.2.2.2.2.2.2.2.2.2.2.2.2.2.2.2.2.1) (Year_lines_s v7 r.2.2.2.2.2.2.2.2.2.2.2.2.2.2.2.2.2.2.2.2.2.2.2.2.2.2.2.2.2.2.2.2.2.2.2.2.2.2.2.2.2.1) (Lots_s_people_count_selves_row v9 r.2.2.2.2.2.2.2.2.2.2.2.2.2.2.2.2.2.2.2.2.2.2.2.2.2.2.2.2.2.2.2.2.2.2.2.2.2.2.2.2.2.2.1 r.2.2.2.2.2.2.2.2.2.2.2.2.2.2.2.2.2.2.2.2.2.2.2.2.2.2.2.2.2.2.2.2.2.2.2.2.2.2.2.2.2.2.2.1 r.2.2.2.2.2.2.2.2.2.2.2.2.2.2.2.2.2.2.2.2.2.2.2.2.2.2.2.2.2.2.2.2.2.2.2.2.2.2.2.2.2.2.2.2.1 r.2.2.2.2.2.2.2.2.2.2.2.2.2.2.2.2.2.2.2.2.2.2.2.2.2.2.2.2.2.2.2.2.2.2.2.2.2.2.2.2.2.2.2.2.2.1) (Lives_s_purse_debt_home_hidden_self_away_days_homes_harm v10 r.2.2.2.2.2.2.2.2.2.2.2.2.2.2.2.2.2.2.2.2.2.2.2.2.2.2.2.2.2.2.2.2.2.2.2.2.2.2.2.2.2.2.2.2.2.2.1 r.2.2.2.2.2.2.2.2.2.2.2.2.2.2.2.2.2.2.2.2.2.2.2.2.2.2.2.2.2.2.2.2.2.2.2.2.2.2.2.2.2.2.2.2.2.2.2.1 r.2.2.2.2.2.2.2.2.2.2.2.2.2.2.2.2.2.2.2.2.2.2.2.2.2.2.2.2.2.2.2.2.2.2.2.2.2.2.2.2.2.2.2.2.2.2.2.2.1 r.2.2.2.2.2.2.2.2.2.2.2.2.2.2.2.2.2.2.2.2.2.2.2.2.2.2.2.2.2.2.2.2.2.2.2.2.2.2.2.2.2.2.2.2.2.2.2.2.2.1 r.2.2.2.2.2.2.2.2.2.2.2.2.2.2.2.2.2.2.2.2.2.2.2.2.2.2.2.2.2.2.2.2.2.2.2.2.2.2.2.2.2.2.2.2.2.2.2.2.2.2.1 r.2.2.2.2.2.2.2.2.2.2.2.2.2.2.2.2.2.2.2.2.2.2.2.2.2.2.2.2.2.2.2.2.2.2.2.2.2.2.2.2.2.2.2.2.2.2.2.2.2.2.2.1 r.2.2.2.2.2.2.2.2.2.2.2.2.2.2.2.2.2.2.2.2.2.2.2.2.2.2.2.2.2.2.2.2.2.2.2.2.2.2.2.2.2.2.2.2.2.2.2.2.2.2.2.2.1 r.2.2.2.2.2.2.2.2.2.2.2.2.2.2.2.2.2.2.2.2.2.2.2.2.2.2.2.2.2.2.2.2.2.2.2.2.2.2.2.2.2.2.2.2.2.2.2.2.2.2.2.2.2.1 r.2.2.2.2.2.2.2.2.2.2.2.2.2.2.2.2.2.2.2.2.2.2.2.2.2.2.2.2.2.2.2.2.2.2.2.2.2.2.2.2.2.2.2.2.2.2.2.2.2.2.2.2.2.2.1) (Tales_count_s v13 r.2.2.2.2.2.2.2.2.2.2.2.2.2.2.2.2.2.2.2.2.2.2.2.2.2.2.2.2.2.2.2.2.2.2.2.2.2.2.2.2.2.2.2.2.2.2.2.2.2.2.2.2.2.2.2.1) (Forecast_s_ready_prepared v17 r.2.2.2.2.2.2.2.2.2.2.2.2.2.2.2.2.2.2.2.2.2.2.2.2.2.2.2.2.2.2.2.2.2.2.2.2.2.2.2.2.2.2.2.2.2.2.2.2.2.2.2.2.2.2.2.2.1 r.2.2.2.2.2.2.2.2.2.2.2.2.2.2.2.2.2.2.2.2.2.2.2.2.2.2.2.2.2.2.2.2.2.2.2.2.2.2.2.2.2.2.2.2.2.2.2.2.2.2.2.2.2.2.2.2.2) und mls mts (R_s_thrown_taped_size_sort_place_value_at_fault_towns_op_arg_codes_names_readNames_namesMany_readMany_hasSigned_factsHere_lines_state_undos_isMarked_signed_lotRows_lotRow_lotsMany w q.2.1 q.2.2.1 q.2.2.2.1 q.2.2.2.2.1 q.2.2.2.2.2.1 q.2.2.2.2.2.2.1 q.2.2.2.2.2.2.2.1 q.2.2.2.2.2.2.2.2.1 q.2.2.2.2.2.2.2.2.2.1 q.2.2.2.2.2.2.2.2.2.2.1 q.2.2.2.2.2.2.2.2.2.2.2.1 q.2.2.2.2.2.2.2.2.2.2.2.2.1 q.2.2.2.2.2.2.2.2.2.2.2.2.2.1 q.2.2.2.2.2.2.2.2.2.2.2.2.2.2.1 q.2.2.2.2.2.2.2.2.2.2.2.2.2.2.2.1 q.2.2.2.2.2.2.2.2.2.2.2.2.2.2.2.2.1 q.2.2.2.2.2.2.2.2.2.2.2.2.2.2.2.2.2.1 q.2.2.2.2.2.2.2.2.2.2.2.2.2.2.2.2.2.2.1 q.2.2.2.2.2.2.2.2.2.2.2.2.2.2.2.2.2.2.2.1 q.2.2.2.2.2.2.2.2.2.2.2.2.2.2.2.2.2.2.2.2.1 q.2.2.2.2.2.2.2.2.2.2.2.2.2.2.2.2.2.2.2.2.2.1 q.2.2.2.2.2.2.2.2.2.2.2.2.2.2.2.2.2.2.2.2.2.2.1 q.2.2.2.2.2.2.2.2.2.2.2.2.2.2.2.2.2.2.2.2.2.2.2.1 q.2.2.2.2.2.2.2.2.2.2.2.2.2.2.2.2.2.2.2.2.2.2.2.2.1 q.2.2.2.2.2.2.2.2.2.2.2.2.2.2.2.2.2.2.2.2.2.2.2.2.2.1 q.2.2.2.2.2.2.2.2.2.2.2.2.2.2.2.2.2.2.2.2.2.2.2.2.2.2))) := by
  obtain ⟨⟨hT, hB, hG, hD, hNm, hW⟩, hl, ⟨hR, hI⟩, hta, htl, hu, hm, hpl, hf⟩ := h
  have h6 := hT.1.2
  obtain ⟨⟨a1, a2, a3, a4, a5, a6, a7⟩, x1, ⟨b1, b2, b3, b4, b5, b6, b7⟩, y1, n0, m0, hLR, e1, e5, e6, e7, u1, u6, u7⟩ := lex_both hN (v := v1) (w := R_thrown_s w 0) hta
  have e1 : a1 = 0 := e1
  have e5 : a5 = nI (m0 + 1) := e5
  have e6 : a6 = 0 := e6
  have e7 : a7 = 0 := e7
  have u1 : b1 = 0 := u1
  have u6 : b6 = 0 := u6
  have u7 : b7 = 0 := u7
  subst e1 e5 e6 e7 u1 u6 u7
  obtain ⟨cb, f1, c1⟩ := fill_ev hN (n0 := 6) (v0 := Town_barred v5) (x := 0) (by decide)
  obtain ⟨cf, f2, c2⟩ := fill_ev hN (n0 := 4) (v0 := Laws_from v6) (x := 0) (by decide)
  obtain ⟨ct, f3, c3⟩ := fill_ev hN (n0 := 4) (v0 := Laws_to v6) (x := 0) (by decide)
  have hcl : f_Town_clear N v5 v6 = some (0, cb, 0, 50, 0, 0, cf, ct) := by
    unfold f_Town_clear f_Laws_clear
    refine bnd f1 ?_
    refine bnd (a := (0, cf, ct)) ?_ rfl
    exact bnd f2 (bnd f3 rfl)
  obtain ⟨ts, s1, s2, s3, s4, s5⟩ := stands_ev hN (w := R_s_thrown_taped_size_sort_place_value_at_fault_codes_readMany_hasSigned w 0 0 b2 b3 b4 b5 0 0 0 0 0) (b := 80) (by decide)
  have s1' : f_R_standsAsAlways N (R_s_thrown_taped_size_sort_place_value_at_fault_codes_readMany_hasSigned w 0 0 b2 b3 b4 b5 0 0 0 0 0) 80 = some ts := s1
  obtain ⟨w0, hw0⟩ : ∃ w0, w0 = R_s_thrown_taped_size_sort_place_value_at_fault_towns_codes_readMany_hasSigned w 0 0 b2 b3 b4 b5 0 0 ts 0 0 0 := ⟨_, rfl⟩
  have hLex : LexAt n0 m0 (Tape_s_length_tokens_places_values_tokenCount_at_fault v1 0 a2 a3 a4 (nI (m0 + 1)) 0 0) w0 := by
    rw [hw0]
    exact ⟨rfl, hLR, hW⟩
  have hm1000 := hLex.m1000
  have hd0 : DR 0 0 0 0 (Town_s_people_names_kinds_skills_purses_debts_homes_barred_bars_sign_signTold (Town_s_people_barred_bars_sign_signTold v5 0 cb 0 50 0) 0 (Town_names v5) (Town_kinds v5) (Town_skills v5) (Town_purses v5) (Town_debts v5) (Town_homes v5) cb 0 50 0) (Laws_s_codes_size_from_to (Laws_s_size_from_to v6 0 cf ct) (Laws_codes v6) 0 cf ct) ts (R_op w) (R_arg w) (R_readNames w) 0 0 := by
    refine ⟨⟨by decide, rfl, s5 0 (by decide) (by decide) (by decide), rfl, ⟨fun k hk => absurd hk (by omega), fun i k hi => absurd hi (by omega)⟩, fun l hl => absurd hl (by omega), fun l hl => absurd hl (by omega)⟩, ⟨(s5 1 (by decide) (by decide) (by decide)).symm, fun p l hp hl => Or.inl ⟨?_, ?_⟩⟩, ⟨⟨50, by decide, rfl, s3⟩, rfl, Or.inl rfl⟩, rfl, Or.inl rfl, Nat.le_refl _, fun k hk => ⟨⟨0, 0, c2 k hk, c3 k hk, Nat.le_refl _, by decide, fun q => absurd q (by decide)⟩, Or.inl ⟨?_, ?_⟩⟩⟩
    · rw [show 118 + 6 * p + l = 80 + (38 + 6 * p + l) by omega]
      exact s5 _ (by omega) (by omega) (by omega)
    · show ((cb p >>> (nI l &&& 31)) &&& 1) = 0
      rw [c1 p hp]
      exact zbit0 l hl
    · show ct k ≤ cf k
      rw [c2 k hk, c3 k hk]
      decide
    · exact s4 k hk
  obtain ⟨fk', j', f', pe', na', ki', sk', pu', de', ho', ba', bs', sg', st', cd', sz', fr', to', tw', op', ar', co', rn', rm', hs', fh', x2, y2, k1, k2, kF, k3⟩ := town_loop hN (v0 := v4) (v1 := Tape_s_length_tokens_places_values_tokenCount_at_fault v1 0 a2 a3 a4 (nI (m0 + 1)) 0 0) (v2 := Town_s_people_barred_bars_sign_signTold v5 0 cb 0 50 0) (v3 := Laws_s_size_from_to v6 0 cf ct) (w0 := w0) hLex (m0 + 2) N N 0 0 (Reader_factsKnown v4) 0 0 (Town_names v5) (Town_kinds v5) (Town_skills v5) (Town_purses v5) (Town_debts v5) (Town_homes v5) cb 0 50 0 (Laws_codes v6) 0 cf ct ts (R_op w) (R_arg w) 0 (R_readNames w) 0 0 (R_factsHere w) (Nat.zero_le _) (Or.inl rfl) (fun _ => ⟨0, 0, 0, rfl, hd0⟩) ⟨fun _ => ⟨by omega, Nat.le_refl _⟩, by omega, by omega⟩ (by omega) (by omega)
  have hrt : f_Reader_readTown N v4 v1 v5 v6 = some (f', fk', 0, a2, a3, a4, nI (m0 + 1), nI j', f', pe', na', ki', sk', pu', de', ho', ba', bs', sg', st', cd', sz', fr', to') := by
    unfold f_Reader_readTown
    refine bnd hcl ?_
    refine bnd x1 ?_
    exact bnd x2 rfl
  have hFr : FrD (R_towns w) (R_op w) (R_arg w) tw' op' ar' := FrD.trans ⟨fun i hi => s2 i (Or.inl (by omega)), fun _ _ => ⟨rfl, rfl⟩⟩ kF
  rw [hw0] at y2
  have y2' : f_R_town_L30 N N (R_s_thrown_taped_size_sort_place_value_at_fault_towns_codes_readMany_hasSigned w 0 0 b2 b3 b4 b5 0 0 ts 0 0 0) 0 0 ts (R_op w) (R_arg w) 0 (R_readNames w) 0 0 (R_factsHere w) = some (nI j', f', tw', op', ar', co', rn', rm', hs', fh') := y2
  rcases k2 with rfl | k2
  · -- all read
    obtain ⟨P', s', c', rfl, ⟨p1, p2, p3, p4, p5, p6, p7⟩, ⟨q1, q2⟩, ⟨⟨g', g1, g2, g3⟩, g4, g5⟩, z1, z2, z3, z4⟩ := k3 rfl
    have p2 : pe' = nI P' := p2
    have p4 : rm' = nI P' := p4
    have g2 : sg' = nI g' := g2
    have g4 : st' = hs' := g4
    have hs1000 : s' ≤ 1000 := by omega
    obtain ⟨T, t1, t2⟩ := copyT N (w := R_s_thrown_taped_size_sort_place_value_at_fault_towns_op_arg_codes_readNames_readMany_hasSigned_factsHere w 0 0 b2 b3 b4 b5 (nI j') 0 tw' op' ar' (nI c') rn' rm' hs' fh') 80 0 N tw' rfl (by omega)
    obtain ⟨⟨O, A⟩, o1, o2⟩ := copyE N (w := R_s_thrown_taped_size_sort_place_value_at_fault_towns_op_arg_codes_readNames_readMany_hasSigned_factsHere w 0 0 b2 b3 b4 b5 (nI j') 0 T op' ar' (nI c') rn' rm' hs' fh') (c := c') (by omega) rfl c' 0 N op' ar' (by omega) (by omega)
    obtain ⟨M, n1, n2⟩ := copyN N (w := R_s_thrown_taped_size_sort_place_value_at_fault_towns_op_arg_codes_readNames_readMany_hasSigned_factsHere w 0 0 b2 b3 b4 b5 (nI j') 0 T O A (nI c') rn' rm' hs' fh') (p := P') p1 p4 P' 0 N (R_names w) (by omega) (by omega)
    have hcp : f_Town_copyFrom N v2 v3 (Town_s_people_names_kinds_skills_purses_debts_homes_barred_bars_sign_signTold v5 pe' na' ki' sk' pu' de' ho' ba' bs' sg' st') (Laws_s_codes_size_from_to v6 cd' sz' fr' to') = some (pe', va_cpy na' (Town_names v2) 0 0 6, va_cpy ki' (Town_kinds v2) 0 0 6, va_cpy sk' (Town_skills v2) 0 0 6, va_cpy pu' (Town_purses v2) 0 0 6, va_cpy de' (Town_debts v2) 0 0 6, va_cpy ho' (Town_homes v2) 0 0 6, va_cpy ba' (Town_barred v2) 0 0 6, bs', sg', st', va_cpy cd' (Laws_codes v3) 0 0 1000, sz', va_cpy fr' (Laws_from v3) 0 0 4, va_cpy to' (Laws_to v3) 0 0 4) := by
      unfold f_Town_copyFrom
      refine zifp (by rw [show Town_signTold (Town_s_people_names_kinds_skills_purses_debts_homes_barred_bars_sign_signTold v5 pe' na' ki' sk' pu' de' ho' ba' bs' sg' st') = hs' from g4]; exact g5) ?_
      refine bnd (a := (va_cpy cd' (Laws_codes v3) 0 0 1000, sz', va_cpy fr' (Laws_from v3) 0 0 4, va_cpy to' (Laws_to v3) 0 0 4)) rfl ?_
      rfl
    have hT2 : townR (R_s_thrown_taped_size_sort_place_value_at_fault_towns_op_arg_codes_names_readNames_namesMany_readMany_hasSigned_factsHere w 0 0 b2 b3 b4 b5 (nI j') 0 T O A (nI c') M rn' rm' rm' hs' fh') (Town_s_people_names_kinds_skills_purses_debts_homes_barred_bars_sign_signTold v2 pe' (va_cpy na' (Town_names v2) 0 0 6) (va_cpy ki' (Town_kinds v2) 0 0 6) (va_cpy sk' (Town_skills v2) 0 0 6) (va_cpy pu' (Town_purses v2) 0 0 6) (va_cpy de' (Town_debts v2) 0 0 6) (va_cpy ho' (Town_homes v2) 0 0 6) (va_cpy ba' (Town_barred v2) 0 0 6) bs' sg' st') (Laws_s_codes_size_from_to v3 (va_cpy cd' (Laws_codes v3) 0 0 1000) sz' (va_cpy fr' (Laws_from v3) 0 0 4) (va_cpy to' (Laws_to v3) 0 0 4)) P' := by
      refine ⟨⟨p2, p1⟩, ((t2 0).1 (by omega) (by omega)).trans p3, fun l hl => ?_, fun k hk => ?_⟩
      · obtain ⟨d0, d1, d2, d3, d4⟩ := p6 l hl
        refine ⟨((t2 _).1 (by omega) (by omega)).trans ?_, ((t2 _).1 (by omega) (by omega)).trans ?_, ((t2 _).1 (by omega) (by omega)).trans ?_, ((t2 _).1 (by omega) (by omega)).trans ?_, ((t2 _).1 (by omega) (by omega)).trans ?_⟩
        · rw [show 80 + (8 + 5 * l + 0) = 88 + 5 * l + 0 by omega, d0]
          exact (cpyN _ _ (by omega)).symm
        · rw [show 80 + (8 + 5 * l + 1) = 88 + 5 * l + 1 by omega, d1]
          exact (cpyN _ _ (by omega)).symm
        · rw [show 80 + (8 + 5 * l + 2) = 88 + 5 * l + 2 by omega, d2]
          exact (cpyN _ _ (by omega)).symm
        · rw [show 80 + (8 + 5 * l + 3) = 88 + 5 * l + 3 by omega, d3]
          exact (cpyN _ _ (by omega)).symm
        · rw [show 80 + (8 + 5 * l + 4) = 88 + 5 * l + 4 by omega, d4]
          exact (cpyN _ _ (by omega)).symm
      · refine lawRel_made (z4 k hk) hs1000 (by omega) ?_ (fun i hi => (o2 i).1 (by omega) hi) (cpyN _ _ hk) (cpyN _ _ hk) (fun i hi => cpyN _ _ hi)
        rw [show 83 + k = 80 + (3 + k) by omega]
        exact (t2 (3 + k)).1 (by omega) (by omega)
    have hB2 : barR (R_s_thrown_taped_size_sort_place_value_at_fault_towns_op_arg_codes_names_readNames_namesMany_readMany_hasSigned_factsHere w 0 0 b2 b3 b4 b5 (nI j') 0 T O A (nI c') M rn' rm' rm' hs' fh') (Town_s_people_names_kinds_skills_purses_debts_homes_barred_bars_sign_signTold v2 pe' (va_cpy na' (Town_names v2) 0 0 6) (va_cpy ki' (Town_kinds v2) 0 0 6) (va_cpy sk' (Town_skills v2) 0 0 6) (va_cpy pu' (Town_purses v2) 0 0 6) (va_cpy de' (Town_debts v2) 0 0 6) (va_cpy ho' (Town_homes v2) 0 0 6) (va_cpy ba' (Town_barred v2) 0 0 6) bs' sg' st') P' := by
      refine ⟨q1.trans ((t2 1).1 (by omega) (by omega)).symm, fun p l hp hl => ?_⟩
      have hx : T (38 + 6 * p + l) = tw' (118 + 6 * p + l) := ((t2 _).1 (by omega) (by omega)).trans (congrArg tw' (by omega))
      show (T (38 + 6 * p + l) = 0 ∧ ((va_cpy ba' (Town_barred v2) 0 0 6 p >>> (nI l &&& 31)) &&& 1) = 0) ∨ (T (38 + 6 * p + l) = 1 ∧ ¬ ((va_cpy ba' (Town_barred v2) 0 0 6 p >>> (nI l &&& 31)) &&& 1) = 0)
      rw [hx, cpyN ba' (Town_barred v2) (show p < 6 by omega)]
      exact q2 p l (by omega) (by omega)
    have hD2 : toldR (Town_s_people_names_kinds_skills_purses_debts_homes_barred_bars_sign_signTold v2 pe' (va_cpy na' (Town_names v2) 0 0 6) (va_cpy ki' (Town_kinds v2) 0 0 6) (va_cpy sk' (Town_skills v2) 0 0 6) (va_cpy pu' (Town_purses v2) 0 0 6) (va_cpy de' (Town_debts v2) 0 0 6) (va_cpy ho' (Town_homes v2) 0 0 6) (va_cpy ba' (Town_barred v2) 0 0 6) bs' sg' st') P' := by
      intro l hl
      obtain ⟨⟨d1, d2, d3⟩, ⟨d4, d5, d6⟩, ⟨d7, d8, d9⟩, ⟨d10, d11, d12⟩⟩ := p7 l hl
      exact ⟨⟨d1, d2, (cpyN _ _ (by omega)).trans d3⟩, ⟨d4, d5, (cpyN _ _ (by omega)).trans d6⟩, ⟨d7, d8, (cpyN _ _ (by omega)).trans d9⟩, ⟨d10, d11, (cpyN _ _ (by omega)).trans d12⟩⟩
    have hN2 : nameR (R_s_thrown_taped_size_sort_place_value_at_fault_towns_op_arg_codes_names_readNames_namesMany_readMany_hasSigned_factsHere w 0 0 b2 b3 b4 b5 (nI j') 0 T O A (nI c') M rn' rm' rm' hs' fh') (Town_s_people_names_kinds_skills_purses_debts_homes_barred_bars_sign_signTold v2 pe' (va_cpy na' (Town_names v2) 0 0 6) (va_cpy ki' (Town_kinds v2) 0 0 6) (va_cpy sk' (Town_skills v2) 0 0 6) (va_cpy pu' (Town_purses v2) 0 0 6) (va_cpy de' (Town_debts v2) 0 0 6) (va_cpy ho' (Town_homes v2) 0 0 6) (va_cpy ba' (Town_barred v2) 0 0 6) bs' sg' st') P' := by
      refine ⟨p4, fun k hk => ?_, fun i k hi hk => ?_⟩
      · obtain ⟨ls, d1, d2, d3⟩ := p5.1 k hk
        exact ⟨ls, d1, (cpyN _ _ (by omega)).trans d2, ((n2 k).1 (by omega) hk).trans d3⟩
      · show va_cpy na' (Town_names v2) 0 0 6 i = va_cpy na' (Town_names v2) 0 0 6 k → i = k
        rw [cpyN na' (Town_names v2) (show i < 6 by omega), cpyN na' (Town_names v2) (show k < 6 by omega)]
        exact p5.2 i k hi hk
    obtain ⟨uq, uq1, uq2⟩ : ∃ q, q < 17 ∧ Bl_nextUndo v0 = nI q := by
      obtain ⟨u, q, -, d1, -, -, d2, -⟩ := hu
      exact ⟨q, d1, d2⟩
    obtain ⟨r, r1, q, r2, L', r3⟩ := m_begin hN (v0 := v0) (v1 := Tape_s_length_tokens_places_values_tokenCount_at_fault v1 0 a2 a3 a4 (nI (m0 + 1)) (nI j') 0) (v4 := Reader_factsKnown_s v4 fk') (v5 := Town_s_people_names_kinds_skills_purses_debts_homes_barred_bars_sign_signTold v5 pe' na' ki' sk' pu' de' ho' ba' bs' sg' st') (v6 := Laws_s_codes_size_from_to v6 cd' sz' fr' to') (v7 := v7) (v8 := v8) (v9 := v9) (v10 := v10) (v11 := v11) (v13 := v13) (v17 := v17) (v18 := v18) (v19 := v19) (v20 := v20) (und := und) (mls := mls) (mts := mts) (g := g') hT2 hB2 ⟨g1, g2, ((t2 2).1 (by omega) (by omega)).trans g3⟩ hD2 hN2 hW ⟨0, by omega, rfl, rfl, fun k hk => absurd hk (by omega)⟩ hf.2.2 ⟨uq, uq1, uq2⟩
    unfold f_Bl_town
    refine Ev.bnd hrt ?_
    refine Ev.ifp rfl ?_
    refine Ev.bnd hcp ?_
    refine Ev.bnd r1 ?_
    refine Ev.ret ?_
    unfold f_R_town
    refine Ev.bnd y1 ?_
    refine Ev.bnd s1' ?_
    refine Ev.bnd y2' ?_
    refine Ev.ifp (show (0 : Int32) ≤ 0 by decide) ?_
    refine Ev.bnd t1 ?_
    refine Ev.bnd o1 ?_
    refine Ev.bnd n1 ?_
    refine Ev.bnd r2 ?_
    exact Ev.ret ⟨rfl, rfl, P', L', g', r3⟩
  · -- a fault: the old town stands
    unfold f_Bl_town
    refine Ev.bnd hrt ?_
    refine Ev.ifn k2.ne ?_
    refine Ev.ret ?_
    unfold f_R_town
    refine Ev.bnd y1 ?_
    refine Ev.bnd s1' ?_
    refine Ev.bnd y2' ?_
    refine Ev.ifn k2.nle ?_
    obtain ⟨hT', hB', hG'⟩ := townR.fr (w' := R_s_thrown_taped_size_sort_place_value_at_fault_towns_op_arg_codes_names_readNames_namesMany_readMany_hasSigned_factsHere_lines_state_undos_isMarked_signed_lotRows_lotRow_lotsMany w 0 0 b2 b3 b4 b5 (nI j') f' tw' op' ar' co' (R_names w) rn' (R_namesMany w) rm' hs' fh' (R_lines w) (R_state w) (R_undos w) (R_isMarked w) (R_signed w) (R_lotRows w) (R_lotRow w) (R_lotsMany w)) hT hB hG hFr rfl
    exact Ev.ret ⟨rfl, rfl, P, L, g, ⟨hT', hB', hG', hD, hNm, hW⟩, hl, ⟨hR, hI⟩, ⟨0, by omega, rfl, rfl, fun k hk => absurd hk (by omega)⟩, htl, hu, hm, hpl, hf⟩
