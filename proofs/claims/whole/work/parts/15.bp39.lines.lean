/-! ===== one line of a TOWN, and all of them ===== -/
theorem tok_end {tk so : Int32} {va vr : Int64} (h : tokAny tk va so vr) : (so = 0 ↔ tk = 0) ∧ ¬ tk = 4 := by
  rcases h with (⟨ls, hl, rfl, rfl, -, rfl⟩ | ⟨x, hx, rfl, h1, h2, rfl⟩ | ⟨d, hd, hd2, rfl, rfl, rfl⟩ | ⟨rfl, rfl⟩) | ⟨rfl, rfl⟩
  · rcases kw_cases ls with e | ⟨k, hk, e⟩
    · rw [e]
      exact ⟨⟨fun q => absurd q (by decide), fun q => absurd q (by decide)⟩, by decide⟩
    · rw [e]
      refine ⟨⟨fun q => absurd q (by decide), fun q => ?_⟩, fun q => ?_⟩
      · have := (nI_eq (b := 0) (by omega) (by decide)).mp q
        omega
      · have := (nI_eq (b := 4) (by omega) (by decide)).mp q
        omega
  · exact ⟨⟨fun q => absurd q (by decide), fun q => absurd q (by decide)⟩, by decide⟩
  · have hr := isSg_rng d hd hd2
    refine ⟨⟨fun q => absurd q (by decide), fun q => ?_⟩, fun q => ?_⟩
    · have := (nI_eq (b := 0) (by omega) (by decide)).mp q
      omega
    · have := (nI_eq (b := 4) (by omega) (by decide)).mp q
      omega
  · exact ⟨⟨fun q => absurd q (by decide), fun q => absurd q (by decide)⟩, by decide⟩
  · exact ⟨⟨fun _ => rfl, fun _ => rfl⟩, by decide⟩
theorem DR.adv {j j' p s c : Nat} {v2 : VTown} {v3 : VLaws} {tw op ar : Nat → Int32} {rn : Nat → Int64} {rm hs : Int32} (h : DR j p s c v2 v3 tw op ar rn rm hs) (hj : j ≤ j') : DR j' p s c v2 v3 tw op ar rn rm hs := by
  obtain ⟨h1, h2, h3, h4, h5, h6, h7⟩ := h
  exact ⟨h1, h2, h3, h4, by omega, by omega, h7⟩
/-- the sign behind a line -/
theorem semi {N n m j1 : Nat} {f1 : Int32} {v1 : VTape} {w : VR} (h : LexAt n m v1 w) (hj : j1 ≤ m) (hf : f1 = 0 ∨ dead f1) (ra : R_at w = nI j1) (rf : R_fault w = f1) : ∃ j2 f2, f_Tape_expect N (Tape_s_at_fault v1 (nI j1) f1) 59 = some (nI j2, f2) ∧ f_R_takeSign N w 59 = some (nI j2, f2) ∧ j1 ≤ j2 ∧ j2 ≤ m ∧ (f2 = 0 ∨ dead f2) ∧ (f2 = 0 → f1 = 0) := by
  rcases hf with hf | hf
  · obtain ⟨⟨a1, a2⟩, e1, ⟨b1, b2⟩, e2, ⟨j3, k1, k2, k3, k4, k5, k6⟩, -⟩ := j_sign (N := N) (n := n) (m := m) (i := j1) (v := Tape_s_at_fault v1 (nI j1) f1) (w := w) h ⟨j1, Nat.le_refl _, hj, rfl, ra, rf.symm, Or.inl hf⟩ (c := 59) (by decide) (by decide)
    have k3' : a1 = nI j3 := k3
    have k4' : b1 = nI j3 := k4
    have k5' : a2 = b2 := k5
    subst k3' k4' k5'
    exact ⟨j3, a2, e1, e2, k1, k2, k6, fun _ => hf⟩
  · refine ⟨j1, f1, expect_B (v := Tape_s_at_fault v1 (nI j1) f1) hf (c := 59) (by decide) (by decide), ?_, Nat.le_refl _, hj, Or.inr hf, fun q => q⟩
    rw [takeSign_B (w := w) (by rw [rf]; exact hf), ra, rf]
theorem tline_both {N n m j p s c fuel : Nat} (hN : 10000 ≤ N) {v0 : VReader} {v1 : VTape} {v2 : VTown} {v3 : VLaws} {w0 : VR} {tw op ar : Nat → Int32} {rn : Nat → Int64} {rm hs fh : Int32} (h : LexAt n m v1 w0) (hj : j ≤ m) (ha : Tape_at v1 = nI j) (hf : Tape_fault v1 = 0) (h0 : ¬ Tape_tokens v1 j = 0) (hd : DR j p s c v2 v3 tw op ar rn rm hs) : ∃ fk j' f' pe na ki sk pu de ho ba bs sg st cd sz fr to tw' op' ar' co' rn' rm' hs' fh', f_Reader_readLine N v0 v1 v2 v3 = some (fk, nI j', f', pe, na, ki, sk, pu, de, ho, ba, bs, sg, st, cd, sz, fr, to) ∧ f_R_town_L30 N (fuel + 1) w0 (nI j) 0 tw op ar (nI c) rn rm hs fh = f_R_town_L30 N fuel w0 (nI j') f' tw' op' ar' co' rn' rm' hs' fh' ∧ j ≤ j' ∧ j' ≤ m ∧ (f' = 0 ∨ dead f') ∧ FrD tw op ar tw' op' ar' ∧ (f' = 0 → j < j' ∧ ∃ p' s' c', co' = nI c' ∧ DR j' p' s' c' (Town_s_people_names_kinds_skills_purses_debts_homes_barred_bars_sign_signTold v2 pe na ki sk pu de ho ba bs sg st) (Laws_s_codes_size_from_to v3 cd sz fr to) tw' op' ar' rn' rm' hs') := by
  have hm := h.m1000
  have hso : ¬ R_sort w0 j = 0 := fun q => h0 ((tok_end (h.tok hj).1).1.mp q)
  have htk := token_A (N := N) h hj ha hf
  have hw0 : ∀ k, k < 27 → f_R_isWord N (R_s_at_fault_towns_op_arg_codes_readNames_readMany_hasSigned_factsHere w0 (nI j) 0 tw op ar (nI c) rn rm hs fh) (nI k) = some (bI (decide (Tape_tokens v1 j = nI (128 + k)))) := fun k hk => rword_A (w := R_s_at_fault_towns_op_arg_codes_readNames_readMany_hasSigned_factsHere w0 (nI j) 0 tw op ar (nI c) rn rm hs fh) h hj rfl rfl hk
  by_cases c0 : Tape_tokens v1 j = nI (128 + 0)
  · obtain ⟨j1, f1, pe, na, ki, sk, pu, de, ho, tw1, rn1, rm1, x1, y1, g1, g2, g3, gF, g4⟩ := j_personLine (v0 := v0) (w := R_s_at_fault_towns_op_arg_codes_readNames_readMany_hasSigned_factsHere w0 (nI j) 0 tw op ar (nI c) rn rm hs fh) hN h hj ha hf rfl rfl c0 hd
    obtain ⟨j2, f2, x2, y2, k1, k2, k3, k4⟩ := semi (N := N) (v1 := v1) (w := R_s_at_fault_towns_op_arg_codes_readNames_readMany_hasSigned_factsHere w0 (nI j1) f1 tw1 op ar (nI c) rn1 rm1 hs fh) h g2 g3 rfl rfl
    refine ⟨Reader_factsKnown v0, j2, f2, pe, na, ki, sk, pu, de, ho, Town_barred v2, Town_bars v2, Town_sign v2, Town_signTold v2, Laws_codes v3, Laws_size v3, Laws_from v3, Laws_to v3, tw1, op, ar, nI c, rn1, rm1, hs, fh, ?_, ?_, by omega, k2, k3, gF, fun q => ?_⟩
    · unfold f_Reader_readLine
      refine bnd htk ?_
      refine zifp c0 ?_
      refine bnd x1 ?_
      exact bnd x2 rfl
    · show _ = _
      rw [f_R_town_L30]
      refine zifp rfl ?_
      rw [nI_clamp (n := j) (by omega)]
      refine zifn (t_ix h hj).2 ?_
      refine zifn hso ?_
      refine bnd ((hw0 0 (by decide)).trans (by rw [decide_eq_true c0])) ?_
      refine zifn (by decide) ?_
      refine bnd y1 ?_
      exact bnd y2 rfl
    · obtain ⟨q1, p', q2⟩ := g4 (k4 q)
      exact ⟨by omega, p', s, c, rfl, q2.adv k1⟩
  have i0 := (hw0 0 (by decide)).trans (by rw [decide_eq_false c0])
  have c0' : ¬ Tape_tokens v1 j = 128 := c0
  by_cases c5 : Tape_tokens v1 j = nI (128 + 5)
  · obtain ⟨j1, f1, ba, bs, tw1, x1, y1, g1, g2, g3, gF, g4⟩ := j_barLine (v0 := v0) (w := R_s_at_fault_towns_op_arg_codes_readNames_readMany_hasSigned_factsHere w0 (nI j) 0 tw op ar (nI c) rn rm hs fh) hN h hj ha hf rfl rfl c5 hd
    obtain ⟨j2, f2, x2, y2, k1, k2, k3, k4⟩ := semi (N := N) (v1 := v1) (w := R_s_at_fault_towns_op_arg_codes_readNames_readMany_hasSigned_factsHere w0 (nI j1) f1 tw1 op ar (nI c) rn rm hs fh) h g2 g3 rfl rfl
    refine ⟨Reader_factsKnown v0, j2, f2, Town_people v2, Town_names v2, Town_kinds v2, Town_skills v2, Town_purses v2, Town_debts v2, Town_homes v2, ba, bs, Town_sign v2, Town_signTold v2, Laws_codes v3, Laws_size v3, Laws_from v3, Laws_to v3, tw1, op, ar, nI c, rn, rm, hs, fh, ?_, ?_, by omega, k2, k3, gF, fun q => ?_⟩
    · unfold f_Reader_readLine
      refine bnd htk ?_
      refine zifn c0' ?_
      refine zifp c5 ?_
      refine bnd x1 ?_
      exact bnd x2 rfl
    · show _ = _
      rw [f_R_town_L30]
      refine zifp rfl ?_
      rw [nI_clamp (n := j) (by omega)]
      refine zifn (t_ix h hj).2 ?_
      refine zifn hso ?_
      refine bnd i0 ?_
      refine zifp rfl ?_
      refine bnd ((hw0 5 (by decide)).trans (by rw [decide_eq_true c5])) ?_
      refine zifn (by decide) ?_
      refine bnd y1 ?_
      exact bnd y2 rfl
    · obtain ⟨q1, q2⟩ := g4 (k4 q)
      exact ⟨by omega, p, s, c, rfl, q2.adv k1⟩
  have i5 := (hw0 5 (by decide)).trans (by rw [decide_eq_false c5])
  have c5' : ¬ Tape_tokens v1 j = 133 := c5
  by_cases c6 : Tape_tokens v1 j = 134
  · obtain ⟨j1, f1, sg, st, tw1, hs1, x1, y1, g1, g2, g3, gF, g4⟩ := j_signLine (v0 := v0) (w := R_s_at_fault_towns_op_arg_codes_readNames_readMany_hasSigned_factsHere w0 (nI j) 0 tw op ar (nI c) rn rm hs fh) (N := N) h hj ha hf rfl rfl c6 hd
    obtain ⟨j2, f2, x2, y2, k1, k2, k3, k4⟩ := semi (N := N) (v1 := v1) (w := R_s_at_fault_towns_op_arg_codes_readNames_readMany_hasSigned_factsHere w0 (nI j1) f1 tw1 op ar (nI c) rn rm hs1 fh) h g2 g3 rfl rfl
    refine ⟨Reader_factsKnown v0, j2, f2, Town_people v2, Town_names v2, Town_kinds v2, Town_skills v2, Town_purses v2, Town_debts v2, Town_homes v2, Town_barred v2, Town_bars v2, sg, st, Laws_codes v3, Laws_size v3, Laws_from v3, Laws_to v3, tw1, op, ar, nI c, rn, rm, hs1, fh, ?_, ?_, by omega, k2, k3, gF, fun q => ?_⟩
    · unfold f_Reader_readLine
      refine bnd htk ?_
      refine zifn c0' ?_
      refine zifn c5' ?_
      refine zifp c6 ?_
      refine bnd x1 ?_
      exact bnd x2 rfl
    · show _ = _
      rw [f_R_town_L30]
      refine zifp rfl ?_
      rw [nI_clamp (n := j) (by omega)]
      refine zifn (t_ix h hj).2 ?_
      refine zifn hso ?_
      refine bnd i0 ?_
      refine zifp rfl ?_
      refine bnd i5 ?_
      refine zifp rfl ?_
      refine bnd y1 ?_
      exact bnd y2 rfl
    · obtain ⟨q1, q2⟩ := g4 (k4 q)
      exact ⟨by omega, p, s, c, rfl, q2.adv k1⟩
  by_cases c20 : Tape_tokens v1 j = nI (135 + 0)
  · obtain ⟨j1, s1, c1, f1, cd1, op1, ar1, tw1, fr1, to1, fk1, fh1, x1, y1, g1, g2, g3, gF, g4⟩ := j_lawLine (v0 := v0) (w := R_s_at_fault_towns_op_arg_codes_readNames_readMany_hasSigned_factsHere w0 (nI j) 0 tw op ar (nI c) rn rm hs fh) (k := 0) hN h hj ha hf rfl rfl (by decide) c20 rfl hd
    obtain ⟨j2, f2, x2, y2, k1, k2, k3, k4⟩ := semi (N := N) (v1 := v1) (w := R_s_at_fault_towns_op_arg_codes_readNames_readMany_hasSigned_factsHere w0 (nI j1) f1 tw1 op1 ar1 (nI c1) rn rm hs fh1) h g2 g3 rfl rfl
    refine ⟨fk1, j2, f2, Town_people v2, Town_names v2, Town_kinds v2, Town_skills v2, Town_purses v2, Town_debts v2, Town_homes v2, Town_barred v2, Town_bars v2, Town_sign v2, Town_signTold v2, cd1, nI s1, fr1, to1, tw1, op1, ar1, nI c1, rn, rm, hs, fh1, ?_, ?_, by omega, k2, k3, gF, fun q => ?_⟩
    · unfold f_Reader_readLine
      refine bnd htk ?_
      rw [c20]
      refine zifn (by decide) ?_
      refine zifn (by decide) ?_
      refine zifn (by decide) ?_
      refine zifp rfl ?_
      rw [show (nI (135 + 0) - 135 : Int32) = nI 0 by decide]
      refine bnd x1 ?_
      exact bnd x2 rfl
    · show _ = _
      rw [f_R_town_L30]
      refine zifp rfl ?_
      rw [nI_clamp (n := j) (by omega)]
      refine zifn (t_ix h hj).2 ?_
      refine zifn hso ?_
      refine bnd i0 ?_
      refine zifp rfl ?_
      refine bnd i5 ?_
      refine zifp rfl ?_
      refine bnd y1 ?_
      exact bnd y2 rfl
    · obtain ⟨q1, q2⟩ := g4 (k4 q)
      exact ⟨by omega, p, s1, c1, rfl, q2.adv k1⟩
  by_cases c21 : Tape_tokens v1 j = nI (135 + 1)
  · obtain ⟨j1, s1, c1, f1, cd1, op1, ar1, tw1, fr1, to1, fk1, fh1, x1, y1, g1, g2, g3, gF, g4⟩ := j_lawLine (v0 := v0) (w := R_s_at_fault_towns_op_arg_codes_readNames_readMany_hasSigned_factsHere w0 (nI j) 0 tw op ar (nI c) rn rm hs fh) (k := 1) hN h hj ha hf rfl rfl (by decide) c21 rfl hd
    obtain ⟨j2, f2, x2, y2, k1, k2, k3, k4⟩ := semi (N := N) (v1 := v1) (w := R_s_at_fault_towns_op_arg_codes_readNames_readMany_hasSigned_factsHere w0 (nI j1) f1 tw1 op1 ar1 (nI c1) rn rm hs fh1) h g2 g3 rfl rfl
    refine ⟨fk1, j2, f2, Town_people v2, Town_names v2, Town_kinds v2, Town_skills v2, Town_purses v2, Town_debts v2, Town_homes v2, Town_barred v2, Town_bars v2, Town_sign v2, Town_signTold v2, cd1, nI s1, fr1, to1, tw1, op1, ar1, nI c1, rn, rm, hs, fh1, ?_, ?_, by omega, k2, k3, gF, fun q => ?_⟩
    · unfold f_Reader_readLine
      refine bnd htk ?_
      rw [c21]
      refine zifn (by decide) ?_
      refine zifn (by decide) ?_
      refine zifn (by decide) ?_
      refine zifn (by decide) ?_
      refine zifp rfl ?_
      rw [show (nI (135 + 1) - 135 : Int32) = nI 1 by decide]
      refine bnd x1 ?_
      exact bnd x2 rfl
    · show _ = _
      rw [f_R_town_L30]
      refine zifp rfl ?_
      rw [nI_clamp (n := j) (by omega)]
      refine zifn (t_ix h hj).2 ?_
      refine zifn hso ?_
      refine bnd i0 ?_
      refine zifp rfl ?_
      refine bnd i5 ?_
      refine zifp rfl ?_
      refine bnd y1 ?_
      exact bnd y2 rfl
    · obtain ⟨q1, q2⟩ := g4 (k4 q)
      exact ⟨by omega, p, s1, c1, rfl, q2.adv k1⟩
  by_cases c22 : Tape_tokens v1 j = nI (135 + 2)
  · obtain ⟨j1, s1, c1, f1, cd1, op1, ar1, tw1, fr1, to1, fk1, fh1, x1, y1, g1, g2, g3, gF, g4⟩ := j_lawLine (v0 := v0) (w := R_s_at_fault_towns_op_arg_codes_readNames_readMany_hasSigned_factsHere w0 (nI j) 0 tw op ar (nI c) rn rm hs fh) (k := 2) hN h hj ha hf rfl rfl (by decide) c22 rfl hd
    obtain ⟨j2, f2, x2, y2, k1, k2, k3, k4⟩ := semi (N := N) (v1 := v1) (w := R_s_at_fault_towns_op_arg_codes_readNames_readMany_hasSigned_factsHere w0 (nI j1) f1 tw1 op1 ar1 (nI c1) rn rm hs fh1) h g2 g3 rfl rfl
    refine ⟨fk1, j2, f2, Town_people v2, Town_names v2, Town_kinds v2, Town_skills v2, Town_purses v2, Town_debts v2, Town_homes v2, Town_barred v2, Town_bars v2, Town_sign v2, Town_signTold v2, cd1, nI s1, fr1, to1, tw1, op1, ar1, nI c1, rn, rm, hs, fh1, ?_, ?_, by omega, k2, k3, gF, fun q => ?_⟩
    · unfold f_Reader_readLine
      refine bnd htk ?_
      rw [c22]
      refine zifn (by decide) ?_
      refine zifn (by decide) ?_
      refine zifn (by decide) ?_
      refine zifn (by decide) ?_
      refine zifn (by decide) ?_
      refine zifp rfl ?_
      rw [show (nI (135 + 2) - 135 : Int32) = nI 2 by decide]
      refine bnd x1 ?_
      exact bnd x2 rfl
    · show _ = _
      rw [f_R_town_L30]
      refine zifp rfl ?_
      rw [nI_clamp (n := j) (by omega)]
      refine zifn (t_ix h hj).2 ?_
      refine zifn hso ?_
      refine bnd i0 ?_
      refine zifp rfl ?_
      refine bnd i5 ?_
      refine zifp rfl ?_
      refine bnd y1 ?_
      exact bnd y2 rfl
    · obtain ⟨q1, q2⟩ := g4 (k4 q)
      exact ⟨by omega, p, s1, c1, rfl, q2.adv k1⟩
  by_cases c23 : Tape_tokens v1 j = nI (135 + 3)
  · obtain ⟨j1, s1, c1, f1, cd1, op1, ar1, tw1, fr1, to1, fk1, fh1, x1, y1, g1, g2, g3, gF, g4⟩ := j_lawLine (v0 := v0) (w := R_s_at_fault_towns_op_arg_codes_readNames_readMany_hasSigned_factsHere w0 (nI j) 0 tw op ar (nI c) rn rm hs fh) (k := 3) hN h hj ha hf rfl rfl (by decide) c23 rfl hd
    obtain ⟨j2, f2, x2, y2, k1, k2, k3, k4⟩ := semi (N := N) (v1 := v1) (w := R_s_at_fault_towns_op_arg_codes_readNames_readMany_hasSigned_factsHere w0 (nI j1) f1 tw1 op1 ar1 (nI c1) rn rm hs fh1) h g2 g3 rfl rfl
    refine ⟨fk1, j2, f2, Town_people v2, Town_names v2, Town_kinds v2, Town_skills v2, Town_purses v2, Town_debts v2, Town_homes v2, Town_barred v2, Town_bars v2, Town_sign v2, Town_signTold v2, cd1, nI s1, fr1, to1, tw1, op1, ar1, nI c1, rn, rm, hs, fh1, ?_, ?_, by omega, k2, k3, gF, fun q => ?_⟩
    · unfold f_Reader_readLine
      refine bnd htk ?_
      rw [c23]
      refine zifn (by decide) ?_
      refine zifn (by decide) ?_
      refine zifn (by decide) ?_
      refine zifn (by decide) ?_
      refine zifn (by decide) ?_
      refine zifn (by decide) ?_
      refine zifp rfl ?_
      rw [show (nI (135 + 3) - 135 : Int32) = nI 3 by decide]
      refine bnd x1 ?_
      exact bnd x2 rfl
    · show _ = _
      rw [f_R_town_L30]
      refine zifp rfl ?_
      rw [nI_clamp (n := j) (by omega)]
      refine zifn (t_ix h hj).2 ?_
      refine zifn hso ?_
      refine bnd i0 ?_
      refine zifp rfl ?_
      refine bnd i5 ?_
      refine zifp rfl ?_
      refine bnd y1 ?_
      exact bnd y2 rfl
    · obtain ⟨q1, q2⟩ := g4 (k4 q)
      exact ⟨by omega, p, s1, c1, rfl, q2.adv k1⟩
  -- no line
  have i6 : f_R_isWord N (R_s_at_fault_towns_op_arg_codes_readNames_readMany_hasSigned_factsHere w0 (nI j) 0 tw op ar (nI c) rn rm hs fh) 6 = some (bI false) := (hw0 6 (by decide)).trans (by rw [decide_eq_false (show ¬ Tape_tokens v1 j = nI (128 + 6) from c6)])
  obtain ⟨F, hF, w1, w2⟩ := wrong_A (N := N) (w := R_s_at_fault_towns_op_arg_codes_readNames_readMany_hasSigned_factsHere w0 (nI j) 0 tw op ar (nI c) rn rm hs fh) h hj ha hf rfl rfl (k := 1) (by decide) (by decide)
  have iw : f_R_wordHere N (R_s_at_fault_towns_op_arg_codes_readNames_readMany_hasSigned_factsHere w0 (nI j) 0 tw op ar (nI c) rn rm hs fh) 7 4 = some (-1) := by
    refine (show f_R_wordHere N (R_s_at_fault_towns_op_arg_codes_readNames_readMany_hasSigned_factsHere w0 (nI j) 0 tw op ar (nI c) rn rm hs fh) 7 4 = _ from rwh_A (f := 7) (mn := 4) (v := v1) (w := R_s_at_fault_towns_op_arg_codes_readNames_readMany_hasSigned_factsHere w0 (nI j) 0 tw op ar (nI c) rn rm hs fh) (j := j) hN h hj rfl rfl (by omega)).trans ?_
    rcases whN_rng (Tape_tokens v1 j) 7 4 with ⟨h1, h2⟩ | ⟨i, h1, h2, h3⟩
    · rw [h1]
    · have : i = 0 ∨ i = 1 ∨ i = 2 ∨ i = 3 := by omega
      rcases this with rfl | rfl | rfl | rfl
      · exact absurd h3 c20
      · exact absurd h3 c21
      · exact absurd h3 c22
      · exact absurd h3 c23
  refine ⟨Reader_factsKnown v0, j, F, Town_people v2, Town_names v2, Town_kinds v2, Town_skills v2, Town_purses v2, Town_debts v2, Town_homes v2, Town_barred v2, Town_bars v2, Town_sign v2, Town_signTold v2, Laws_codes v3, Laws_size v3, Laws_from v3, Laws_to v3, tw, op, ar, nI c, rn, rm, hs, fh, ?_, ?_, Nat.le_refl _, hj, Or.inr hF, FrD.refl _ _ _, fun q => absurd q hF.ne⟩
  · unfold f_Reader_readLine
    refine bnd htk ?_
    refine zifn c0' ?_
    refine zifn c5' ?_
    refine zifn c6 ?_
    refine zifn c20 ?_
    refine zifn c21 ?_
    refine zifn c22 ?_
    refine zifn c23 ?_
    refine bnd w1 ?_
    refine bnd (expect_B (v := Tape_fault_s v1 F) hF (c := 59) (by decide) (by decide)) ?_
    show some (_, Tape_at v1, F, _) = _
    rw [ha]
  · show _ = _
    rw [f_R_town_L30]
    refine zifp rfl ?_
    rw [nI_clamp (n := j) (by omega)]
    refine zifn (t_ix h hj).2 ?_
    refine zifn hso ?_
    refine bnd i0 ?_
    refine zifp rfl ?_
    refine bnd i5 ?_
    refine zifp rfl ?_
    refine bnd (a := (nI j, F, tw, op, ar, nI c, hs, fh)) ?_ ?_
    · unfold f_R_readOnce
      refine bnd i6 ?_
      refine zifp rfl ?_
      refine bnd iw ?_
      refine zifn (by decide) ?_
      refine bnd w2 ?_
      exact zifn hF.nle rfl
    · refine bnd (takeSign_B (w := R_s_at_fault_towns_op_arg_codes_readNames_readMany_hasSigned_factsHere w0 (nI j) F tw op ar (nI c) rn rm hs fh) hF) ?_
      rfl
theorem town_loop {N n m : Nat} (hN : 10000 ≤ N) {v0 : VReader} {v1 : VTape} {v2 : VTown} {v3 : VLaws} {w0 : VR} (h : LexAt n m v1 w0) : ∀ (k fuel fuel' x j : Nat) (fk f pe : Int32) (na : Nat → Int64) (ki sk pu de ho ba : Nat → Int32) (bs sg st : Int32) (cd : Nat → Int32) (sz : Int32) (fr to tw op ar : Nat → Int32) (co : Int32) (rn : Nat → Int64) (rm hs fh : Int32), j ≤ m → (f = 0 ∨ dead f) → (f = 0 → ∃ p s c, co = nI c ∧ DR j p s c (Town_s_people_names_kinds_skills_purses_debts_homes_barred_bars_sign_signTold v2 pe na ki sk pu de ho ba bs sg st) (Laws_s_codes_size_from_to v3 cd sz fr to) tw op ar rn rm hs) → ((f = 0 → m + 1 < j + k ∧ x ≤ j) ∧ 1 ≤ k ∧ x ≤ 1000) → k ≤ fuel → k ≤ fuel' → ∃ fk' j' f' pe' na' ki' sk' pu' de' ho' ba' bs' sg' st' cd' sz' fr' to' tw' op' ar' co' rn' rm' hs' fh', f_Reader_readTown_L16 N fuel v0 v1 v2 v3 (nI x) fk (nI j) f pe na ki sk pu de ho ba bs sg st cd sz fr to = some (fk', nI j', f', pe', na', ki', sk', pu', de', ho', ba', bs', sg', st', cd', sz', fr', to') ∧ f_R_town_L30 N fuel' w0 (nI j) f tw op ar co rn rm hs fh = some (nI j', f', tw', op', ar', co', rn', rm', hs', fh') ∧ j' ≤ m ∧ (f' = 0 ∨ dead f') ∧ FrD tw op ar tw' op' ar' ∧ (f' = 0 → ∃ p s c, co' = nI c ∧ DR j' p s c (Town_s_people_names_kinds_skills_purses_debts_homes_barred_bars_sign_signTold v2 pe' na' ki' sk' pu' de' ho' ba' bs' sg' st') (Laws_s_codes_size_from_to v3 cd' sz' fr' to') tw' op' ar' rn' rm' hs')
  | 0, _, _, _, j, _, _, _, _, _, _, _, _, _, _, _, _, _, _, _, _, _, _, _, _, _, _, _, _, _, hj, _, _, hk, _, _ => absurd hk.2.1 (by omega)
  | k + 1, 0, _, _, _, _, _, _, _, _, _, _, _, _, _, _, _, _, _, _, _, _, _, _, _, _, _, _, _, _, _, _, _, _, h1, _ => absurd h1 (by omega)
  | k + 1, _, 0, _, _, _, _, _, _, _, _, _, _, _, _, _, _, _, _, _, _, _, _, _, _, _, _, _, _, _, _, _, _, _, _, h1 => absurd h1 (by omega)
  | k + 1, fuel + 1, fuel' + 1, x, j, fk, f, pe, na, ki, sk, pu, de, ho, ba, bs, sg, st, cd, sz, fr, to, tw, op, ar, co, rn, rm, hs, fh, hj, hf, hd, hk, h1, h2 => by
    have hx := hk.2.2
    have hm := h.m1000
    have nx : ¬ 1000 < nI x := nltF (L := 1000) (a := 1000) rfl (by omega) (by omega)
    rcases hf with rfl | hf
    · have htk := token_A (N := N) (v := Tape_s_at_fault v1 (nI j) 0) h hj rfl rfl
      by_cases c0 : Tape_tokens v1 j = 0
      · refine ⟨fk, j, 0, pe, na, ki, sk, pu, de, ho, ba, bs, sg, st, cd, sz, fr, to, tw, op, ar, co, rn, rm, hs, fh, ?_, ?_, hj, Or.inl rfl, FrD.refl _ _ _, hd⟩
        · rw [f_Reader_readTown_L16]
          refine zifn nx ?_
          refine bnd (a := 0) ?_ (zifp rfl rfl)
          unfold f_Tape_goesOn
          refine bnd htk ?_
          exact zifp c0 rfl
        · rw [f_R_town_L30]
          refine zifp rfl ?_
          rw [nI_clamp (n := j) (by omega)]
          refine zifn (t_ix h hj).2 ?_
          exact zifp ((tok_end (h.tok hj).1).1.mpr c0) rfl
      · obtain ⟨p, s, c, rfl, hd2⟩ := hd rfl
        obtain ⟨fk1, j1, f1, pe1, na1, ki1, sk1, pu1, de1, ho1, ba1, bs1, sg1, st1, cd1, sz1, fr1, to1, tw1, op1, ar1, co1, rn1, rm1, hs1, fh1, x1, y1, g1, g2, g3, gF, g4⟩ := tline_both (N := N) (fuel := fuel') (v0 := Reader_factsKnown_s v0 fk) (v1 := Tape_s_at_fault v1 (nI j) 0) (v2 := Town_s_people_names_kinds_skills_purses_debts_homes_barred_bars_sign_signTold v2 pe na ki sk pu de ho ba bs sg st) (v3 := Laws_s_codes_size_from_to v3 cd sz fr to) (w0 := w0) (fh := fh) hN h hj rfl rfl c0 hd2
        have hgo : f_Tape_goesOn N (Tape_s_at_fault v1 (nI j) 0) = some 1 := by
          unfold f_Tape_goesOn
          refine bnd htk ?_
          refine zifn c0 ?_
          exact zifn (tok_end (h.tok hj).1).2 rfl
        obtain ⟨hk1, hk2⟩ := hk.1 rfl
        have hlt : j < m := tk_lt h hj c0
        obtain ⟨fk2, j2, f2, pe2, na2, ki2, sk2, pu2, de2, ho2, ba2, bs2, sg2, st2, cd2, sz2, fr2, to2, tw2, op2, ar2, co2, rn2, rm2, hs2, fh2, x2, y2, r2a, r2b, r2F, r2c⟩ := town_loop hN (v0 := v0) (v2 := v2) (v3 := v3) h k fuel fuel' (x + 1) j1 fk1 f1 pe1 na1 ki1 sk1 pu1 de1 ho1 ba1 bs1 sg1 st1 cd1 sz1 fr1 to1 tw1 op1 ar1 co1 rn1 rm1 hs1 fh1 g2 g3 (fun q => (g4 q).2) ⟨fun q => by have := (g4 q).1; omega, by omega, by omega⟩ (by omega) (by omega)
        refine ⟨fk2, j2, f2, pe2, na2, ki2, sk2, pu2, de2, ho2, ba2, bs2, sg2, st2, cd2, sz2, fr2, to2, tw2, op2, ar2, co2, rn2, rm2, hs2, fh2, ?_, ?_, r2a, r2b, gF.trans r2F, r2c⟩
        · rw [f_Reader_readTown_L16]
          refine zifn nx ?_
          refine bnd hgo ?_
          refine zifn (by decide) ?_
          refine bnd x1 ?_
          rw [show nI x + 1 = nI (x + 1) from nI_1 x]
          exact x2
        · exact y1.trans y2
    · refine ⟨fk, j, f, pe, na, ki, sk, pu, de, ho, ba, bs, sg, st, cd, sz, fr, to, tw, op, ar, co, rn, rm, hs, fh, ?_, ?_, hj, Or.inr hf, FrD.refl _ _ _, hd⟩
      · rw [f_Reader_readTown_L16]
        refine zifn nx ?_
        refine bnd (a := 0) ?_ (zifp rfl rfl)
        unfold f_Tape_goesOn
        refine bnd (token_B (v := Tape_s_at_fault v1 (nI j) f) hf) ?_
        refine zifn (by decide) ?_
        exact zifp rfl rfl
      · rw [f_R_town_L30]
        exact zifn hf.ne rfl
