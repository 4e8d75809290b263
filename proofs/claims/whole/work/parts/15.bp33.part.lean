/-! ===== one part of an E ===== -/
theorem z9_no {F q : Int32} (h : q = (-1)) : (if q < 0 then (-1) else (if ((F >>> (q &&& 31)) &&& 1) = 1 then q else (-1))) = (-1 : Int32) := by
  rw [h]
  exact if_pos (by decide)
theorem z9_yes {nf y : Nat} (hnf : nf = 3 ∨ nf = 5) (hy : y < nf) : (if nI y < 0 then (-1) else (if ((maskOf nf >>> (nI y &&& 31)) &&& 1) = 1 then nI y else (-1))) = nI y := by
  rw [if_neg (nI_pos (by omega))]
  refine if_pos ?_
  rcases hnf with rfl | rfl
  · have h3 : ∀ y, y < 3 → ((maskOf 3 >>> (nI y &&& 31)) &&& 1) = 1 := by decide +kernel
    exact h3 y hy
  · have h5 : ∀ y, y < 5 → ((maskOf 5 >>> (nI y &&& 31)) &&& 1) = 1 := by decide +kernel
    exact h5 y hy
theorem z9_out {nf y : Nat} (hnf : nf = 3 ∨ nf = 5) (hy : nf ≤ y) (hy5 : y < 5) : (if nI y < 0 then (-1) else (if ((maskOf nf >>> (nI y &&& 31)) &&& 1) = 1 then nI y else (-1))) = (-1 : Int32) := by
  rw [if_neg (nI_pos (by omega))]
  refine if_neg ?_
  rcases hnf with rfl | rfl
  · have h3 : ∀ y, y < 5 → 3 ≤ y → ¬ ((maskOf 3 >>> (nI y &&& 31)) &&& 1) = 1 := by decide +kernel
    exact h3 y hy5 hy
  · omega
theorem z9_none {nf : Nat} {t : Int32} (hnf : nf = 3 ∨ nf = 5) (h : ∀ y, y < nf → ¬ t = nI (150 + y)) : (if whN t 22 5 < 0 then (-1) else (if ((maskOf nf >>> (whN t 22 5 &&& 31)) &&& 1) = 1 then whN t 22 5 else (-1))) = (-1 : Int32) := by
  rcases whN_rng t 22 5 with ⟨h1, -⟩ | ⟨i, h1, h2, h3⟩
  · exact z9_no h1
  · rw [h2]
    refine z9_out hnf ?_ h1
    refine Nat.le_of_not_lt (fun q => h i q ?_)
    rw [h3]
    exact congrArg nI (by omega)
theorem z9_some {nf y : Nat} {t : Int32} (hnf : nf = 3 ∨ nf = 5) (hy : y < nf) (h : t = nI (150 + y)) : (if whN t 22 5 < 0 then (-1) else (if ((maskOf nf >>> (whN t 22 5 &&& 31)) &&& 1) = 1 then whN t 22 5 else (-1))) = nI y := by
  have e : whN t 22 5 = nI y := by
    rcases whN_rng t 22 5 with ⟨-, h2⟩ | ⟨i, h1, h2, h3⟩
    · exact absurd (h.trans (congrArg nI (by omega))) (h2 y (by omega))
    · rw [h] at h3
      have := (nI_eq (by omega) (by omega)).mp h3
      rw [h2]
      exact congrArg nI (by omega)
  rw [e]
  exact z9_yes hnf hy
/-- below 150: no fact -/
theorem z5_no {nf : Nat} {t : Int32} (h : t < 150) : (if t < 150 then 0 else (if (150 + nI nf) ≤ t then 0 else 1)) = (0 : Int32) := if_pos h
theorem z5_yes {nf y : Nat} (hnf : nf ≤ 5) (hy : y < nf) : (if nI (150 + y) < 150 then 0 else (if (150 + nI nf) ≤ nI (150 + y) then 0 else 1)) = (1 : Int32) := by
  rw [if_neg (nltR (L := 150) (b := 150) rfl (by omega) (by omega)), show (150 : Int32) + nI nf = nI (150 + nf) by rw [show (150 : Int32) = nI 150 from rfl, nI_add], if_neg (nI_ge (by omega) (by omega))]
theorem z5_none {nf : Nat} {t : Int32} (hnf : nf ≤ 5) (h : ∀ y, y < nf → ¬ t = nI (150 + y)) : (if t < 150 then 0 else (if (150 + nI nf) ≤ t then 0 else 1)) = (0 : Int32) := by
  by_cases c1 : t < 150
  · exact if_pos c1
  · rw [if_neg c1]
    refine if_pos ?_
    obtain ⟨y, hy, ey⟩ := nI_of (x := t) (fun q => c1 (by grind))
    rw [show (150 : Int32) + nI nf = nI (150 + nf) by rw [show (150 : Int32) = nI 150 from rfl, nI_add], ey]
    rw [ey, show (150 : Int32) = nI 150 from rfl] at c1
    have c2 : ¬ y < 150 := fun q => c1 (nI_lt q (by omega))
    refine nI_le ?_ hy
    refine Nat.le_of_not_lt (fun q => h (y - 150) (by omega) ?_)
    rw [ey]
    exact congrArg nI (by omega)
theorem opc_num {x : Nat} (h : x < 2 ^ 31) : opc (nI x) = 1 ∧ arc (nI x) = nI x := by
  have h0 : 0 ≤ nI x := nI_pos' h
  exact ⟨if_pos h0, if_pos h0⟩
theorem opc_fact {y : Nat} (h : y < 5) : opc ((-1) - nI y) = 2 ∧ arc ((-1) - nI y) = nI y := by
  obtain ⟨c1, c2, c3, c4, c5, c6⟩ := code_fact y h
  refine ⟨?_, ?_⟩
  · rw [opc, if_neg c4, if_pos c2]
  · rw [arc, if_neg c4, c6]
theorem nlit {a : Nat} {L : Int32} (b : Nat) (hL : L = nI b) (h : a ≠ b) (ha : a < 2 ^ 31) (hb : b < 2 ^ 31) : ¬ nI a = L := fun q => h ((nI_eq ha hb).mp (q.trans hL))
theorem j_part {N nf D D' wi : Nat} (hN : 10000 ≤ N) (hnf : nf = 3 ∨ nf = 5) (hD : 1 ≤ D) (hDD : D' ≤ D) (hwi : wi ≤ 5) {v0 : VReader} {v2 : VTown} (hfk : Reader_factsKnown v0 = nI nf) {rP : VReader → VTape → VTown → VLaws → Int32 → Option (Int32 × Int32 × (Nat → Int32) × Int32)} {rJ : VReader → VTape → VTown → VLaws → Int32 → Int32 → Option (Int32 × Int32 × (Nat → Int32) × Int32)} {rT rPr rS rTe rA : VR → Int32 → Option (Int32 × Int32 × (Nat → Int32) × (Nat → Int32) × Int32)} (hT : wi < 5 → JE nf D' (fun v1 v3 => rP v0 v1 v2 v3 (nI (wi + 1))) (fun w => rT w (nI (wi + 1)))) (hA : wi < 5 → JE nf D' (fun v1 v3 => rJ v0 v1 v2 v3 0 (nI (wi + 1))) (fun w => rA w (nI (wi + 1)))) : JE nf D (fun v1 v3 => f_Reader_readPart_b rP rJ N v0 v1 v2 v3 (nI wi)) (fun w => f_R_takePart_b rT rPr rS rTe rA N w (nI wi)) := by
  intro n m j s c f cd op ar v1 v3 w hst
  obtain ⟨h, hjm, hs, hc, ha, ra, hf, rf, hfd, hsz, hco, hcd, hop, har, hfh⟩ := hst
  have hm := h.m1000
  have hnf5 : nf ≤ 5 := by omega
  rcases hfd with rfl | hfd
  · have htk := tok_num (h.tok hjm).1
    have hw1 : nI wi + 1 = nI (wi + 1) := nI_1 wi
    have hsz2 : Laws_size v3 = nI s := hsz
    obtain ⟨F1, hF1, w1, w1'⟩ := wrong_A (N := N) h hjm ha hf ra rf (k := 1) (by decide) (by decide)
    obtain ⟨F5, hF5, w5, w5'⟩ := wrong_A (N := N) h hjm ha hf ra rf (k := 5) (by decide) (by decide)
    by_cases c2 : Tape_tokens v1 j = 2
    · -- a number
      have ht := c2
      obtain ⟨x, hx, x1, x2⟩ := htk.2 c2
      have hlt := tk_lt h hjm (fun q => by rw [q] at c2; exact absurd c2 (by decide))
      have hso := htk.1.mpr c2
      have hnof : ∀ y, y < nf → ¬ Tape_tokens v1 j = nI (150 + y) := fun y hy q => by rw [c2] at q; have := (nI_eq (a := 2) (by decide) (by omega)).mp q; omega
      by_cases c5 : wi = 5
      · subst c5
        refine ⟨j, s, c, F5, cd, op, ar, ?_, ?_, ERx.halt hjm hF5⟩
        · show f_Reader_readPart_b rP rJ N v0 v1 v2 v3 (nI 5) = _
          unfold f_Reader_readPart_b
          refine bnd (token_A h hjm ha hf) ?_
          rw [ht, hfk]
          refine zletG (z5_no (by decide)) ?_
          refine zifp rfl ?_
          refine zifn (by decide) ?_
          refine bnd w5 ?_
          rw [ha, hcd, hsz]
        · show f_R_takePart_b rT rPr rS rTe rA N w (nI 5) = _
          unfold f_R_takePart_b
          rw [rf, ra, nI_clamp (n := j) (by omega), hfh]
          refine zifp (by decide) ?_
          refine zifn (t_ix h hjm).2 ?_
          refine zletG (if_pos hso) ?_
          refine bnd (show f_R_wordHere N w 22 5 = _ from rwh_A (f := 22) (mn := 5) hN h hjm ra rf (by omega)) ?_
          refine zletG (z9_none hnf hnof) ?_
          refine zifn (by decide) ?_
          refine zifn (by decide) ?_
          refine zifp rfl ?_
          refine bnd w5' ?_
          refine zifn hF5.nle ?_
          rw [hop, har, hco]
      · have hw5 : wi < 5 := by omega
        refine ⟨j + 1, s + 1, c + 1, 0, upd cd s (nI x), upd op (1100 + c) (opc (nI x)), upd ar (1100 + c) (arc (nI x)), ?_, ?_, ERx.push hlt hD (Or.inl (nI_pos' (by omega)))⟩
        · show f_Reader_readPart_b rP rJ N v0 v1 v2 v3 (nI wi) = _
          unfold f_Reader_readPart_b
          refine bnd (token_A h hjm ha hf) ?_
          rw [ht, hfk]
          refine zletG (z5_no (by decide)) ?_
          refine zifp rfl ?_
          refine zifp (ltR (L := 5) (b := 5) rfl hw5 (by decide)) ?_
          refine bnd (value_A h hjm ha) ?_
          refine bnd (adv_A h hlt ha hf) ?_
          refine zifp rfl ?_
          rw [x1, lN_i]
          refine bnd (addCode_ok hsz (by omega)) ?_
          rw [hf, hcd]
        · show f_R_takePart_b rT rPr rS rTe rA N w (nI wi) = _
          unfold f_R_takePart_b
          rw [rf, ra, nI_clamp (n := j) (by omega), hfh]
          refine zifp (by decide) ?_
          refine zifn (t_ix h hjm).2 ?_
          refine zletG (if_pos hso) ?_
          refine bnd (show f_R_wordHere N w 22 5 = _ from rwh_A (f := 22) (mn := 5) hN h hjm ra rf (by omega)) ?_
          refine zletG (z9_none hnf hnof) ?_
          refine zifn (by decide) ?_
          refine zifn (by decide) ?_
          refine zifn (nlit 5 rfl c5 (by omega) (by decide)) ?_
          refine zifp (by decide) ?_
          refine bnd (show f_R_hasWord N w 19 = _ from hasW_n (k := 19) h hjm ra rf (by decide) (by rw [c2]; decide)) ?_
          refine zifp rfl ?_
          refine bnd (show f_R_hasSign N (R_at_s w (nI j)) 40 = _ from hasS_n (w := R_at_s w (nI j)) (c := 40) h hjm rfl rf (by decide) (by decide) (by rw [c2]; decide)) ?_
          refine zifp rfl ?_
          refine zifn (by decide) ?_
          show (if nI j < 0 ∨ 1002 ≤ Int32.toNatClampNeg (nI j) then _ else _) = _
          rw [nI_clamp (n := j) (by omega)]
          refine zifn (t_ix h hjm).2 ?_
          rw [x2, lN_i, if_neg (by decide : ¬ (1 : Int32) = 0)]
          refine bnd (emit_ok (w := R_at_s w (nI j)) (c := c) hco (by omega)) ?_
          rw [(opc_num (x := x) (by omega)).1, (opc_num (x := x) (by omega)).2, ← hop, ← har]
          rw [show nI j + 1 = nI (j + 1) from nI_1 j]
          rfl
    · have hso : ¬ R_sort w j = 2 := fun q => c2 (htk.1.mp q)
      by_cases c147 : Tape_tokens v1 j = 147
      · -- NOT
        have ht := c147
        have hlt := tk_lt h hjm (fun q => by rw [q] at c147; exact absurd c147 (by decide))
        have hnof : ∀ y, y < nf → ¬ Tape_tokens v1 j = nI (150 + y) := fun y hy q => by rw [c147] at q; have := (nI_eq (a := 147) (by decide) (by omega)).mp q; omega
        have hiw : f_R_isWord N w 19 = some (bI true) := (rword_A (k := 19) h hjm ra rf (by decide)).trans (by rw [decide_eq_true (show Tape_tokens v1 j = nI (128 + 19) from c147)])
        have his : f_R_isSign N w 40 = some (bI false) := (rsign_A (c := 40) h hjm ra rf (by decide) (by decide)).trans (by rw [decide_eq_false (show ¬ Tape_tokens v1 j = nI 40 by rw [c147]; decide)])
        by_cases c5 : wi = 5
        · subst c5
          refine ⟨j, s, c, F5, cd, op, ar, ?_, ?_, ERx.halt hjm hF5⟩
          · show f_Reader_readPart_b rP rJ N v0 v1 v2 v3 (nI 5) = _
            unfold f_Reader_readPart_b
            refine bnd (token_A h hjm ha hf) ?_
            rw [ht, hfk]
            refine zletG (z5_no (by decide)) ?_
            refine zifn (by decide) ?_
            refine zifp rfl ?_
            refine zifn (by decide) ?_
            refine bnd w5 ?_
            rw [ha, hcd, hsz]
          · show f_R_takePart_b rT rPr rS rTe rA N w (nI 5) = _
            unfold f_R_takePart_b
            rw [rf, ra, nI_clamp (n := j) (by omega), hfh]
            refine zifp (by decide) ?_
            refine zifn (t_ix h hjm).2 ?_
            refine zletG (if_neg hso) ?_
            refine bnd (show f_R_wordHere N w 22 5 = _ from rwh_A (f := 22) (mn := 5) hN h hjm ra rf (by omega)) ?_
            refine zletG (z9_none hnf hnof) ?_
            refine zifn (by decide) ?_
            refine zifp rfl ?_
            refine bnd his ?_
            refine zifp rfl ?_
            refine bnd hiw ?_
            refine zifn (by decide) ?_
            refine zifp rfl ?_
            refine bnd w5' ?_
            refine zifn hF5.nle ?_
            rw [hop, har, hco]
        · have hw5 : wi < 5 := by omega
          obtain ⟨j2, s2, c2', f2, cd2, op2, ar2, q1, q2, q3⟩ := hT hw5 n m (j + 1) s c 0 cd op ar (Tape_at_s v1 (nI (j + 1))) v3 (R_at_s w (nI (j + 1))) ⟨h, hlt, by omega, by omega, rfl, rfl, hf, rf, Or.inl rfl, hsz, hco, hcd, hop, har, hfh⟩
          have g1 := q3.1
          have g2 := q3.2.1
          have g5 := q3.2.2.2.2.1
          have g6 := q3.2.2.2.2.2.1
          refine ⟨j2, s2 + 1, c2' + 1, f2, upd cd2 s2 (-147), upd op2 (1100 + c2') 3, upd ar2 (1100 + c2') 0, ?_, ?_, (q3.notp).mono hDD⟩
          · show f_Reader_readPart_b rP rJ N v0 v1 v2 v3 (nI wi) = _
            unfold f_Reader_readPart_b
            refine bnd (token_A h hjm ha hf) ?_
            rw [ht, hfk]
            refine zletG (z5_no (by decide)) ?_
            refine zifn (by decide) ?_
            refine zifp rfl ?_
            refine zifp (ltR (L := 5) (b := 5) rfl hw5 (by decide)) ?_
            refine bnd (value_A h hjm ha) ?_
            refine bnd (adv_A h hlt ha hf) ?_
            refine zifn (by decide) ?_
            refine zifp rfl ?_
            refine zifp rfl ?_
            rw [hw1]
            refine bnd q1 ?_
            exact bnd (addCode_ok (v := Laws_s_codes_size v3 cd2 (nI s2)) (s := s2) rfl (by omega)) rfl
          · show f_R_takePart_b rT rPr rS rTe rA N w (nI wi) = _
            unfold f_R_takePart_b
            rw [rf, ra, nI_clamp (n := j) (by omega), hfh]
            refine zifp (by decide) ?_
            refine zifn (t_ix h hjm).2 ?_
            refine zletG (if_neg hso) ?_
            refine bnd (show f_R_wordHere N w 22 5 = _ from rwh_A (f := 22) (mn := 5) hN h hjm ra rf (by omega)) ?_
            refine zletG (z9_none hnf hnof) ?_
            refine zifn (by decide) ?_
            refine zifp rfl ?_
            refine bnd his ?_
            refine zifp rfl ?_
            refine bnd hiw ?_
            refine zifn (by decide) ?_
            refine zifn (nlit 5 rfl c5 (by omega) (by decide)) ?_
            refine zifp (by decide) ?_
            refine bnd (show f_R_hasWord N w 19 = _ from hasW_y (k := 19) h hjm ra rf (by decide) c147) ?_
            refine zifn (show ¬ (1 : Int32) = 0 by decide) ?_
            rw [hw1]
            refine bnd q2 ?_
            exact bnd (emit_ok (w := R_s_at_fault_op_arg_codes w (nI j2) f2 op2 ar2 (nI c2')) (c := c2') rfl (by omega)) rfl
      · have hiw : f_R_isWord N w 19 = some (bI false) := (rword_A (k := 19) h hjm ra rf (by decide)).trans (by rw [decide_eq_false (show ¬ Tape_tokens v1 j = nI (128 + 19) from c147)])
        by_cases c40 : Tape_tokens v1 j = 40
        · -- in brackets
          have ht := c40
          have hlt := tk_lt h hjm (fun q => by rw [q] at c40; exact absurd c40 (by decide))
          have hnof : ∀ y, y < nf → ¬ Tape_tokens v1 j = nI (150 + y) := fun y hy q => by rw [c40] at q; have := (nI_eq (a := 40) (by decide) (by omega)).mp q; omega
          have his : f_R_isSign N w 40 = some (bI true) := (rsign_A (c := 40) h hjm ra rf (by decide) (by decide)).trans (by rw [decide_eq_true (show Tape_tokens v1 j = nI 40 from c40)])
          by_cases c5 : wi = 5
          · subst c5
            refine ⟨j, s, c, F5, cd, op, ar, ?_, ?_, ERx.halt hjm hF5⟩
            · show f_Reader_readPart_b rP rJ N v0 v1 v2 v3 (nI 5) = _
              unfold f_Reader_readPart_b
              refine bnd (token_A h hjm ha hf) ?_
              rw [ht, hfk]
              refine zletG (z5_no (by decide)) ?_
              refine zifn (by decide) ?_
              refine zifn (by decide) ?_
              refine zifp rfl ?_
              refine zifn (by decide) ?_
              refine bnd w5 ?_
              rw [ha, hcd, hsz]
            · show f_R_takePart_b rT rPr rS rTe rA N w (nI 5) = _
              unfold f_R_takePart_b
              rw [rf, ra, nI_clamp (n := j) (by omega), hfh]
              refine zifp (by decide) ?_
              refine zifn (t_ix h hjm).2 ?_
              refine zletG (if_neg hso) ?_
              refine bnd (show f_R_wordHere N w 22 5 = _ from rwh_A (f := 22) (mn := 5) hN h hjm ra rf (by omega)) ?_
              refine zletG (z9_none hnf hnof) ?_
              refine zifn (by decide) ?_
              refine zifp rfl ?_
              refine bnd his ?_
              refine zifn (by decide) ?_
              refine zifp rfl ?_
              refine bnd w5' ?_
              refine zifn hF5.nle ?_
              rw [hop, har, hco]
          · have hw5 : wi < 5 := by omega
            obtain ⟨j2, s2, c2', f2, cd2, op2, ar2, q1, q2, q3⟩ := hA hw5 n m (j + 1) s c 0 cd op ar (Tape_at_s v1 (nI (j + 1))) v3 (R_at_s w (nI (j + 1))) ⟨h, hlt, by omega, by omega, rfl, rfl, hf, rf, Or.inl rfl, hsz, hco, hcd, hop, har, hfh⟩
            have g1 := q3.1
            have g2 := q3.2.1
            have g7 := q3.2.2.2.2.2.2.1
            have hx : ∃ j3 f3, f_Tape_expect N (Tape_s_at_fault v1 (nI j2) f2) 41 = some (nI j3, f3) ∧ f_R_takeSign N (R_s_at_fault_op_arg_codes w (nI j2) f2 op2 ar2 (nI c2')) 41 = some (nI j3, f3) ∧ j2 ≤ j3 ∧ j3 ≤ m ∧ (f3 = 0 → f2 = 0) ∧ (f3 = 0 ∨ dead f3) := by
              rcases g7 with g7 | g7
              · obtain ⟨⟨a1, a2⟩, e1, ⟨b1, b2⟩, e2, ⟨j3, k1, k2, rfl, rfl, rfl, k3⟩, -⟩ := j_sign (N := N) (n := n) (m := m) (i := j2) (v := Tape_s_at_fault v1 (nI j2) f2) (w := R_s_at_fault_op_arg_codes w (nI j2) f2 op2 ar2 (nI c2')) h ⟨j2, Nat.le_refl _, g2, rfl, rfl, rfl, Or.inl g7⟩ (c := 41) (by decide) (by decide)
                exact ⟨j3, _, e1, e2, k1, k2, fun _ => g7, k3⟩
              · exact ⟨j2, f2, expect_B (v := Tape_s_at_fault v1 (nI j2) f2) g7 (c := 41) (by decide) (by decide), takeSign_B (w := R_s_at_fault_op_arg_codes w (nI j2) f2 op2 ar2 (nI c2')) g7, Nat.le_refl _, g2, fun q => q, Or.inr g7⟩
            obtain ⟨j3, f3, k1, k2, k3, k4, k5, k6⟩ := hx
            refine ⟨j3, s2, c2', f3, cd2, op2, ar2, ?_, ?_, (q3.paren k3 k4 k5 k6).mono hDD⟩
            · show f_Reader_readPart_b rP rJ N v0 v1 v2 v3 (nI wi) = _
              unfold f_Reader_readPart_b
              refine bnd (token_A h hjm ha hf) ?_
              rw [ht, hfk]
              refine zletG (z5_no (by decide)) ?_
              refine zifn (by decide) ?_
              refine zifn (by decide) ?_
              refine zifp rfl ?_
              refine zifp (ltR (L := 5) (b := 5) rfl hw5 (by decide)) ?_
              refine bnd (value_A h hjm ha) ?_
              refine bnd (adv_A h hlt ha hf) ?_
              refine zifn (by decide) ?_
              refine zifp rfl ?_
              refine zifn (by decide) ?_
              rw [hw1]
              refine bnd q1 ?_
              exact bnd k1 rfl
            · show f_R_takePart_b rT rPr rS rTe rA N w (nI wi) = _
              unfold f_R_takePart_b
              rw [rf, ra, nI_clamp (n := j) (by omega), hfh]
              refine zifp (by decide) ?_
              refine zifn (t_ix h hjm).2 ?_
              refine zletG (if_neg hso) ?_
              refine bnd (show f_R_wordHere N w 22 5 = _ from rwh_A (f := 22) (mn := 5) hN h hjm ra rf (by omega)) ?_
              refine zletG (z9_none hnf hnof) ?_
              refine zifn (by decide) ?_
              refine zifp rfl ?_
              refine bnd his ?_
              refine zifn (by decide) ?_
              refine zifn (nlit 5 rfl c5 (by omega) (by decide)) ?_
              refine zifp (by decide) ?_
              refine bnd (show f_R_hasWord N w 19 = _ from hasW_n (k := 19) h hjm ra rf (by decide) (by rw [c40]; decide)) ?_
              refine zifp rfl ?_
              refine bnd (show f_R_hasSign N (R_at_s w (nI j)) 40 = _ from hasS_y (w := R_at_s w (nI j)) (c := 40) h hjm rfl rf (by decide) (by decide) c40) ?_
              refine zifn (show ¬ (1 : Int32) = 0 by decide) ?_
              rw [hw1]
              refine bnd q2 ?_
              exact bnd k2 rfl
        · have his : f_R_isSign N w 40 = some (bI false) := (rsign_A (c := 40) h hjm ra rf (by decide) (by decide)).trans (by rw [decide_eq_false (show ¬ Tape_tokens v1 j = nI 40 from c40)])
          by_cases cf : ∃ y, y < nf ∧ Tape_tokens v1 j = nI (150 + y)
          · -- a fact
            obtain ⟨y, hy, ht⟩ := cf
            have hlt := tk_lt h hjm (fun q => by rw [q] at ht; have := (nI_eq (a := 0) (by decide) (by omega)).mp ht; omega)
            by_cases c5 : wi = 5
            · subst c5
              refine ⟨j, s, c, F5, cd, op, ar, ?_, ?_, ERx.halt hjm hF5⟩
              · show f_Reader_readPart_b rP rJ N v0 v1 v2 v3 (nI 5) = _
                unfold f_Reader_readPart_b
                refine bnd (token_A h hjm ha hf) ?_
                rw [ht, hfk]
                refine zletG (z5_yes hnf5 hy) ?_
                refine zifn (nlit 2 rfl (by omega) (by omega) (by decide)) ?_
                refine zifn (nlit 147 rfl (by omega) (by omega) (by decide)) ?_
                refine zifn (nlit 40 rfl (by omega) (by omega) (by decide)) ?_
                refine zifn (by decide) ?_
                refine zifn (by decide) ?_
                refine bnd w5 ?_
                rw [ha, hcd, hsz]
              · show f_R_takePart_b rT rPr rS rTe rA N w (nI 5) = _
                unfold f_R_takePart_b
                rw [rf, ra, nI_clamp (n := j) (by omega), hfh]
                refine zifp (by decide) ?_
                refine zifn (t_ix h hjm).2 ?_
                refine zletG (if_neg hso) ?_
                refine bnd (show f_R_wordHere N w 22 5 = _ from rwh_A (f := 22) (mn := 5) hN h hjm ra rf (by omega)) ?_
                refine zletG (z9_some hnf hy ht) ?_
                refine zifp (nI_pos' (by omega)) ?_
                refine zifp rfl ?_
                refine bnd w5' ?_
                refine zifn hF5.nle ?_
                rw [hop, har, hco]
            · have hw5 : wi < 5 := by omega
              refine ⟨j + 1, s + 1, c + 1, 0, upd cd s ((-1) - nI y), upd op (1100 + c) (opc ((-1) - nI y)), upd ar (1100 + c) (arc ((-1) - nI y)), ?_, ?_, ERx.push hlt hD (Or.inr ⟨y, hy, rfl⟩)⟩
              · show f_Reader_readPart_b rP rJ N v0 v1 v2 v3 (nI wi) = _
                unfold f_Reader_readPart_b
                refine bnd (token_A h hjm ha hf) ?_
                rw [ht, hfk]
                refine zletG (z5_yes hnf5 hy) ?_
                refine zifn (nlit 2 rfl (by omega) (by omega) (by decide)) ?_
                refine zifn (nlit 147 rfl (by omega) (by omega) (by decide)) ?_
                refine zifn (nlit 40 rfl (by omega) (by omega) (by decide)) ?_
                refine zifn (by decide) ?_
                refine zifp (ltR (L := 5) (b := 5) rfl hw5 (by decide)) ?_
                refine bnd (value_A h hjm ha) ?_
                refine bnd (adv_A h hlt ha hf) ?_
                refine zifn (nlit 2 rfl (by omega) (by omega) (by decide)) ?_
                refine zifn (by decide) ?_
                rw [show nI (150 + y) - 150 = nI y by rw [show (150 : Int32) = nI 150 from rfl, pk_sub (by omega)]; exact congrArg nI (by omega)]
                refine bnd (addCode_ok hsz (by omega)) ?_
                rw [hf, hcd]
              · show f_R_takePart_b rT rPr rS rTe rA N w (nI wi) = _
                unfold f_R_takePart_b
                rw [rf, ra, nI_clamp (n := j) (by omega), hfh]
                refine zifp (by decide) ?_
                refine zifn (t_ix h hjm).2 ?_
                refine zletG (if_neg hso) ?_
                refine bnd (show f_R_wordHere N w 22 5 = _ from rwh_A (f := 22) (mn := 5) hN h hjm ra rf (by omega)) ?_
                refine zletG (z9_some hnf hy ht) ?_
                refine zifp (nI_pos' (by omega)) ?_
                refine zifn (nlit 5 rfl c5 (by omega) (by decide)) ?_
                refine zifp (by decide) ?_
                refine bnd (show f_R_hasWord N w 19 = _ from hasW_n (k := 19) h hjm ra rf (by decide) c147) ?_
                refine zifp rfl ?_
                refine bnd (show f_R_hasSign N (R_at_s w (nI j)) 40 = _ from hasS_n (w := R_at_s w (nI j)) (c := 40) h hjm rfl rf (by decide) (by decide) c40) ?_
                refine zifp rfl ?_
                refine zifp rfl ?_
                rw [if_pos (rfl : (0 : Int32) = 0)]
                refine bnd (emit_ok (w := R_at_s w (nI j)) (c := c) hco (by omega)) ?_
                rw [(opc_fact (y := y) (by omega)).1, (opc_fact (y := y) (by omega)).2, ← hop, ← har]
                rw [show nI j + 1 = nI (j + 1) from nI_1 j]
                rfl
          · -- nothing of the kind
            have hnof : ∀ y, y < nf → ¬ Tape_tokens v1 j = nI (150 + y) := fun y hy q => cf ⟨y, hy, q⟩
            refine ⟨j, s, c, F1, cd, op, ar, ?_, ?_, ERx.halt hjm hF1⟩
            · show f_Reader_readPart_b rP rJ N v0 v1 v2 v3 (nI wi) = _
              unfold f_Reader_readPart_b
              refine bnd (token_A h hjm ha hf) ?_
              rw [hfk]
              refine zletG (z5_none hnf5 hnof) ?_
              refine zifn c2 ?_
              refine zifn c147 ?_
              refine zifn c40 ?_
              refine zifp rfl ?_
              refine bnd w1 ?_
              rw [ha, hcd, hsz]
            · show f_R_takePart_b rT rPr rS rTe rA N w (nI wi) = _
              unfold f_R_takePart_b
              rw [rf, ra, nI_clamp (n := j) (by omega), hfh]
              refine zifp (by decide) ?_
              refine zifn (t_ix h hjm).2 ?_
              refine zletG (if_neg hso) ?_
              refine bnd (show f_R_wordHere N w 22 5 = _ from rwh_A (f := 22) (mn := 5) hN h hjm ra rf (by omega)) ?_
              refine zletG (z9_none hnf hnof) ?_
              refine zifn (by decide) ?_
              refine zifp rfl ?_
              refine bnd his ?_
              refine zifp rfl ?_
              refine bnd hiw ?_
              refine zifp rfl ?_
              refine bnd w1' ?_
              refine zifn hF1.nle ?_
              rw [hop, har, hco]
  · refine ⟨j, s, c, f, cd, op, ar, ?_, ?_, ERx.halt hjm hfd⟩
    · show f_Reader_readPart_b rP rJ N v0 v1 v2 v3 (nI wi) = _
      have hfd' : dead (Tape_fault v1) := by rw [hf]; exact hfd
      unfold f_Reader_readPart_b
      refine bnd (token_B hfd') ?_
      rw [hfk]
      refine zletG (z5_no (by decide)) ?_
      refine zifn (by decide) ?_
      refine zifn (by decide) ?_
      refine zifn (by decide) ?_
      refine zifp rfl ?_
      refine bnd (wrong_B hfd') ?_
      rw [ha, hcd, hsz, hf]
    · show f_R_takePart_b rT rPr rS rTe rA N w (nI wi) = _
      unfold f_R_takePart_b
      rw [rf]
      refine zifn hfd.nle ?_
      rw [ra, hop, har, hco]
