/-! ===== the levels of an E, and a whole E ===== -/
theorem JE.mono {nf D D' : Nat} {X : VTape → VLaws → Option (Int32 × Int32 × (Nat → Int32) × Int32)} {Y : VR → Option (Int32 × Int32 × (Nat → Int32) × (Nat → Int32) × Int32)} (h : JE nf D X Y) (hD : D ≤ D') : JE nf D' X Y := by
  intro n m j s c f cd op ar v1 v3 w hst
  obtain ⟨j2, s2, c2, f2, cd2, op2, ar2, q1, q2, q3⟩ := h n m j s c f cd op ar v1 v3 w hst
  exact ⟨j2, s2, c2, f2, cd2, op2, ar2, q1, q2, q3.mono hD⟩
section LEVELS
variable {N nf D : Nat} {v0 : VReader} {v2 : VTown} {rP : VReader → VTape → VTown → VLaws → Int32 → Option (Int32 × Int32 × (Nat → Int32) × Int32)} {rJ : VReader → VTape → VTown → VLaws → Int32 → Int32 → Option (Int32 × Int32 × (Nat → Int32) × Int32)} {rT rPr rS rTe rA : VR → Int32 → Option (Int32 × Int32 × (Nat → Int32) × (Nat → Int32) × Int32)} {wi : Int32}
theorem level_gen (hN : 10000 ≤ N) {X : VTape → VLaws → Option (Int32 × Int32 × (Nat → Int32) × Int32)} {Y : VR → Option (Int32 × Int32 × (Nat → Int32) × (Nat → Int32) × Int32)} (hJ : JE nf D X Y) {l : Nat} (hl : l ≤ 3) (hl1 : l ≠ 1) (hX : ∀ v1 v3, rJ v0 v1 v2 v3 (nI (l + 1)) wi = X v1 v3) (LB : VR → Nat → Int32 → Int32 → (Nat → Int32) → (Nat → Int32) → Int32 → Option (Int32 × Int32 × (Nat → Int32) × (Nat → Int32) × Int32)) (hstop : ∀ n m v1 w, LexAt n m v1 w → ∀ fuel j1 f op ar c, j1 ≤ m → (f = 0 ∨ dead f) → (f = 0 → ∀ t, t ∈ lvOps l → ¬ Tape_tokens v1 j1 = nI t) → LB w (fuel + 1) (nI j1) f op ar c = some (nI j1, f, op, ar, c)) (hgo : ∀ n m v1 w, LexAt n m v1 w → ∀ fuel j1 op ar c t, j1 ≤ m → t ∈ lvOps l → Tape_tokens v1 j1 = nI t → LB w (fuel + 1) (nI j1) 0 op ar c = (Y (R_s_at_fault_op_arg_codes w (nI (j1 + 1)) 0 op ar c)).bind (fun q4 => (f_R_emit N (R_s_at_fault_op_arg_codes w q4.1 q4.2.1 q4.2.2.1 q4.2.2.2.1 q4.2.2.2.2) (opc (-(nI t))) 0).bind (fun q5 => LB w fuel q4.1 q4.2.1 q5.1 q5.2.1 q5.2.2))) : JE nf (D + 1) (fun v1 v3 => f_Reader_readJoined_b rP rJ N v0 v1 v2 v3 (nI l) wi) (fun w => (Y w).bind (fun q1 => (LB (R_s_at_fault_op_arg_codes w q1.1 q1.2.1 q1.2.2.1 q1.2.2.2.1 q1.2.2.2.2) N q1.1 q1.2.1 q1.2.2.1 q1.2.2.2.1 q1.2.2.2.2).bind (fun q9 => some (q9.1, q9.2.1, q9.2.2.1, q9.2.2.2.1, q9.2.2.2.2)))) := by
  intro n m j s c f cd op ar v1 v3 w hst
  obtain ⟨j1, s1, c1, f1, cd1, op1, ar1, x1, y1, r1⟩ := hJ n m j s c f cd op ar v1 v3 w hst
  obtain ⟨h, hjm, hs, hc, ha, ra, hf, rf, hfd, hsz, hco, hcd, hop, har, hfh⟩ := hst
  have hm := h.m1000
  have g1 := r1.1
  have g2 := r1.2.1
  obtain ⟨j2, s2, c2, f2, cd2, op2, ar2, x2, y2, r2⟩ := loop_both (N := N) (n := n) (m := m) (v0 := v0) (v1 := Tape_s_at_fault v1 (nI j1) f1) (v2 := v2) (v3 := Laws_s_codes_size v3 cd1 (nI s1)) (w := R_s_at_fault_op_arg_codes w (nI j1) f1 op1 ar1 (nI c1)) (rP := rP) (rJ := rJ) hJ (wi := wi) hl hX (fun fuel a f o r c => LB (R_s_at_fault_op_arg_codes w (nI j1) f1 op1 ar1 (nI c1)) fuel a f o r c) (hstop n m (Tape_s_at_fault v1 (nI j1) f1) (R_s_at_fault_op_arg_codes w (nI j1) f1 op1 ar1 (nI c1)) h) (hgo n m (Tape_s_at_fault v1 (nI j1) f1) (R_s_at_fault_op_arg_codes w (nI j1) f1 op1 ar1 (nI c1)) h) h hfh hs hc (m + 1) N N j1 s1 c1 f1 cd1 op1 ar1 0 (r1.mono (by omega)) (by omega) (by omega) (by omega) (by omega)
  refine ⟨j2, s2, c2, f2, cd2, op2, ar2, ?_, ?_, r2⟩
  · show f_Reader_readJoined_b rP rJ N v0 v1 v2 v3 (nI l) wi = _
    unfold f_Reader_readJoined_b
    refine zifp (leR (L := 3) (b := 3) rfl hl (by decide)) ?_
    rw [show nI l + 1 = nI (l + 1) from nI_1 l, if_neg (nlit (a := l) (L := 1) 1 rfl hl1 (by omega) (by decide))]
    refine bnd ((hX v1 v3).trans x1) ?_
    exact bnd x2 rfl
  · exact bnd y1 (bnd y2 rfl)
theorem j_products (hN : 10000 ≤ N) (hP : JE nf D (fun v1 v3 => rJ v0 v1 v2 v3 (nI 4) wi) (fun w => rT w wi)) : JE nf (D + 1) (fun v1 v3 => f_Reader_readJoined_b rP rJ N v0 v1 v2 v3 (nI 3) wi) (fun w => f_R_products_b rT rPr rS rTe rA N w wi) := by
  refine level_gen (rP := rP) (rJ := rJ) hN hP (l := 3) (by decide) (by decide) (fun _ _ => rfl) (fun w fuel a f o r c => f_R_products_L5 rT rPr rS rTe rA N fuel w wi a f o r c) ?_ ?_
  · intro n m v1 w h fuel j1 f op ar c hj hf hno
    show f_R_products_L5 rT rPr rS rTe rA N (fuel + 1) w wi (nI j1) f op ar c = _
    rw [f_R_products_L5]
    rcases hf with rfl | hf
    · refine bnd (show f_R_hasSign N (R_s_at_fault_op_arg_codes w (nI j1) 0 op ar c) 42 = _ from hasS_n (c := 42) (w := R_s_at_fault_op_arg_codes w (nI j1) 0 op ar c) h hj rfl rfl (by decide) (by decide) (hno rfl 42 (by decide))) ?_
      exact zifp rfl rfl
    · refine bnd (hasS_d (j := j1) (w := R_s_at_fault_op_arg_codes w (nI j1) f op ar c) rfl hf) ?_
      exact zifp rfl rfl
  · intro n m v1 w h fuel j1 op ar c t hj ht hto
    obtain rfl := List.mem_singleton.mp ht
    show f_R_products_L5 rT rPr rS rTe rA N (fuel + 1) w wi (nI j1) 0 op ar c = _
    rw [f_R_products_L5, show opc (-(nI 42)) = 6 by decide]
    refine bnd (show f_R_hasSign N (R_s_at_fault_op_arg_codes w (nI j1) 0 op ar c) 42 = _ from hasS_y (c := 42) (w := R_s_at_fault_op_arg_codes w (nI j1) 0 op ar c) h hj rfl rfl (by decide) (by decide) hto) ?_
    exact zifn (show ¬ (1 : Int32) = 0 by decide) rfl
theorem j_sums (hN : 10000 ≤ N) (hP : JE nf D (fun v1 v3 => rJ v0 v1 v2 v3 (nI 3) wi) (fun w => rPr w wi)) : JE nf (D + 1) (fun v1 v3 => f_Reader_readJoined_b rP rJ N v0 v1 v2 v3 (nI 2) wi) (fun w => f_R_sums_b rT rPr rS rTe rA N w wi) := by
  refine level_gen (rP := rP) (rJ := rJ) hN hP (l := 2) (by decide) (by decide) (fun _ _ => rfl) (fun w fuel a f o r c => f_R_sums_L5 rT rPr rS rTe rA N fuel w wi a f o r c) ?_ ?_
  · intro n m v1 w h fuel j1 f op ar c hj hf hno
    show f_R_sums_L5 rT rPr rS rTe rA N (fuel + 1) w wi (nI j1) f op ar c = _
    rw [f_R_sums_L5]
    rcases hf with rfl | hf
    · have e1 : f_R_isSign N (R_s_at_fault_op_arg_codes w (nI j1) 0 op ar c) 43 = some (bI false) := (rsign_A (c := 43) (w := R_s_at_fault_op_arg_codes w (nI j1) 0 op ar c) h hj rfl rfl (by decide) (by decide)).trans (by rw [decide_eq_false (hno rfl 43 (by decide))])
      have e2 : f_R_isSign N (R_s_at_fault_op_arg_codes w (nI j1) 0 op ar c) 45 = some (bI false) := (rsign_A (c := 45) (w := R_s_at_fault_op_arg_codes w (nI j1) 0 op ar c) h hj rfl rfl (by decide) (by decide)).trans (by rw [decide_eq_false (hno rfl 45 (by decide))])
      refine bnd e1 ?_
      refine zifp rfl ?_
      refine bnd e2 ?_
      exact zifp rfl rfl
    · refine bnd (rsign_B (w := R_s_at_fault_op_arg_codes w (nI j1) f op ar c) hf) ?_
      refine zifp rfl ?_
      refine bnd (rsign_B (w := R_s_at_fault_op_arg_codes w (nI j1) f op ar c) hf) ?_
      exact zifp rfl rfl
  · intro n m v1 w h fuel j1 op ar c t hj ht hto
    show f_R_sums_L5 rT rPr rS rTe rA N (fuel + 1) w wi (nI j1) 0 op ar c = _
    have hl1 : nI j1 + 1 = nI (j1 + 1) := nI_1 j1
    rcases List.mem_cons.mp ht with rfl | ht
    · have e1 : f_R_isSign N (R_s_at_fault_op_arg_codes w (nI j1) 0 op ar c) 43 = some (bI true) := (rsign_A (c := 43) (w := R_s_at_fault_op_arg_codes w (nI j1) 0 op ar c) h hj rfl rfl (by decide) (by decide)).trans (by rw [decide_eq_true hto])
      rw [f_R_sums_L5, show opc (-(nI 43)) = 4 by decide, hl1]
      refine bnd e1 ?_
      refine zifn (by decide) ?_
      refine bnd e1 ?_
      rfl
    · obtain rfl := List.mem_singleton.mp ht
      have e1 : f_R_isSign N (R_s_at_fault_op_arg_codes w (nI j1) 0 op ar c) 43 = some (bI false) := (rsign_A (c := 43) (w := R_s_at_fault_op_arg_codes w (nI j1) 0 op ar c) h hj rfl rfl (by decide) (by decide)).trans (by rw [decide_eq_false (show ¬ Tape_tokens v1 j1 = nI 43 by rw [hto]; decide)])
      have e2 : f_R_isSign N (R_s_at_fault_op_arg_codes w (nI j1) 0 op ar c) 45 = some (bI true) := (rsign_A (c := 45) (w := R_s_at_fault_op_arg_codes w (nI j1) 0 op ar c) h hj rfl rfl (by decide) (by decide)).trans (by rw [decide_eq_true hto])
      rw [f_R_sums_L5, show opc (-(nI 45)) = 5 by decide, hl1]
      refine bnd e1 ?_
      refine zifp rfl ?_
      refine bnd e2 ?_
      refine zifn (by decide) ?_
      refine bnd e1 ?_
      rfl
theorem j_all (hN : 10000 ≤ N) (hP : JE nf D (fun v1 v3 => rJ v0 v1 v2 v3 (nI 1) wi) (fun w => rTe w wi)) : JE nf (D + 1) (fun v1 v3 => f_Reader_readJoined_b rP rJ N v0 v1 v2 v3 (nI 0) wi) (fun w => f_R_all_b rT rPr rS rTe rA N w wi) := by
  refine level_gen (rP := rP) (rJ := rJ) hN hP (l := 0) (by decide) (by decide) (fun _ _ => rfl) (fun w fuel a f o r c => f_R_all_L5 rT rPr rS rTe rA N fuel w wi a f o r c) ?_ ?_
  · intro n m v1 w h fuel j1 f op ar c hj hf hno
    show f_R_all_L5 rT rPr rS rTe rA N (fuel + 1) w wi (nI j1) f op ar c = _
    rw [f_R_all_L5]
    rcases hf with rfl | hf
    · have e1 : f_R_isWord N (R_s_at_fault_op_arg_codes w (nI j1) 0 op ar c) 20 = some (bI false) := (rword_A (k := 20) (w := R_s_at_fault_op_arg_codes w (nI j1) 0 op ar c) h hj rfl rfl (by decide)).trans (by rw [decide_eq_false (hno rfl 148 (by decide))])
      have e2 : f_R_isWord N (R_s_at_fault_op_arg_codes w (nI j1) 0 op ar c) 21 = some (bI false) := (rword_A (k := 21) (w := R_s_at_fault_op_arg_codes w (nI j1) 0 op ar c) h hj rfl rfl (by decide)).trans (by rw [decide_eq_false (hno rfl 149 (by decide))])
      refine bnd e1 ?_
      refine zifp rfl ?_
      refine bnd e2 ?_
      exact zifp rfl rfl
    · refine bnd (rword_B (w := R_s_at_fault_op_arg_codes w (nI j1) f op ar c) hf) ?_
      refine zifp rfl ?_
      refine bnd (rword_B (w := R_s_at_fault_op_arg_codes w (nI j1) f op ar c) hf) ?_
      exact zifp rfl rfl
  · intro n m v1 w h fuel j1 op ar c t hj ht hto
    show f_R_all_L5 rT rPr rS rTe rA N (fuel + 1) w wi (nI j1) 0 op ar c = _
    have hl1 : nI j1 + 1 = nI (j1 + 1) := nI_1 j1
    rcases List.mem_cons.mp ht with rfl | ht
    · have e1 : f_R_isWord N (R_s_at_fault_op_arg_codes w (nI j1) 0 op ar c) 20 = some (bI true) := (rword_A (k := 20) (w := R_s_at_fault_op_arg_codes w (nI j1) 0 op ar c) h hj rfl rfl (by decide)).trans (by rw [decide_eq_true (show Tape_tokens v1 j1 = nI (128 + 20) from hto)])
      rw [f_R_all_L5, show opc (-(nI 148)) = 9 by decide, hl1]
      refine bnd e1 ?_
      refine zifn (by decide) ?_
      refine bnd e1 ?_
      rfl
    · obtain rfl := List.mem_singleton.mp ht
      have e1 : f_R_isWord N (R_s_at_fault_op_arg_codes w (nI j1) 0 op ar c) 20 = some (bI false) := (rword_A (k := 20) (w := R_s_at_fault_op_arg_codes w (nI j1) 0 op ar c) h hj rfl rfl (by decide)).trans (by rw [decide_eq_false (show ¬ Tape_tokens v1 j1 = nI (128 + 20) by rw [hto]; decide)])
      have e2 : f_R_isWord N (R_s_at_fault_op_arg_codes w (nI j1) 0 op ar c) 21 = some (bI true) := (rword_A (k := 21) (w := R_s_at_fault_op_arg_codes w (nI j1) 0 op ar c) h hj rfl rfl (by decide)).trans (by rw [decide_eq_true (show Tape_tokens v1 j1 = nI (128 + 21) from hto)])
      rw [f_R_all_L5, show opc (-(nI 149)) = 10 by decide, hl1]
      refine bnd e1 ?_
      refine zifp rfl ?_
      refine bnd e2 ?_
      refine zifn (by decide) ?_
      refine bnd e1 ?_
      rfl
theorem j_test (hN : 10000 ≤ N) (hP : JE nf D (fun v1 v3 => rJ v0 v1 v2 v3 (nI 2) wi) (fun w => rS w wi)) : JE nf (D + 1) (fun v1 v3 => f_Reader_readJoined_b rP rJ N v0 v1 v2 v3 (nI 1) wi) (fun w => f_R_test_b rT rPr rS rTe rA N w wi) := by
  intro n m j s c f cd op ar v1 v3 w hst
  obtain ⟨j1, s1, c1, f1, cd1, op1, ar1, x1, y1, r1⟩ := hP n m j s c f cd op ar v1 v3 w hst
  obtain ⟨h, hjm, hs, hc, ha, ra, hf, rf, hfd, hsz, hco, hcd, hop, har, hfh⟩ := hst
  have hm := h.m1000
  have g1 := r1.1
  have g2 := r1.2.1
  have g5 := r1.2.2.2.2.1
  have g6 := r1.2.2.2.2.2.1
  have g7 := r1.2.2.2.2.2.2.1
  have x1' : rJ v0 v1 v2 v3 (nI 2) wi = some (nI j1, f1, cd1, nI s1) := x1
  have y1' : rS w wi = some (nI j1, f1, op1, ar1, nI c1) := y1
  obtain ⟨N2, rfl⟩ : ∃ N2, N = N2 + 1 + 1 := ⟨N - 2, by omega⟩
  have cls : ∀ R, f_Reader_readJoined_L35 rP rJ (N2 + 1 + 1) (N2 + 1 + 1) v0 (Tape_s_at_fault v1 (nI j1) f1) v2 (Laws_s_codes_size v3 cd1 (nI s1)) (nI 1) wi 1 (nI 0) (nI j1) f1 cd1 (nI s1) = R → ∀ a b c d, R = some (a, b, c, d) → f_Reader_readJoined_b rP rJ (N2 + 1 + 1) v0 v1 v2 v3 (nI 1) wi = some (a, b, c, d) := by
    intro R hR a b c d e
    unfold f_Reader_readJoined_b
    refine zifp (leR (L := 3) (a := 1) (b := 3) rfl (by decide) (by decide)) ?_
    refine bnd x1' ?_
    exact bnd (hR.trans e) rfl
  by_cases c1' : f1 = 0 ∧ ∃ t, t ∈ lvOps 1 ∧ Tape_tokens v1 j1 = nI t
  · obtain ⟨rfl, t, ht, hto⟩ := c1'
    obtain ⟨e1, e2, e3, e4⟩ := lev_yes (N2 + 1 + 1) ht
    have hlt : j1 < m := tk_lt h g2 (fun q => by rw [q] at hto; have := (nI_eq (a := 0) (by decide) (by omega)).mp hto; omega)
    obtain ⟨j2, s2, c2, f2, cd2, op2, ar2, x2, y2, r2⟩ := hP n m (j1 + 1) s1 c1 0 cd1 op1 ar1 (Tape_s_at_fault (Tape_s_at_fault v1 (nI j1) 0) (nI (j1 + 1)) 0) (Laws_s_codes_size (Laws_s_codes_size v3 cd1 (nI s1)) cd1 (nI s1)) (R_s_at_fault_op_arg_codes w (nI (j1 + 1)) 0 op1 ar1 (nI c1)) ⟨h, by omega, by omega, by omega, rfl, rfl, rfl, rfl, Or.inl rfl, rfl, rfl, rfl, rfl, rfl, hfh⟩
    have y2' : rS (R_s_at_fault_op_arg_codes w (nI (j1 + 1)) 0 op1 ar1 (nI c1)) wi = some (nI j2, f2, op2, ar2, nI c2) := y2
    have q5 := r2.2.2.2.2.1
    have q6 := r2.2.2.2.2.2.1
    have q2 := r2.2.1
    refine ⟨j2, s2 + 1, c2 + 1, f2, upd cd2 s2 (-(nI t)), upd op2 (1100 + c2) (opc (-(nI t))), upd ar2 (1100 + c2) 0, ?_, ?_, (r1.mono (by omega)).join r2 e2⟩
    · refine cls _ rfl _ _ _ _ ?_
      rw [cl_go (L := 1) (v1 := Tape_s_at_fault v1 (nI j1) 0) (v3 := Laws_s_codes_size v3 cd1 (nI s1)) h g2 (nI_ge (a := 0) (b := 1) (by decide) (by decide)) ht hto]
      refine bnd x2 ?_
      refine bnd (addCode_ok (v := Laws_s_codes_size (Laws_s_codes_size v3 cd1 (nI s1)) cd2 (nI s2)) (s := s2) rfl (by omega)) ?_
      rw [f_Reader_readJoined_L35]
      exact zifp (by decide) rfl
    · show f_R_test_b rT rPr rS rTe rA (N2 + 1 + 1) w wi = _
      unfold f_R_test_b
      refine bnd y1' ?_
      have em := emit_ok (N := N2 + 1 + 1) (w := R_s_at_fault_op_arg_codes w (nI j2) f2 op2 ar2 (nI c2)) (c := c2) (a := opc (-(nI t))) (x := 0) rfl (by omega)
      rcases List.mem_cons.mp ht with rfl | ht
      · have i1 : f_R_isSign (N2 + 1 + 1) (R_s_at_fault_op_arg_codes w (nI j1) 0 op1 ar1 (nI c1)) 60 = some (bI true) := (rsign_A (c := 60) (w := R_s_at_fault_op_arg_codes w (nI j1) 0 op1 ar1 (nI c1)) h g2 rfl rfl (by decide) (by decide)).trans (by rw [decide_eq_true hto])
        refine bnd i1 ?_
        refine bnd (show f_R_hasSign (N2 + 1 + 1) (R_s_at_fault_op_arg_codes w (nI j1) 0 op1 ar1 (nI c1)) 60 = _ from hasS_y (c := 60) (w := R_s_at_fault_op_arg_codes w (nI j1) 0 op1 ar1 (nI c1)) h g2 rfl rfl (by decide) (by decide) hto) ?_
        refine zifn (show ¬ (1 : Int32) = 0 by decide) ?_
        refine bnd y2' ?_
        exact bnd em rfl
      · obtain rfl := List.mem_singleton.mp ht
        have n60 : ¬ Tape_tokens v1 j1 = nI 60 := by rw [hto]; decide
        have i1 : f_R_isSign (N2 + 1 + 1) (R_s_at_fault_op_arg_codes w (nI j1) 0 op1 ar1 (nI c1)) 60 = some (bI false) := (rsign_A (c := 60) (w := R_s_at_fault_op_arg_codes w (nI j1) 0 op1 ar1 (nI c1)) h g2 rfl rfl (by decide) (by decide)).trans (by rw [decide_eq_false n60])
        refine bnd i1 ?_
        refine bnd (show f_R_hasSign (N2 + 1 + 1) (R_s_at_fault_op_arg_codes w (nI j1) 0 op1 ar1 (nI c1)) 60 = _ from hasS_n (c := 60) (w := R_s_at_fault_op_arg_codes w (nI j1) 0 op1 ar1 (nI c1)) h g2 rfl rfl (by decide) (by decide) n60) ?_
        refine zifp rfl ?_
        refine bnd (show f_R_hasSign (N2 + 1 + 1) (R_s_at_fault_op_arg_codes w (nI j1) 0 op1 ar1 (nI c1)) 61 = _ from hasS_y (c := 61) (w := R_s_at_fault_op_arg_codes w (nI j1) 0 op1 ar1 (nI c1)) h g2 rfl rfl (by decide) (by decide) hto) ?_
        refine zifn (show ¬ (1 : Int32) = 0 by decide) ?_
        refine bnd y2' ?_
        exact bnd em rfl
  · have hno : f1 = 0 → ∀ t, t ∈ lvOps 1 → ¬ Tape_tokens v1 j1 = nI t := fun q t ht e => c1' ⟨q, t, ht, e⟩
    refine ⟨j1, s1, c1, f1, cd1, op1, ar1, ?_, ?_, r1.mono (by omega)⟩
    · refine cls _ rfl _ _ _ _ ?_
      exact cl_stop (v1 := Tape_s_at_fault v1 (nI j1) f1) (v3 := Laws_s_codes_size v3 cd1 (nI s1)) h (by decide) g2 g7 hno
    · show f_R_test_b rT rPr rS rTe rA (N2 + 1 + 1) w wi = _
      unfold f_R_test_b
      refine bnd y1' ?_
      rcases g7 with rfl | g7
      · have n60 := hno rfl 60 (by decide)
        have n61 := hno rfl 61 (by decide)
        have i1 : f_R_isSign (N2 + 1 + 1) (R_s_at_fault_op_arg_codes w (nI j1) 0 op1 ar1 (nI c1)) 60 = some (bI false) := (rsign_A (c := 60) (w := R_s_at_fault_op_arg_codes w (nI j1) 0 op1 ar1 (nI c1)) h g2 rfl rfl (by decide) (by decide)).trans (by rw [decide_eq_false n60])
        refine bnd i1 ?_
        refine bnd (show f_R_hasSign (N2 + 1 + 1) (R_s_at_fault_op_arg_codes w (nI j1) 0 op1 ar1 (nI c1)) 60 = _ from hasS_n (c := 60) (w := R_s_at_fault_op_arg_codes w (nI j1) 0 op1 ar1 (nI c1)) h g2 rfl rfl (by decide) (by decide) n60) ?_
        refine zifp rfl ?_
        refine bnd (show f_R_hasSign (N2 + 1 + 1) (R_s_at_fault_op_arg_codes w (nI j1) 0 op1 ar1 (nI c1)) 61 = _ from hasS_n (c := 61) (w := R_s_at_fault_op_arg_codes w (nI j1) 0 op1 ar1 (nI c1)) h g2 rfl rfl (by decide) (by decide) n61) ?_
        exact zifp rfl rfl
      · refine bnd (rsign_B (w := R_s_at_fault_op_arg_codes w (nI j1) f1 op1 ar1 (nI c1)) g7) ?_
        refine bnd (hasS_d (j := j1) (w := R_s_at_fault_op_arg_codes w (nI j1) f1 op1 ar1 (nI c1)) rfl g7) ?_
        refine zifp rfl ?_
        refine bnd (hasS_d (j := j1) (w := R_s_at_fault_op_arg_codes w (nI j1) f1 op1 ar1 (nI c1)) rfl g7) ?_
        exact zifp rfl rfl
theorem j_four {Y : VR → Option (Int32 × Int32 × (Nat → Int32) × (Nat → Int32) × Int32)} (hP : JE nf D (fun v1 v3 => rP v0 v1 v2 v3 wi) Y) : JE nf D (fun v1 v3 => f_Reader_readJoined_b rP rJ N v0 v1 v2 v3 (nI 4) wi) Y := by
  intro n m j s c f cd op ar v1 v3 w hst
  obtain ⟨j1, s1, c1, f1, cd1, op1, ar1, x1, y1, r1⟩ := hP n m j s c f cd op ar v1 v3 w hst
  refine ⟨j1, s1, c1, f1, cd1, op1, ar1, ?_, y1, r1⟩
  show f_Reader_readJoined_b rP rJ N v0 v1 v2 v3 (nI 4) wi = _
  unfold f_Reader_readJoined_b
  refine zifn (by decide) ?_
  exact bnd x1 rfl
end LEVELS
/-! the depths -/
theorem lv_all {N nf D A B wi : Nat} (hN : 10000 ≤ N) {v0 : VReader} {v2 : VTown} (hP : ∀ e e', A ≤ e → B ≤ e' → JE nf D (fun v1 v3 => (g_Reader_readPart_Reader_readJoined N e).1 v0 v1 v2 v3 (nI wi)) (fun w => (g_R_takePart_R_products_R_sums_R_test_R_all N e').1 w (nI wi))) : ∀ e e', A + 5 ≤ e → B + 4 ≤ e' → JE nf (D + 4) (fun v1 v3 => (g_Reader_readPart_Reader_readJoined N e).2 v0 v1 v2 v3 (nI 0) (nI wi)) (fun w => (g_R_takePart_R_products_R_sums_R_test_R_all N e').2.2.2.2 w (nI wi)) := by
  intro e e' he he'
  obtain ⟨e, rfl⟩ : ∃ x, e = x + 1 + 1 + 1 + 1 + 1 := ⟨e - 5, by omega⟩
  obtain ⟨e', rfl⟩ : ∃ x, e' = x + 1 + 1 + 1 + 1 := ⟨e' - 4, by omega⟩
  have h4 := j_four (N := N) (rJ := (g_Reader_readPart_Reader_readJoined N e).2) (hP e e' (by omega) (by omega))
  have h3 := j_products (N := N) (rP := (g_Reader_readPart_Reader_readJoined N (e + 1)).1) (rJ := (g_Reader_readPart_Reader_readJoined N (e + 1)).2) (rT := (g_R_takePart_R_products_R_sums_R_test_R_all N e').1) (rPr := (g_R_takePart_R_products_R_sums_R_test_R_all N e').2.1) (rS := (g_R_takePart_R_products_R_sums_R_test_R_all N e').2.2.1) (rTe := (g_R_takePart_R_products_R_sums_R_test_R_all N e').2.2.2.1) (rA := (g_R_takePart_R_products_R_sums_R_test_R_all N e').2.2.2.2) hN h4
  have h2 := j_sums (N := N) (rP := (g_Reader_readPart_Reader_readJoined N (e + 1 + 1)).1) (rJ := (g_Reader_readPart_Reader_readJoined N (e + 1 + 1)).2) (rT := (g_R_takePart_R_products_R_sums_R_test_R_all N (e' + 1)).1) (rPr := (g_R_takePart_R_products_R_sums_R_test_R_all N (e' + 1)).2.1) (rS := (g_R_takePart_R_products_R_sums_R_test_R_all N (e' + 1)).2.2.1) (rTe := (g_R_takePart_R_products_R_sums_R_test_R_all N (e' + 1)).2.2.2.1) (rA := (g_R_takePart_R_products_R_sums_R_test_R_all N (e' + 1)).2.2.2.2) hN h3
  have h1 := j_test (N := N) (rP := (g_Reader_readPart_Reader_readJoined N (e + 1 + 1 + 1)).1) (rJ := (g_Reader_readPart_Reader_readJoined N (e + 1 + 1 + 1)).2) (rT := (g_R_takePart_R_products_R_sums_R_test_R_all N (e' + 1 + 1)).1) (rPr := (g_R_takePart_R_products_R_sums_R_test_R_all N (e' + 1 + 1)).2.1) (rS := (g_R_takePart_R_products_R_sums_R_test_R_all N (e' + 1 + 1)).2.2.1) (rTe := (g_R_takePart_R_products_R_sums_R_test_R_all N (e' + 1 + 1)).2.2.2.1) (rA := (g_R_takePart_R_products_R_sums_R_test_R_all N (e' + 1 + 1)).2.2.2.2) hN h2
  exact j_all (N := N) (rP := (g_Reader_readPart_Reader_readJoined N (e + 1 + 1 + 1 + 1)).1) (rJ := (g_Reader_readPart_Reader_readJoined N (e + 1 + 1 + 1 + 1)).2) (rT := (g_R_takePart_R_products_R_sums_R_test_R_all N (e' + 1 + 1 + 1)).1) (rPr := (g_R_takePart_R_products_R_sums_R_test_R_all N (e' + 1 + 1 + 1)).2.1) (rS := (g_R_takePart_R_products_R_sums_R_test_R_all N (e' + 1 + 1 + 1)).2.2.1) (rTe := (g_R_takePart_R_products_R_sums_R_test_R_all N (e' + 1 + 1 + 1)).2.2.2.1) (rA := (g_R_takePart_R_products_R_sums_R_test_R_all N (e' + 1 + 1 + 1)).2.2.2.2) hN h1
theorem j_parts {N nf : Nat} (hN : 10000 ≤ N) (hnf : nf = 3 ∨ nf = 5) {v0 : VReader} {v2 : VTown} (hfk : Reader_factsKnown v0 = nI nf) : ∀ (k wi : Nat), wi + k = 5 → ∀ e e', 6 * k + 1 ≤ e → 5 * k + 1 ≤ e' → JE nf (4 * k + 1) (fun v1 v3 => (g_Reader_readPart_Reader_readJoined N e).1 v0 v1 v2 v3 (nI wi)) (fun w => (g_R_takePart_R_products_R_sums_R_test_R_all N e').1 w (nI wi))
  | 0, wi, hk, e + 1, e' + 1, _, _ => j_part (rP := (g_Reader_readPart_Reader_readJoined N e).1) (rJ := (g_Reader_readPart_Reader_readJoined N e).2) (rT := (g_R_takePart_R_products_R_sums_R_test_R_all N e').1) (rPr := (g_R_takePart_R_products_R_sums_R_test_R_all N e').2.1) (rS := (g_R_takePart_R_products_R_sums_R_test_R_all N e').2.2.1) (rTe := (g_R_takePart_R_products_R_sums_R_test_R_all N e').2.2.2.1) (rA := (g_R_takePart_R_products_R_sums_R_test_R_all N e').2.2.2.2) (D' := 1) (D := 1) hN hnf (by omega) (by omega) (by omega) hfk (fun q => absurd q (by omega)) (fun q => absurd q (by omega))
  | k + 1, wi, hk, 0, _, h, _ => absurd h (by omega)
  | k + 1, wi, hk, _, 0, _, h => absurd h (by omega)
  | k + 1, wi, hk, e + 1, e' + 1, h1, h2 => by
    have ih := j_parts hN hnf hfk (v2 := v2) k (wi + 1) (by omega)
    refine j_part (rP := (g_Reader_readPart_Reader_readJoined N e).1) (rJ := (g_Reader_readPart_Reader_readJoined N e).2) (rT := (g_R_takePart_R_products_R_sums_R_test_R_all N e').1) (rPr := (g_R_takePart_R_products_R_sums_R_test_R_all N e').2.1) (rS := (g_R_takePart_R_products_R_sums_R_test_R_all N e').2.2.1) (rTe := (g_R_takePart_R_products_R_sums_R_test_R_all N e').2.2.2.1) (rA := (g_R_takePart_R_products_R_sums_R_test_R_all N e').2.2.2.2) (D' := 4 * k + 1 + 4) (D := 4 * (k + 1) + 1) hN hnf (by omega) (by omega) (by omega) hfk (fun _ => (ih e e' (by omega) (by omega)).mono (by omega)) (fun _ => ?_)
    exact lv_all (A := 6 * k + 1) (B := 5 * k + 1) hN ih e e' (by omega) (by omega)
/-- a whole E, read by both -/
theorem j_E {N nf : Nat} (hN : 10000 ≤ N) (hnf : nf = 3 ∨ nf = 5) {v0 : VReader} {v2 : VTown} (hfk : Reader_factsKnown v0 = nI nf) : JE nf 25 (fun v1 v3 => f_Reader_readJoined 64 N v0 v1 v2 v3 0 0) (fun w => f_R_all 64 N w 0) :=
  lv_all (D := 21) (A := 31) (B := 26) (wi := 0) hN (fun e e' h1 h2 => j_parts hN hnf hfk 5 0 rfl e e' h1 h2) 64 64 (by decide) (by decide)
