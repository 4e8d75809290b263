/-! ===== the lines of the SIGN and of a BAR ===== -/
section BEE
variable {N n m j : Nat} {v0 : VReader} {v : VTape} {v2 : VTown} {v3 : VLaws} {w : VR}
theorem number_B (hf : dead (Tape_fault v)) {mo : Int32} : f_Tape_readNumber N v mo = some (0, Tape_at v, Tape_fault v) := by
  unfold f_Tape_readNumber
  refine bnd (token_B hf) ?_
  refine zifn (by decide) ?_
  exact bnd (wrong_B hf) rfl
theorem told_B (hf : dead (Tape_fault v)) {t : Nat} {mo : Int32} (ht : 4 < t) (ht2 : t < 2 ^ 31) : f_Reader_readTold N v0 v v2 v3 (nI t) mo = some (0, Tape_at v, Tape_fault v) := by
  unfold f_Reader_readTold
  refine bnd (expect_B hf ht ht2) ?_
  exact bnd (number_B (v := Tape_s_at_fault v (Tape_at v) (Tape_fault v)) hf) rfl
theorem person_B (hf : dead (Tape_fault v)) : f_Tape_readPerson N v v2 v3 = some (-1, Tape_at v, Tape_fault v) := by
  unfold f_Tape_readPerson
  refine bnd (isName_B hf) ?_
  refine zifp rfl ?_
  refine bnd (isName_B hf) ?_
  rw [if_pos (rfl : (0 : Int32) = 0)]
  exact bnd (wrong_B hf) rfl
theorem expect_A (h : LexAt n m v w) (hj : j < m) (ha : Tape_at v = nI j) (hf : Tape_fault v = 0) {t : Int32} (ht : Tape_tokens v j = t) : f_Tape_expect N v t = some (nI (j + 1), Tape_fault v) := by
  unfold f_Tape_expect
  refine bnd (token_A h (by omega) ha hf) ?_
  rw [ht]
  refine zifp rfl ?_
  exact bnd (adv_A h hj ha hf) rfl
end BEE
theorem j_signLine {N n m j p s c : Nat} {v0 : VReader} {v1 : VTape} {v2 : VTown} {v3 : VLaws} {w : VR} (h : LexAt n m v1 w) (hj : j ≤ m) (ha : Tape_at v1 = nI j) (hf : Tape_fault v1 = 0) (ra : R_at w = nI j) (rf : R_fault w = 0) (ht : Tape_tokens v1 j = 134) (hd : DR j p s c v2 v3 (R_towns w) (R_op w) (R_arg w) (R_readNames w) (R_readMany w) (R_hasSigned w)) : ∃ j' f' sg st tw' hs', f_Reader_readSign N v0 v1 v2 v3 = some (nI j', f', sg, st) ∧ f_R_readOnce N w = some (nI j', f', tw', R_op w, R_arg w, R_codes w, hs', R_factsHere w) ∧ j ≤ j' ∧ j' ≤ m ∧ (f' = 0 ∨ dead f') ∧ FrD (R_towns w) (R_op w) (R_arg w) tw' (R_op w) (R_arg w) ∧ (f' = 0 → j < j' ∧ DR j' p s c (Town_s_people_names_kinds_skills_purses_debts_homes_barred_bars_sign_signTold v2 (Town_people v2) (Town_names v2) (Town_kinds v2) (Town_skills v2) (Town_purses v2) (Town_debts v2) (Town_homes v2) (Town_barred v2) (Town_bars v2) sg st) v3 tw' (R_op w) (R_arg w) (R_readNames w) (R_readMany w) hs') := by
  obtain ⟨hper, hbar, hsgn, hsz, hs, hc, hlaw⟩ := hd
  have hm := h.m1000
  have hlt : j < m := tk_lt h hj (fun q => by rw [q] at ht; exact absurd ht (by decide))
  have i6 : f_R_isWord N w 6 = some (bI true) := (rword_A (k := 6) h hj ra rf (by decide)).trans (by rw [decide_eq_true (show Tape_tokens v1 j = nI (128 + 6) from ht)])
  by_cases c1 : Town_signTold v2 = 0
  · have c2 : R_hasSigned w = 0 := hsgn.2.1.symm.trans c1
    obtain ⟨⟨a1, a2, a3⟩, e1, ⟨b1, b2, b3⟩, e2, hps, hal⟩ := j_number (N := N) (n := n) (m := m) (i := j + 1) (v := Tape_s_at_fault v1 (nI (j + 1)) (Tape_fault v1)) (w := R_s_at_hasSigned w (nI (j + 1)) 1) h ⟨j + 1, Nat.le_refl _, hlt, rfl, rfl, hf.trans rf.symm, Or.inl hf⟩ (mo := 999) (by decide)
    obtain ⟨j2, k1, k2, k3, k4, k5, k6⟩ := hps
    have k3' : a2 = nI j2 := k3
    have k4' : b2 = nI j2 := k4
    have k5' : a3 = b3 := k5
    subst k3' k4' k5'
    refine ⟨j2, a3, a1, 1, upd (R_towns w) 82 b1, 1, ?_, ?_, by omega, k2, k6, ⟨fun i hi => pk_un (by omega), fun _ _ => ⟨rfl, rfl⟩⟩, fun q => ?_⟩
    · unfold f_Reader_readSign
      refine zifp c1 ?_
      refine bnd (a := (a1, nI j2, a3)) ?_ rfl
      unfold f_Reader_readTold
      refine bnd (expect_A h hlt ha hf ht) ?_
      exact bnd e1 rfl
    · unfold f_R_readOnce
      refine bnd i6 ?_
      refine zifn (by decide) ?_
      rw [rf, ra, show nI j + 1 = nI (j + 1) from nI_1 j]
      refine zifp c2 ?_
      refine zifp (by decide) ?_
      refine bnd e2 ?_
      rfl
    · obtain ⟨-, g1, x, g2, g3⟩ := hal q
      have g1' : a1 = b1 := g1
      have g3' : a1 = nI x := g3
      subst g1'
      refine ⟨by omega, ?_, ?_, ⟨⟨x, g2, g3', by rw [pk_us]; exact g3'⟩, rfl, Or.inr rfl⟩, hsz, by omega, by omega, fun k hk => ?_⟩
      · obtain ⟨p1, p2, p3, p4, p5, p6, p7⟩ := hper
        refine ⟨p1, p2, by rw [pk_un (by omega)]; exact p3, p4, p5, fun l hl => ?_, p7⟩
        rw [pk_un (by omega), pk_un (by omega), pk_un (by omega), pk_un (by omega), pk_un (by omega)]
        exact p6 l hl
      · obtain ⟨p1, p2⟩ := hbar
        refine ⟨by rw [pk_un (by omega)]; exact p1, fun p' l hp hl => ?_⟩
        rw [pk_un (by omega)]
        exact p2 p' l hp hl
      · exact (hlaw k hk).mono (by omega) (Nat.le_refl _) (Nat.le_refl _) (pk_un (by omega)) rfl rfl (fun _ _ => rfl) (fun _ _ => ⟨rfl, rfl⟩)
  · have c2 : ¬ R_hasSigned w = 0 := fun q => c1 (hsgn.2.1.trans q)
    obtain ⟨F, hF, w1, w1'⟩ := wrong_A (N := N) h hj ha hf ra rf (k := 3) (by decide) (by decide)
    refine ⟨j, F, 0, 1, R_towns w, R_hasSigned w, ?_, ?_, Nat.le_refl _, hj, Or.inr hF, FrD.refl _ _ _, fun q => absurd q hF.ne⟩
    · unfold f_Reader_readSign
      refine zifn c1 ?_
      refine bnd w1 ?_
      refine bnd (told_B (v := Tape_fault_s v1 F) hF (t := 134) (by decide) (by decide)) ?_
      show some (Tape_at v1, F, _, _) = _
      rw [ha]
    · unfold f_R_readOnce
      refine bnd i6 ?_
      refine zifn (by decide) ?_
      rw [rf, ra]
      refine zifn c2 ?_
      refine bnd w1' ?_
      exact zifn hF.nle rfl
/-! a BAR -/
theorem barD_set {tw : Nat → Int32} {v2 : VTown} {q l : Nat} (hq : q < 6) (hl : l < 6) (h : barD tw v2) (x : Int32) : barD (upd (upd tw (118 + 6 * q + l) 1) 81 (tw 81 + 1)) (Town_s_people_names_kinds_skills_purses_debts_homes_barred_bars_sign_signTold v2 (Town_people v2) (Town_names v2) (Town_kinds v2) (Town_skills v2) (Town_purses v2) (Town_debts v2) (Town_homes v2) (upd (Town_barred v2) q (Town_barred v2 q ||| ((1 : Int32) <<< (nI l &&& 31)))) (Town_bars v2 + 1) (Town_sign v2) x) := by
  obtain ⟨h1, h2⟩ := h
  refine ⟨?_, fun p' l' hp hl' => ?_⟩
  · show Town_bars v2 + 1 = _
    rw [pk_us, h1]
  · show (upd (upd tw (118 + 6 * q + l) 1) 81 (tw 81 + 1) (118 + 6 * p' + l') = 0 ∧ ((upd (Town_barred v2) q (Town_barred v2 q ||| ((1 : Int32) <<< (nI l &&& 31))) p' >>> (nI l' &&& 31)) &&& 1) = 0) ∨ (upd (upd tw (118 + 6 * q + l) 1) 81 (tw 81 + 1) (118 + 6 * p' + l') = 1 ∧ ¬ ((upd (Town_barred v2) q (Town_barred v2 q ||| ((1 : Int32) <<< (nI l &&& 31))) p' >>> (nI l' &&& 31)) &&& 1) = 0)
    rw [pk_un (by omega)]
    by_cases e : p' = q
    · subst e
      rw [pk_us, bit_ok _ hl', bit_or _ hl hl']
      by_cases e2 : l = l'
      · subst e2
        rw [pk_us, decide_eq_true rfl, Bool.or_true]
        exact Or.inr ⟨rfl, by decide⟩
      · rw [pk_un (by omega), decide_eq_false e2, Bool.or_false, ← bit_ok _ hl']
        exact h2 p' l' hp hl'
    · rw [pk_un (by omega), pk_un e]
      exact h2 p' l' hp hl'
theorem addBar_ok {N q l p : Nat} {v2 : VTown} {v3 : VLaws} (hT : tpl v2 p) (hq : q < p) (hl : l < p) : f_Town_addBar N v2 v3 (nI q) (nI l) = some (upd (Town_barred v2) q (Town_barred v2 q ||| ((1 : Int32) <<< (nI l &&& 31))), Town_bars v2 + 1) := by
  have h6 := hT.2
  have ix : ¬ (nI q < 0 ∨ 6 ≤ q) := fun q2 => q2.elim (nI_pos (by omega)) (fun y => by omega)
  unfold f_Town_addBar
  rw [nI_clamp (n := q) (by omega)]
  refine bnd (has_ok hT hq) ?_
  refine zifn (by decide) ?_
  refine bnd (has_ok hT hl) ?_
  refine zifn (by decide) ?_
  refine zifn ix ?_
  exact zifn ix rfl
theorem j_barLine {N n m j p s c : Nat} (hN : 10000 ≤ N) {v0 : VReader} {v1 : VTape} {v2 : VTown} {v3 : VLaws} {w : VR} (h : LexAt n m v1 w) (hj : j ≤ m) (ha : Tape_at v1 = nI j) (hf : Tape_fault v1 = 0) (ra : R_at w = nI j) (rf : R_fault w = 0) (ht : Tape_tokens v1 j = 133) (hd : DR j p s c v2 v3 (R_towns w) (R_op w) (R_arg w) (R_readNames w) (R_readMany w) (R_hasSigned w)) : ∃ j' f' ba bs tw', f_Reader_readBar N v0 v1 v2 v3 = some (nI j', f', ba, bs) ∧ f_R_readBar N w = some (nI j', f', tw') ∧ j ≤ j' ∧ j' ≤ m ∧ (f' = 0 ∨ dead f') ∧ FrD (R_towns w) (R_op w) (R_arg w) tw' (R_op w) (R_arg w) ∧ (f' = 0 → j < j' ∧ DR j' p s c (Town_s_people_names_kinds_skills_purses_debts_homes_barred_bars_sign_signTold v2 (Town_people v2) (Town_names v2) (Town_kinds v2) (Town_skills v2) (Town_purses v2) (Town_debts v2) (Town_homes v2) ba bs (Town_sign v2) (Town_signTold v2)) v3 tw' (R_op w) (R_arg w) (R_readNames w) (R_readMany w) (R_hasSigned w)) := by
  obtain ⟨hper, hbar, hsgn, hsz, hs, hc, hlaw⟩ := hd
  obtain ⟨p1, p2, p3, p4, p5, p6, p7⟩ := hper
  have hT : tpl v2 p := ⟨p2, p1⟩
  have hm := h.m1000
  have hlt : j < m := tk_lt h hj (fun q => by rw [q] at ht; exact absurd ht (by decide))
  obtain ⟨⟨a1, a2, a3⟩, e1, ⟨b1, b2, b3⟩, e2, hps, hal⟩ := j_person (N := N) (n := n) (m := m) (i := j + 1) (v := Tape_at_s v1 (nI (j + 1))) (w := R_at_s w (nI (j + 1))) (v2 := v2) (v3 := v3) (y := 1) (cn := Town_names v2) (rn := R_readNames w) hN h ⟨j + 1, Nat.le_refl _, hlt, rfl, rfl, hf.trans rf.symm, Or.inl hf⟩ p1 p2 rfl (Or.inl ⟨rfl, p4, rfl⟩) p5
  obtain ⟨j2, k1, k2, k3, k4, k5, k6⟩ := hps
  have k3' : a2 = nI j2 := k3
  have k4' : b2 = nI j2 := k4
  have k5' : a3 = b3 := k5
  subst k3' k4' k5'
  have adv := adv_A (N := N) h hlt ha hf
  have hw1 : R_at w + 1 = nI (j + 1) := by rw [ra]; exact nI_1 j
  rcases k6 with k6 | k6
  · have k6' : a3 = 0 := k6
    subst k6'
    obtain ⟨-, g1, q, g2, g3⟩ := hal rfl
    have g1' : a1 = b1 := g1
    have g3' : a1 = nI q := g3
    subst g1' g3'
    have hT1 : LexAt n m (Tape_s_at_fault v1 (nI j2) 0) (R_s_at_fault w (nI j2) 0) := h
    have hin := isName_A (N := N) (v := Tape_s_at_fault v1 (nI j2) 0) (w := R_s_at_fault w (nI j2) 0) (j := j2) h k2 rfl rfl
    cases hnm : isNm (Tape_tokens v1 j2) with
    | false =>
      have hin' : f_Tape_isName N (Tape_s_at_fault v1 (nI j2) 0) = some 0 := hin.trans (congrArg (fun b => some (bI b)) hnm)
      obtain ⟨F, hF, w1, w2⟩ := wrong_A (N := N) (v := Tape_s_at_fault v1 (nI j2) 0) (w := R_s_at_fault w (nI j2) 0) (j := j2) h k2 rfl rfl rfl rfl (k := 1) (by decide) (by decide)
      refine ⟨j2, F, Town_barred v2, Town_bars v2, R_towns w, ?_, ?_, by omega, k2, Or.inr hF, FrD.refl _ _ _, fun q => absurd q hF.ne⟩
      · unfold f_Reader_readBar
        refine bnd adv ?_
        refine bnd e1 ?_
        refine bnd hin' ?_
        refine zifp rfl ?_
        refine bnd (a := (-1, nI j2, F)) ?_ (zifn hF.ne rfl)
        unfold f_Tape_readPerson
        refine bnd hin' ?_
        refine zifp rfl ?_
        refine bnd hin' ?_
        rw [if_pos (rfl : (0 : Int32) = 0)]
        exact bnd w1 rfl
      · unfold f_R_readBar
        rw [hw1]
        refine bnd e2 ?_
        refine bnd (rtold_no (w := R_s_at_fault w (nI j2) 0) (v := Tape_s_at_fault v1 (nI j2) 0) (j := j2) hN h k2 rfl rfl hnm hF w2) ?_
        refine zifn hF.ne ?_
        exact zifn hF.ne rfl
    | true =>
      have hin' : f_Tape_isName N (Tape_s_at_fault v1 (nI j2) 0) = some 1 := hin.trans (congrArg (fun b => some (bI b)) hnm)
      have hlt2 : j2 < m := tk_lt h k2 (nm_ne0 hnm)
      have hval : f_Tape_value N (Tape_s_at_fault v1 (nI j2) 0) = some (Tape_values v1 j2) := value_A (v := Tape_s_at_fault v1 (nI j2) 0) (w := R_s_at_fault w (nI j2) 0) h k2 rfl
      rcases names_both hN (v := Tape_s_at_fault v1 (nI j2) 0) (w := R_s_at_fault w (nI j2) 0) (v2 := v2) (v3 := v3) (y := 1) (cn := Town_names v2) (rn := R_readNames w) h k2 rfl hnm p1 p2 rfl (Or.inl ⟨rfl, p4, rfl⟩) p5 with ⟨l, hl, n1, n2⟩ | ⟨n1, n2, -⟩
      · have n1' : f_Town_named N v2 v3 (Tape_values v1 j2) = some (nI l) := n1
        have hth : f_R_toldHere N (R_s_at_fault w (nI j2) 0) 1 = some (nI l, 0) := rtold_yes (w := R_s_at_fault w (nI j2) 0) (v := Tape_s_at_fault v1 (nI j2) 0) (j := j2) hN h k2 rfl rfl hnm (by omega) n2
        obtain ⟨F, hF, w1, w2⟩ := wrong_A (N := N) (v := Tape_s_at_fault v1 (nI j2) 0) (w := R_s_at_fault w (nI j2) 0) (j := j2) h k2 rfl rfl rfl rfl (k := 3) (by decide) (by decide)
        have pB := person_B (N := N) (v := Tape_s_at_fault v1 (nI j2) F) (v2 := v2) (v3 := v3) hF
        have eix : (118 : Int32) + 6 * nI q + nI l = nI (118 + 6 * q + l) := by
          rw [show (118 : Int32) = nI 118 from rfl, show (6 : Int32) = nI 6 from rfl, pk_mul, nI_add, nI_add]
        have ix : ¬ (nI (118 + 6 * q + l) < 0 ∨ 160 ≤ 118 + 6 * q + l) := fun q2 => q2.elim (nI_pos (by omega)) (fun y => by omega)
        by_cases c1 : l = q
        · subst c1
          refine ⟨j2, F, Town_barred v2, Town_bars v2, R_towns w, ?_, ?_, by omega, k2, Or.inr hF, FrD.refl _ _ _, fun q => absurd q hF.ne⟩
          · unfold f_Reader_readBar
            refine bnd adv ?_
            refine bnd e1 ?_
            refine bnd hin' ?_
            refine zifn (by decide) ?_
            refine bnd hval ?_
            refine bnd n1' ?_
            refine zifn (nI_nem1 (by omega)) ?_
            refine zifp rfl ?_
            refine bnd w1 ?_
            refine bnd pB ?_
            exact zifn hF.ne rfl
          · unfold f_R_readBar
            rw [hw1]
            refine bnd e2 ?_
            refine bnd hth ?_
            refine zifp rfl ?_
            refine zifp rfl ?_
            refine bnd w2 ?_
            exact zifn hF.ne rfl
        · have hne : ¬ nI l = nI q := fun q2 => c1 ((nI_eq (by omega) (by omega)).mp q2)
          have hne' : ¬ nI q = nI l := fun q2 => hne q2.symm
          have hib := isBarred_ok (N := N) (v3 := v3) hT g2 hl
          rcases hbar.2 q l (by omega) (by omega) with ⟨t1, t2⟩ | ⟨t1, t2⟩
          · -- a new one
            rw [if_pos t2] at hib
            refine ⟨j2 + 1, 0, upd (Town_barred v2) q (Town_barred v2 q ||| ((1 : Int32) <<< (nI l &&& 31))), Town_bars v2 + 1, upd (upd (R_towns w) (118 + 6 * q + l) 1) 81 (R_towns w 81 + 1), ?_, ?_, by omega, by omega, Or.inl rfl, ⟨fun i hi => (pk_un (by omega)).trans (pk_un (by omega)), fun _ _ => ⟨rfl, rfl⟩⟩, fun _ => ⟨by omega, ?_, ?_, ?_, hsz, by omega, by omega, fun k hk => ?_⟩⟩
            · unfold f_Reader_readBar
              refine bnd adv ?_
              refine bnd e1 ?_
              refine bnd hin' ?_
              refine zifn (by decide) ?_
              refine bnd hval ?_
              refine bnd n1' ?_
              refine zifn (nI_nem1 (by omega)) ?_
              refine zifn hne ?_
              refine bnd hib ?_
              refine zifp rfl ?_
              refine bnd (a := (nI l, nI (j2 + 1), 0)) ?_ ?_
              · unfold f_Tape_readPerson
                refine bnd hin' ?_
                refine zifn (by decide) ?_
                refine bnd hval ?_
                refine bnd n1' ?_
                refine zifn (nI_nem1 (by omega)) ?_
                exact bnd (adv_A (v := Tape_s_at_fault v1 (nI j2) 0) (w := R_s_at_fault w (nI j2) 0) h hlt2 rfl rfl) rfl
              · refine zifp rfl ?_
                exact bnd (addBar_ok hT g2 hl) rfl
            · unfold f_R_readBar
              rw [hw1]
              refine bnd e2 ?_
              refine bnd hth ?_
              show (if (0 : Int32) = 0 then _ else _) = _
              refine zifp rfl ?_
              refine zifn hne' ?_
              show (if (118 : Int32) + 6 * nI q + nI l < 0 ∨ _ then _ else _) = _
              rw [eix, nI_clamp (n := 118 + 6 * q + l) (by omega)]
              refine zifn ix ?_
              refine zifn (by rw [t1]; decide) ?_
              refine zifp rfl ?_
              refine zifn ix ?_
              refine zletE ?_
              refine zletE ?_
              show some (nI j2 + 1, (0 : Int32), upd (upd (R_towns w) (118 + 6 * q + l) 1) 81 (upd (R_towns w) (118 + 6 * q + l) 1 81 + 1)) = _
              rw [pk_un (by omega), show nI j2 + 1 = nI (j2 + 1) from nI_1 j2]
            · refine ⟨p1, p2, ?_, p4, p5, fun l' hl' => ?_, p7⟩
              · rw [pk_un (by omega), pk_un (by omega)]
                exact p3
              · rw [pk_un (by omega), pk_un (by omega), pk_un (by omega), pk_un (by omega), pk_un (by omega), pk_un (by omega), pk_un (by omega), pk_un (by omega), pk_un (by omega), pk_un (by omega)]
                exact p6 l' hl'
            · exact barD_set (by omega) (by omega) hbar _
            · obtain ⟨⟨g, a1, a2, a3⟩, a4⟩ := hsgn
              exact ⟨⟨g, a1, a2, by rw [pk_un (by omega), pk_un (by omega)]; exact a3⟩, a4⟩
            · exact (hlaw k hk).mono (by omega) (Nat.le_refl _) (Nat.le_refl _) (by rw [pk_un (by omega), pk_un (by omega)]) rfl rfl (fun _ _ => rfl) (fun _ _ => ⟨rfl, rfl⟩)
          · -- told before
            rw [if_neg t2] at hib
            refine ⟨j2, F, Town_barred v2, Town_bars v2, R_towns w, ?_, ?_, by omega, k2, Or.inr hF, FrD.refl _ _ _, fun q => absurd q hF.ne⟩
            · unfold f_Reader_readBar
              refine bnd adv ?_
              refine bnd e1 ?_
              refine bnd hin' ?_
              refine zifn (by decide) ?_
              refine bnd hval ?_
              refine bnd n1' ?_
              refine zifn (nI_nem1 (by omega)) ?_
              refine zifn hne ?_
              refine bnd hib ?_
              refine zifn (by decide) ?_
              refine bnd w1 ?_
              refine bnd pB ?_
              exact zifn hF.ne rfl
            · unfold f_R_readBar
              rw [hw1]
              refine bnd e2 ?_
              refine bnd hth ?_
              show (if (0 : Int32) = 0 then _ else _) = _
              refine zifp rfl ?_
              refine zifn hne' ?_
              show (if (118 : Int32) + 6 * nI q + nI l < 0 ∨ _ then _ else _) = _
              rw [eix, nI_clamp (n := 118 + 6 * q + l) (by omega)]
              refine zifn ix ?_
              refine zifp t1 ?_
              refine bnd w2 ?_
              exact zifn hF.ne rfl
      · have n1' : f_Town_named N v2 v3 (Tape_values v1 j2) = some (-1) := n1
        obtain ⟨F, hF, w1, w2⟩ := wrong_A (N := N) (v := Tape_s_at_fault v1 (nI j2) 0) (w := R_s_at_fault w (nI j2) 0) (j := j2) h k2 rfl rfl rfl rfl (k := 2) (by decide) (by decide)
        refine ⟨j2, F, Town_barred v2, Town_bars v2, R_towns w, ?_, ?_, by omega, k2, Or.inr hF, FrD.refl _ _ _, fun q => absurd q hF.ne⟩
        · unfold f_Reader_readBar
          refine bnd adv ?_
          refine bnd e1 ?_
          refine bnd hin' ?_
          refine zifn (by decide) ?_
          refine bnd hval ?_
          refine bnd n1' ?_
          refine zifp rfl ?_
          refine bnd (a := (-1, nI j2, F)) ?_ (zifn hF.ne rfl)
          unfold f_Tape_readPerson
          refine bnd hin' ?_
          refine zifn (by decide) ?_
          refine bnd hval ?_
          refine bnd n1' ?_
          refine zifp rfl ?_
          refine bnd hin' ?_
          rw [if_neg (by decide : ¬ (1 : Int32) = 0)]
          exact bnd w1 rfl
        · unfold f_R_readBar
          rw [hw1]
          refine bnd e2 ?_
          refine bnd (rtold_none (w := R_s_at_fault w (nI j2) 0) (v := Tape_s_at_fault v1 (nI j2) 0) (j := j2) hN h k2 rfl rfl hnm n2 hF w2) ?_
          refine zifn hF.ne ?_
          exact zifn hF.ne rfl
  · -- dead from the first
    have k6' : dead a3 := k6
    refine ⟨j2, a3, Town_barred v2, Town_bars v2, R_towns w, ?_, ?_, by omega, k2, Or.inr k6', FrD.refl _ _ _, fun q => absurd q k6'.ne⟩
    · unfold f_Reader_readBar
      refine bnd adv ?_
      refine bnd e1 ?_
      refine bnd (isName_B (v := Tape_s_at_fault v1 (nI j2) a3) k6') ?_
      refine zifp rfl ?_
      refine bnd (person_B (v := Tape_s_at_fault v1 (nI j2) a3) k6') ?_
      exact zifn k6'.ne rfl
    · unfold f_R_readBar
      rw [hw1]
      refine bnd e2 ?_
      refine bnd (rtold_B (w := R_s_at_fault w (nI j2) a3) k6') ?_
      refine zifn k6'.ne ?_
      exact zifn k6'.ne rfl
