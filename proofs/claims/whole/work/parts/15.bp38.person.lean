/-! ===== the line of a PERSON ===== -/
theorem evPS {m i : Nat} {x y : Option (Int32 × Int32 × Int32)} {Q : Int32 × Int32 × Int32 → Int32 × Int32 × Int32 → Prop} (h : Ev x (fun a => Ev y (fun b => PS m i a.2.1 a.2.2 b.2.1 b.2.2 ∧ (a.2.2 = 0 → Q a b)))) : ∃ a1 b1 j f, x = some (a1, nI j, f) ∧ y = some (b1, nI j, f) ∧ i ≤ j ∧ j ≤ m ∧ (f = 0 ∨ dead f) ∧ (f = 0 → Q (a1, nI j, f) (b1, nI j, f)) := by
  obtain ⟨⟨a1, a2, a3⟩, e1, ⟨b1, b2, b3⟩, e2, ⟨j, k1, k2, k3, k4, k5, k6⟩, hal⟩ := h
  have k3' : a2 = nI j := k3
  have k4' : b2 = nI j := k4
  have k5' : a3 = b3 := k5
  subst k3' k4' k5'
  exact ⟨a1, b1, j, a3, e1, e2, k1, k2, k6, hal⟩
theorem told_al {N t : Nat} {v0 : VReader} {v : VTape} {v2 : VTown} {v3 : VLaws} {mo x y f : Int32} (h : f_Reader_readTold N v0 v v2 v3 (nI t) mo = some (x, y, f)) (ht : 4 < t) (ht2 : t < 2 ^ 31) (hd : Tape_fault v = 0 ∨ dead (Tape_fault v)) (hf : f = 0) : Tape_fault v = 0 := by
  rcases hd with hd | hd
  · exact hd
  · rw [told_B hd ht ht2] at h
    have := (Prod.mk.inj (Prod.mk.inj (Option.some.inj h)).2).2
    exact this.trans hf
theorem kind_B {N : Nat} {v0 : VReader} {v : VTape} {v2 : VTown} {v3 : VLaws} (hf : dead (Tape_fault v)) : f_Reader_readKind N v0 v v2 v3 = some (4 - 143, Tape_at v, Tape_fault v) := by
  unfold f_Reader_readKind
  refine bnd (token_B hf) ?_
  refine zifp (by decide) ?_
  refine bnd (wrong_B hf) ?_
  exact bnd (adv_B (v := Tape_fault_s v (Tape_fault v)) hf) rfl
theorem kind_al {N : Nat} {v0 : VReader} {v : VTape} {v2 : VTown} {v3 : VLaws} {x y f : Int32} (h : f_Reader_readKind N v0 v v2 v3 = some (x, y, f)) (hd : Tape_fault v = 0 ∨ dead (Tape_fault v)) (hf : f = 0) : Tape_fault v = 0 := by
  rcases hd with hd | hd
  · exact hd
  · rw [kind_B hd] at h
    have := (Prod.mk.inj (Prod.mk.inj (Option.some.inj h)).2).2
    exact this.trans hf
def perT (tw : Nat → Int32) (p : Nat) (k s u d h : Int32) : Nat → Int32 := upd (upd (upd (upd (upd tw (88 + 5 * p) k) (88 + 5 * p + 1) s) (88 + 5 * p + 2) u) (88 + 5 * p + 3) d) (88 + 5 * p + 4) h
theorem perT_out {tw : Nat → Int32} {p : Nat} {k s u d h : Int32} {i : Nat} (hi : i < 88 + 5 * p ∨ 88 + 5 * p + 4 < i) : perT tw p k s u d h i = tw i := by
  unfold perT
  rw [pk_un (by omega), pk_un (by omega), pk_un (by omega), pk_un (by omega), pk_un (by omega)]
theorem perT_in {tw : Nat → Int32} {p : Nat} {k s u d h : Int32} : perT tw p k s u d h (88 + 5 * p + 0) = k ∧ perT tw p k s u d h (88 + 5 * p + 1) = s ∧ perT tw p k s u d h (88 + 5 * p + 2) = u ∧ perT tw p k s u d h (88 + 5 * p + 3) = d ∧ perT tw p k s u d h (88 + 5 * p + 4) = h := by
  unfold perT
  refine ⟨?_, ?_, ?_, ?_, ?_⟩
  · rw [pk_un (by omega), pk_un (by omega), pk_un (by omega), pk_un (by omega)]
    exact pk_us
  · rw [pk_un (by omega), pk_un (by omega), pk_un (by omega), pk_us]
  · rw [pk_un (by omega), pk_un (by omega), pk_us]
  · rw [pk_un (by omega), pk_us]
  · rw [pk_us]
theorem addPerson_ok {N p : Nat} {v2 : VTown} {v3 : VLaws} {a : Int64} {k s : Int32} (hp : p < 6) (h : Town_people v2 = nI p) : f_Town_addPerson N v2 v3 a k s = some (nI p, nI (p + 1), vp_updL (Town_names v2) p a, upd (Town_kinds v2) p k, upd (Town_skills v2) p s) := by
  have ix : ¬ (nI p < 0 ∨ 6 ≤ p) := fun q2 => q2.elim (nI_pos (by omega)) (fun y => by omega)
  unfold f_Town_addPerson
  rw [h, nI_clamp (n := p) (by omega)]
  refine zifn (nI_pos (by omega)) ?_
  refine zifp (ltR (L := 6) (b := 6) rfl hp (by decide)) ?_
  refine zifn ix ?_
  refine zifn ix ?_
  refine zifn ix ?_
  rw [show nI p + 1 = nI (p + 1) from nI_1 p, nI_pred]
theorem j_personLine {N n m j p s c : Nat} (hN : 10000 ≤ N) {v0 : VReader} {v1 : VTape} {v2 : VTown} {v3 : VLaws} {w : VR} (h : LexAt n m v1 w) (hj : j ≤ m) (ha : Tape_at v1 = nI j) (hf : Tape_fault v1 = 0) (ra : R_at w = nI j) (rf : R_fault w = 0) (ht : Tape_tokens v1 j = 128) (hd : DR j p s c v2 v3 (R_towns w) (R_op w) (R_arg w) (R_readNames w) (R_readMany w) (R_hasSigned w)) : ∃ j' f' pe na ki sk pu de ho tw' rn' rm', f_Reader_readPersonLine N v0 v1 v2 v3 = some (nI j', f', pe, na, ki, sk, pu, de, ho) ∧ f_R_readPerson N w = some (nI j', f', tw', rn', rm') ∧ j ≤ j' ∧ j' ≤ m ∧ (f' = 0 ∨ dead f') ∧ FrD (R_towns w) (R_op w) (R_arg w) tw' (R_op w) (R_arg w) ∧ (f' = 0 → j < j' ∧ ∃ p', DR j' p' s c (Town_s_people_names_kinds_skills_purses_debts_homes_barred_bars_sign_signTold v2 pe na ki sk pu de ho (Town_barred v2) (Town_bars v2) (Town_sign v2) (Town_signTold v2)) v3 tw' (R_op w) (R_arg w) rn' rm' (R_hasSigned w)) := by
  obtain ⟨hper, hbar, hsgn, hsz, hs, hc, hlaw⟩ := hd
  obtain ⟨p1, p2, p3, p4, p5, p6, p7⟩ := hper
  have hT : tpl v2 p := ⟨p2, p1⟩
  have hm := h.m1000
  have hlt : j < m := tk_lt h hj (fun q => by rw [q] at ht; exact absurd ht (by decide))
  have adv := adv_A (N := N) h hlt ha hf
  have hw1 : R_at w + 1 = nI (j + 1) := by rw [ra]; exact nI_1 j
  have p3' : R_towns w (Int32.toNatClampNeg 80) = nI p := p3
  have hno : f_Town_has N v2 v3 (-1) = some 0 := by
    unfold f_Town_has
    exact zifp (by decide) rfl
  by_cases c6 : p = 6
  · obtain ⟨F, hF, w1, w2⟩ := wrong_A (N := N) h hj ha hf ra rf (k := 5) (by decide) (by decide)
    refine ⟨j, F, Town_people v2, Town_names v2, Town_kinds v2, Town_skills v2, Town_purses v2, Town_debts v2, Town_homes v2, R_towns w, R_readNames w, R_readMany w, ?_, ?_, Nat.le_refl _, hj, Or.inr hF, FrD.refl _ _ _, fun q => absurd q hF.ne⟩
    · unfold f_Reader_readPersonLine
      refine zifn (by rw [p2, c6]; decide) ?_
      refine bnd w1 ?_
      rw [ha]
    · unfold f_R_readPerson
      refine zifp (by rw [p3', c6]; decide) ?_
      refine bnd w2 ?_
      rw [ra]
  · have c6' : p < 6 := by omega
    have hlt6 : Town_people v2 < 6 := by rw [p2]; exact ltR (L := 6) (b := 6) rfl c6' (by decide)
    have hne6 : ¬ R_towns w (Int32.toNatClampNeg 80) = 6 := by rw [p3']; exact nlit 6 rfl c6 (by omega) (by decide)
    have hval : f_Tape_value N (Tape_at_s v1 (nI (j + 1))) = some (Tape_values v1 (j + 1)) := value_A (v := Tape_at_s v1 (nI (j + 1))) (w := w) h hlt rfl
    have hin := isName_A (N := N) (v := Tape_at_s v1 (nI (j + 1))) (w := w) (j := j + 1) h hlt rfl hf
    have hrn := risName_A (N := N) (v := Tape_at_s v1 (nI (j + 1))) (w := R_at_s w (nI (j + 1))) (j := j + 1) hN h hlt rfl rf
    -- the dead end of a wrong name
    have deadC : ∀ (F : Int32) (x : Int64), dead F → f_Reader_readNewName N v0 (Tape_at_s v1 (nI (j + 1))) v2 v3 = some (x, nI (j + 1), F) → f_Reader_readPersonLine N v0 v1 v2 v3 = some (nI (j + 1), F, Town_people v2, Town_names v2, Town_kinds v2, Town_skills v2, Town_purses v2, Town_debts v2, Town_homes v2) := by
      intro F x hF e
      unfold f_Reader_readPersonLine
      refine zifp hlt6 ?_
      refine bnd adv ?_
      refine bnd e ?_
      refine bnd (kind_B (v := Tape_s_at_fault v1 (nI (j + 1)) F) hF) ?_
      refine bnd (told_B (v := Tape_s_at_fault v1 (nI (j + 1)) F) (t := 129) hF (by decide) (by decide)) ?_
      refine bnd (told_B (v := Tape_s_at_fault v1 (nI (j + 1)) F) (t := 130) hF (by decide) (by decide)) ?_
      refine bnd (told_B (v := Tape_s_at_fault v1 (nI (j + 1)) F) (t := 131) hF (by decide) (by decide)) ?_
      refine bnd (told_B (v := Tape_s_at_fault v1 (nI (j + 1)) F) (t := 132) hF (by decide) (by decide)) ?_
      refine zifn hF.ne ?_
      refine bnd hno ?_
      exact zifp rfl rfl
    cases hnm : isNm (Tape_tokens v1 (j + 1)) with
    | false =>
      have hin' : f_Tape_isName N (Tape_at_s v1 (nI (j + 1))) = some 0 := hin.trans (congrArg (fun b => some (bI b)) hnm)
      have hrn' : f_R_isName N (R_at_s w (nI (j + 1))) = some 0 := hrn.trans (congrArg (fun b => some (bI b)) hnm)
      obtain ⟨F, hF, w1, w2⟩ := wrong_A (N := N) (v := Tape_at_s v1 (nI (j + 1))) (w := R_at_s w (nI (j + 1))) (j := j + 1) h hlt rfl hf rfl rf (k := 1) (by decide) (by decide)
      refine ⟨j + 1, F, _, _, _, _, _, _, _, R_towns w, R_readNames w, R_readMany w, deadC F (Tape_values v1 (j + 1)) hF ?_, ?_, by omega, hlt, Or.inr hF, FrD.refl _ _ _, fun q => absurd q hF.ne⟩
      · unfold f_Reader_readNewName
        refine bnd hval ?_
        refine bnd hin' ?_
        refine zifp rfl ?_
        refine bnd w1 ?_
        exact bnd (adv_B (v := Tape_fault_s (Tape_at_s v1 (nI (j + 1))) F) hF) rfl
      · unfold f_R_readPerson
        refine zifn hne6 ?_
        rw [hw1]
        refine bnd hrn' ?_
        refine zifp rfl ?_
        refine bnd w2 ?_
        exact zifn hF.nle rfl
    | true =>
      have hin' : f_Tape_isName N (Tape_at_s v1 (nI (j + 1))) = some 1 := hin.trans (congrArg (fun b => some (bI b)) hnm)
      have hrn' : f_R_isName N (R_at_s w (nI (j + 1))) = some 1 := hrn.trans (congrArg (fun b => some (bI b)) hnm)
      have hlt2 : j + 1 < m := tk_lt h hlt (nm_ne0 hnm)
      rcases names_both hN (v := Tape_at_s v1 (nI (j + 1))) (w := R_at_s w (nI (j + 1))) (v2 := v2) (v3 := v3) (y := 1) (cn := Town_names v2) (rn := R_readNames w) h hlt rfl hnm p1 p2 rfl (Or.inl ⟨rfl, p4, rfl⟩) p5 with ⟨l, hl, n1, n2⟩ | ⟨n1, n2, ls, l1, l2, l3, l4⟩
      · have n1' : f_Town_named N v2 v3 (Tape_values v1 (j + 1)) = some (nI l) := n1
        obtain ⟨F, hF, w1, w2⟩ := wrong_A (N := N) (v := Tape_at_s v1 (nI (j + 1))) (w := R_at_s w (nI (j + 1))) (j := j + 1) h hlt rfl hf rfl rf (k := 3) (by decide) (by decide)
        refine ⟨j + 1, F, _, _, _, _, _, _, _, R_towns w, R_readNames w, R_readMany w, deadC F (Tape_values v1 (j + 1)) hF ?_, ?_, by omega, hlt, Or.inr hF, FrD.refl _ _ _, fun q => absurd q hF.ne⟩
        · unfold f_Reader_readNewName
          refine bnd hval ?_
          refine bnd hin' ?_
          refine zifn (by decide) ?_
          refine bnd n1' ?_
          refine zifn (nI_nem1 (by omega)) ?_
          refine bnd w1 ?_
          exact bnd (adv_B (v := Tape_fault_s (Tape_at_s v1 (nI (j + 1))) F) hF) rfl
        · unfold f_R_readPerson
          refine zifn hne6 ?_
          rw [hw1]
          refine bnd hrn' ?_
          refine zifn (by decide) ?_
          refine bnd n2 ?_
          refine zifn (nI_pos (by omega)) ?_
          refine bnd w2 ?_
          exact zifn hF.nle rfl
      · -- a new name
        have n1' : f_Town_named N v2 v3 (Tape_values v1 (j + 1)) = some (-1) := n1
        have l2' : Tape_values v1 (j + 1) = lN (nB 27 ls 0) := l2
        have l3' : R_value w (j + 1) = lN (nB 37 ls 0) := l3
        have enm : f_Reader_readNewName N v0 (Tape_at_s v1 (nI (j + 1))) v2 v3 = some (Tape_values v1 (j + 1), nI (j + 2), Tape_fault v1) := by
          unfold f_Reader_readNewName
          refine bnd hval ?_
          refine bnd hin' ?_
          refine zifn (by decide) ?_
          refine bnd n1' ?_
          refine zifp rfl ?_
          exact bnd (adv_A (v := Tape_at_s v1 (nI (j + 1))) (w := w) h hlt2 rfl hf) rfl
        rw [hf] at enm
        obtain ⟨zn, hzn⟩ : ∃ z, z = vp_updL (R_readNames w) p (R_value w (j + 1)) := ⟨_, rfl⟩
        obtain ⟨a1, b1, j1, f1, x1, y1, g1, g1', s1, r1⟩ := evPS (j_kind (N := N) (n := n) (m := m) (i := j + 2) (v0 := v0) (v := Tape_s_at_fault v1 (nI (j + 2)) 0) (v2 := v2) (v3 := v3) (w := R_s_at_readNames_readMany w (nI (j + 2)) zn (nI (p + 1))) hN h ⟨j + 2, Nat.le_refl _, hlt2, rfl, rfl, rf.symm, Or.inl rfl⟩)
        obtain ⟨z9, hz9⟩ : ∃ z, z = upd (R_towns w) (88 + 5 * p) b1 := ⟨_, rfl⟩
        obtain ⟨a2, b2, j2, f2, x2, y2, g2, g2', s2, r2⟩ := evPS (j_told (N := N) (n := n) (m := m) (i := j1) (k := 1) (mo := 9) (v0 := v0) (v := Tape_s_at_fault v1 (nI j1) f1) (v2 := v2) (v3 := v3) (w := R_s_at_fault_towns_readNames_readMany w (nI j1) f1 z9 zn (nI (p + 1))) h ⟨j1, Nat.le_refl _, g1', rfl, rfl, rfl, s1⟩ (by decide) (by decide))
        obtain ⟨z11, hz11⟩ : ∃ z, z = upd z9 (88 + 5 * p + 1) b2 := ⟨_, rfl⟩
        obtain ⟨a3, b3, j3, f3, x3, y3, g3, g3', s3, r3⟩ := evPS (j_told (N := N) (n := n) (m := m) (i := j2) (k := 2) (mo := 999) (v0 := v0) (v := Tape_s_at_fault v1 (nI j2) f2) (v2 := v2) (v3 := v3) (w := R_s_at_fault_towns_readNames_readMany w (nI j2) f2 z11 zn (nI (p + 1))) h ⟨j2, Nat.le_refl _, g2', rfl, rfl, rfl, s2⟩ (by decide) (by decide))
        obtain ⟨z13, hz13⟩ : ∃ z, z = upd z11 (88 + 5 * p + 2) b3 := ⟨_, rfl⟩
        obtain ⟨a4, b4, j4, f4, x4, y4, g4, g4', s4, r4⟩ := evPS (j_told (N := N) (n := n) (m := m) (i := j3) (k := 3) (mo := 999) (v0 := v0) (v := Tape_s_at_fault v1 (nI j3) f3) (v2 := v2) (v3 := v3) (w := R_s_at_fault_towns_readNames_readMany w (nI j3) f3 z13 zn (nI (p + 1))) h ⟨j3, Nat.le_refl _, g3', rfl, rfl, rfl, s3⟩ (by decide) (by decide))
        obtain ⟨z15, hz15⟩ : ∃ z, z = upd z13 (88 + 5 * p + 3) b4 := ⟨_, rfl⟩
        obtain ⟨a5, b5, j5, f5, x5, y5, g5, g5', s5, r5⟩ := evPS (j_told (N := N) (n := n) (m := m) (i := j4) (k := 4) (mo := 9) (v0 := v0) (v := Tape_s_at_fault v1 (nI j4) f4) (v2 := v2) (v3 := v3) (w := R_s_at_fault_towns_readNames_readMany w (nI j4) f4 z15 zn (nI (p + 1))) h ⟨j4, Nat.le_refl _, g4', rfl, rfl, rfl, s4⟩ (by decide) (by decide))
        have e88 : (88 : Int32) + 5 * nI p = nI (88 + 5 * p) := by rw [show (88 : Int32) = nI 88 from rfl, show (5 : Int32) = nI 5 from rfl, pk_mul, nI_add]
        have hi : ∀ i, i < 160 → ¬ (nI i < 0 ∨ 160 ≤ i) := fun i hi q => q.elim (nI_pos (by omega)) (fun y => by omega)
        have hR : f_R_readPerson N w = some (nI j5, f5, upd (perT (R_towns w) p b1 b2 b3 b4 b5) 80 (perT (R_towns w) p b1 b2 b3 b4 b5 80 + 1), zn, nI (p + 1)) := by
          unfold f_R_readPerson
          refine zifn hne6 ?_
          rw [hw1, rf, p3', p4, e88, show nI (j + 1) + 1 = nI (j + 2) from nI_1 _, show nI p + 1 = nI (p + 1) from nI_1 p, nI_clamp (n := j + 1) (by omega), nI_clamp (n := p) (by omega), nI_clamp (n := 88 + 5 * p) (by omega), show nI (88 + 5 * p) + 1 = nI (88 + 5 * p + 1) from nI_1 _, show nI (88 + 5 * p) + 2 = nI (88 + 5 * p + 2) from nI_add _ 2, show nI (88 + 5 * p) + 3 = nI (88 + 5 * p + 3) from nI_add _ 3, show nI (88 + 5 * p) + 4 = nI (88 + 5 * p + 4) from nI_add _ 4, nI_clamp (n := 88 + 5 * p + 1) (by omega), nI_clamp (n := 88 + 5 * p + 2) (by omega), nI_clamp (n := 88 + 5 * p + 3) (by omega), nI_clamp (n := 88 + 5 * p + 4) (by omega)]
          refine bnd hrn' ?_
          refine zifn (by decide) ?_
          refine bnd n2 ?_
          refine zifp (by decide) ?_
          refine zifp (by decide) ?_
          refine zifn (t_ix h hlt).2 ?_
          refine zifn (fun q => q.elim (nI_pos (by omega)) (fun y => by omega)) ?_
          refine zletG hzn.symm ?_
          refine bnd y1 ?_
          refine zifn (hi _ (by omega)) ?_
          refine zletG hz9.symm ?_
          refine bnd y2 ?_
          refine zifn (hi _ (by omega)) ?_
          refine zletG hz11.symm ?_
          refine bnd y3 ?_
          refine zifn (hi _ (by omega)) ?_
          refine zletG hz13.symm ?_
          refine bnd y4 ?_
          refine zifn (hi _ (by omega)) ?_
          refine zletG hz15.symm ?_
          refine bnd y5 ?_
          refine zifn (hi _ (by omega)) ?_
          refine zletE ?_
          refine zletE ?_
          rw [hz15, hz13, hz11, hz9]
          rfl
        have hC0 : ∀ R, (if f5 = 0 then ((f_Town_addPerson N v2 v3 (Tape_values v1 (j + 1)) a1 a2).bind (fun q13 => ((f_Town_has N (Town_s_people_names_kinds_skills v2 q13.2.1 q13.2.2.1 q13.2.2.2.1 q13.2.2.2.2) v3 q13.1).bind (fun q14 => (if (q14 = 0) then (some (nI j5, f5, q13.2.1, q13.2.2.1, q13.2.2.2.1, q13.2.2.2.2, (Town_purses v2), (Town_debts v2), (Town_homes v2))) else (if (q13.1 < 0 ∨ 6 ≤ Int32.toNatClampNeg q13.1) then none else (if (q13.1 < 0 ∨ 6 ≤ Int32.toNatClampNeg q13.1) then none else (if (q13.1 < 0 ∨ 6 ≤ Int32.toNatClampNeg q13.1) then none else (some (nI j5, f5, q13.2.1, q13.2.2.1, q13.2.2.2.1, q13.2.2.2.2, (upd (Town_purses v2) (Int32.toNatClampNeg q13.1) a3), (upd (Town_debts v2) (Int32.toNatClampNeg q13.1) a4), (upd (Town_homes v2) (Int32.toNatClampNeg q13.1) a5))))))))))) else ((f_Town_has N v2 v3 (-1)).bind (fun q10 => (if (q10 = 0) then (some (nI j5, f5, (Town_people v2), (Town_names v2), (Town_kinds v2), (Town_skills v2), (Town_purses v2), (Town_debts v2), (Town_homes v2))) else none)))) = R → f_Reader_readPersonLine N v0 v1 v2 v3 = R := by
          intro R hRR
          unfold f_Reader_readPersonLine
          refine zifp hlt6 ?_
          refine bnd adv ?_
          refine bnd enm ?_
          refine bnd x1 ?_
          refine bnd (show f_Reader_readTold N v0 (Tape_s_at_fault v1 (nI j1) f1) v2 v3 129 9 = _ from x2) ?_
          refine bnd (show f_Reader_readTold N v0 (Tape_s_at_fault v1 (nI j2) f2) v2 v3 130 999 = _ from x3) ?_
          refine bnd (show f_Reader_readTold N v0 (Tape_s_at_fault v1 (nI j3) f3) v2 v3 131 999 = _ from x4) ?_
          refine bnd (show f_Reader_readTold N v0 (Tape_s_at_fault v1 (nI j4) f4) v2 v3 132 9 = _ from x5) ?_
          exact hRR
        rcases s5 with s5 | s5
        · subst s5
          have q4 : f4 = 0 := told_al (v := Tape_s_at_fault v1 (nI j4) f4) (t := 128 + 4) x5 (by decide) (by decide) s4 rfl
          subst q4
          have q3 : f3 = 0 := told_al (v := Tape_s_at_fault v1 (nI j3) f3) (t := 128 + 3) x4 (by decide) (by decide) s3 rfl
          subst q3
          have q2 : f2 = 0 := told_al (v := Tape_s_at_fault v1 (nI j2) f2) (t := 128 + 2) x3 (by decide) (by decide) s2 rfl
          subst q2
          have q1 : f1 = 0 := told_al (v := Tape_s_at_fault v1 (nI j1) f1) (t := 128 + 1) x2 (by decide) (by decide) s1 rfl
          subst q1
          have r1' : a1 = b1 := r1 rfl
          obtain ⟨-, r2', o2, m2, t2⟩ := r2 rfl
          obtain ⟨-, r3', o3, m3, t3⟩ := r3 rfl
          obtain ⟨-, r4', o4, m4, t4⟩ := r4 rfl
          obtain ⟨-, r5', o5, m5, t5⟩ := r5 rfl
          have r2'' : a2 = b2 := r2'
          have r3'' : a3 = b3 := r3'
          have r4'' : a4 = b4 := r4'
          have r5'' : a5 = b5 := r5'
          subst r1' r2'' r3'' r4'' r5''
          have t2' : a2 = nI o2 := t2
          have t3' : a3 = nI o3 := t3
          have t4' : a4 = nI o4 := t4
          have t5' : a5 = nI o5 := t5
          have ix6 : ¬ (nI p < 0 ∨ 6 ≤ p) := fun q => q.elim (nI_pos (by omega)) (fun y => by omega)
          refine ⟨j5, 0, nI (p + 1), vp_updL (Town_names v2) p (Tape_values v1 (j + 1)), upd (Town_kinds v2) p a1, upd (Town_skills v2) p a2, upd (Town_purses v2) p a3, upd (Town_debts v2) p a4, upd (Town_homes v2) p a5, _, _, _, ?_, hR, by omega, g5', Or.inl rfl, ⟨fun i hi => (pk_un (by omega)).trans (perT_out (Or.inl (by omega))), fun _ _ => ⟨rfl, rfl⟩⟩, fun _ => ⟨by omega, p + 1, ⟨by omega, rfl, ?_, rfl, ?_, ?_, ?_⟩, ?_, ?_, hsz, by omega, by omega, fun k hk => ?_⟩⟩
          · refine hC0 _ ?_
            refine zifp rfl ?_
            refine bnd (addPerson_ok c6' p2) ?_
            refine bnd (has_ok (P := p + 1) (v1 := Town_s_people_names_kinds_skills v2 (nI (p + 1)) (vp_updL (Town_names v2) p (Tape_values v1 (j + 1))) (upd (Town_kinds v2) p a1) (upd (Town_skills v2) p a2)) ⟨rfl, by omega⟩ (Nat.lt_succ_self p)) ?_
            refine zifn (by decide) ?_
            show (if nI p < 0 ∨ 6 ≤ Int32.toNatClampNeg (nI p) then _ else _) = _
            rw [nI_clamp (n := p) (by omega)]
            refine zifn ix6 ?_
            refine zifn ix6 ?_
            refine zifn ix6 ?_
            rfl
          · rw [pk_us, perT_out (Or.inl (by omega)), p3, show nI p + 1 = nI (p + 1) from nI_1 p]
          · obtain ⟨d1, d2⟩ := p5
            show NamesR (p + 1) (vp_updL (Town_names v2) p (Tape_values v1 (j + 1))) zn
            rw [hzn]
            refine ⟨fun k hk => ?_, fun i k hi hk => ?_⟩
            · by_cases e : k = p
              · subst e
                rw [pk_uLs, pk_uLs]
                exact ⟨ls, l1, l2', l3'⟩
              · rw [pk_uLn e, pk_uLn e]
                exact d1 k (by omega)
            · by_cases e1 : i = p
              · by_cases e2 : k = p
                · intro _; omega
                · subst e1
                  rw [pk_uLs, pk_uLn e2, l2']
                  exact fun q => absurd q.symm (l4 k (by omega))
              · by_cases e2 : k = p
                · subst e2
                  rw [pk_uLs, pk_uLn e1, l2']
                  exact fun q => absurd q (l4 i (by omega))
                · rw [pk_uLn e1, pk_uLn e2]
                  exact d2 i k (by omega) (by omega)
          · intro l hl
            rw [pk_un (by omega), pk_un (by omega), pk_un (by omega), pk_un (by omega), pk_un (by omega)]
            by_cases e : l = p
            · subst e
              obtain ⟨u0, u1, u2, u3, u4⟩ := perT_in (tw := R_towns w) (p := l) (k := a1) (s := a2) (u := a3) (d := a4) (h := a5)
              rw [u0, u1, u2, u3, u4]
              refine ⟨?_, ?_, ?_, ?_, ?_⟩ <;> exact pk_us.symm
            · rw [perT_out (Or.inl (by omega)), perT_out (Or.inl (by omega)), perT_out (Or.inl (by omega)), perT_out (Or.inl (by omega)), perT_out (Or.inl (by omega))]
              obtain ⟨u0, u1, u2, u3, u4⟩ := p6 l (by omega)
              refine ⟨u0.trans ?_, u1.trans ?_, u2.trans ?_, u3.trans ?_, u4.trans ?_⟩ <;> exact (pk_un e).symm
          · intro l hl
            by_cases e : l = p
            · subst e
              refine ⟨⟨o3, m3, pk_us.trans t3'⟩, ⟨o4, m4, pk_us.trans t4'⟩, ⟨o5, m5, pk_us.trans t5'⟩, ⟨o2, m2, pk_us.trans t2'⟩⟩
            · obtain ⟨⟨u1, u2, u3⟩, ⟨u4, u5, u6⟩, ⟨u7, u8, u9⟩, ⟨u10, u11, u12⟩⟩ := p7 l (by omega)
              exact ⟨⟨u1, u2, (pk_un e).trans u3⟩, ⟨u4, u5, (pk_un e).trans u6⟩, ⟨u7, u8, (pk_un e).trans u9⟩, ⟨u10, u11, (pk_un e).trans u12⟩⟩
          · obtain ⟨d1, d2⟩ := hbar
            refine ⟨by rw [pk_un (by omega), perT_out (Or.inl (by omega))]; exact d1, fun p' l hp hl => ?_⟩
            rw [pk_un (by omega), perT_out (Or.inr (by omega))]
            exact d2 p' l hp hl
          · obtain ⟨⟨g, d1, d2, d3⟩, d4⟩ := hsgn
            exact ⟨⟨g, d1, d2, by rw [pk_un (by omega), perT_out (Or.inl (by omega))]; exact d3⟩, d4⟩
          · exact (hlaw k hk).mono (by omega) (Nat.le_refl _) (Nat.le_refl _) (by rw [pk_un (by omega), perT_out (Or.inl (by omega))]) rfl rfl (fun _ _ => rfl) (fun _ _ => ⟨rfl, rfl⟩)
        · refine ⟨j5, f5, Town_people v2, Town_names v2, Town_kinds v2, Town_skills v2, Town_purses v2, Town_debts v2, Town_homes v2, _, _, _, ?_, hR, by omega, g5', Or.inr s5, ⟨fun i hi => (pk_un (by omega)).trans (perT_out (Or.inl (by omega))), fun _ _ => ⟨rfl, rfl⟩⟩, fun q => absurd q s5.ne⟩
          refine hC0 _ ?_
          refine zifn s5.ne ?_
          refine bnd hno ?_
          exact zifp rfl rfl
