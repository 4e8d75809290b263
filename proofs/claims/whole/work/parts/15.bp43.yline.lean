/-! ===== one line of a YEAR ===== -/
def YR (p n : Nat) (wo fi se ls : Nat → Int32) : Prop := ∀ k, k < n → lineR p (wo k) (fi k) (se k) (ls (125 + 3 * k)) (ls (126 + 3 * k)) (ls (127 + 3 * k))
def FrL (ls ls' : Nat → Int32) : Prop := ∀ i, i < 125 → ls' i = ls i
theorem number_al {N : Nat} {v : VTape} {mo x y f : Int32} (h : f_Tape_readNumber N v mo = some (x, y, f)) (hd : Tape_fault v = 0 ∨ dead (Tape_fault v)) (hf : f = 0) : Tape_fault v = 0 := by
  rcases hd with hd | hd
  · exact hd
  · rw [number_B hd] at h
    have := (Prod.mk.inj (Prod.mk.inj (Option.some.inj h)).2).2
    exact this.trans hf
/-- the new line at the end of the draft -/
theorem YR.put {p n : Nat} {wo fi se ls : Nat → Int32} {W F S a b c : Int32} {ls' : Nat → Int32} (h : YR p n wo fi se ls) (hl : lineR p W F S a b c) (h0 : ∀ i, i < 125 + 3 * n → ls' i = ls i) (ha : ls' (125 + 3 * n) = a) (hb : ls' (126 + 3 * n) = b) (hc : ls' (127 + 3 * n) = c) : YR p (n + 1) (upd wo n W) (upd fi n F) (upd se n S) ls' := by
  intro k hk
  by_cases e : k = n
  · subst e
    rw [pk_us, pk_us, pk_us, ha, hb, hc]
    exact hl
  · rw [pk_un e, pk_un e, pk_un e, h0 _ (by omega), h0 _ (by omega), h0 _ (by omega)]
    exact h k (by omega)
/-- the second PERSON of a SWAP, not the first -/
theorem j_other {N n m j1 p : Nat} {f1 a1 : Int32} (hN : 10000 ≤ N) {v1 : VTape} {w : VR} {v2 : VTown} {v3 : VLaws} (h : LexAt n m v1 w) (hj : j1 ≤ m) (hf : f1 = 0 ∨ dead f1) (ra : R_at w = nI j1) (rf : R_fault w = f1) (hp : p ≤ 6) (hpe : Town_people v2 = nI p) (hy : R_namesMany w = nI p) (hnr : NamesR p (Town_names v2) (R_names w)) (ha1 : f1 = 0 → ∃ k, k < p ∧ a1 = nI k) : ∃ a2 b2 j2 f2, f_Year_readOther N (Tape_s_at_fault v1 (nI j1) f1) v2 v3 a1 = some (a2, nI j2, f2) ∧ j1 ≤ j2 ∧ j2 ≤ m ∧ (f2 = 0 ∨ dead f2) ∧ (f2 = 0 → f1 = 0 ∧ a2 = b2 ∧ ∃ k, k < p ∧ a2 = nI k ∧ ¬ a1 = nI k) ∧ ∃ f3, f_R_toldHere N w 0 = some (b2, f3) ∧ ((f3 = 0 ∧ a1 = b2 ∧ f_R_wrong N w 3 = some f2 ∧ j2 = j1 ∧ dead f2) ∨ (f3 = 0 ∧ ¬ a1 = b2 ∧ f2 = 0 ∧ j2 = j1 + 1) ∨ (dead f3 ∧ f2 = f3 ∧ j2 = j1)) := by
  have hm := h.m1000
  rcases hf with rfl | hf
  · obtain ⟨q, g2, rfl⟩ := ha1 rfl
    have hin := isName_A (N := N) (v := Tape_s_at_fault v1 (nI j1) 0) (w := w) (j := j1) h hj rfl rfl
    cases hnm : isNm (Tape_tokens v1 j1) with
    | false =>
      have hin' : f_Tape_isName N (Tape_s_at_fault v1 (nI j1) 0) = some 0 := hin.trans (congrArg (fun b => some (bI b)) hnm)
      obtain ⟨F, hF, w1, w2⟩ := wrong_A (N := N) (v := Tape_s_at_fault v1 (nI j1) 0) (w := w) (j := j1) h hj rfl rfl ra rf (k := 1) (by decide) (by decide)
      refine ⟨-1, 0, j1, F, ?_, Nat.le_refl _, hj, Or.inr hF, fun q => absurd q hF.ne, F, rtold_no (w := w) (v := v1) (j := j1) hN h hj ra rf hnm hF w2, Or.inr (Or.inr ⟨hF, rfl, rfl⟩)⟩
      unfold f_Year_readOther
      refine bnd hin' ?_
      refine zifp rfl ?_
      refine bnd (a := (-1, nI j1, F)) ?_ rfl
      unfold f_Tape_readPerson
      refine bnd hin' ?_
      refine zifp rfl ?_
      refine bnd hin' ?_
      rw [if_pos (rfl : (0 : Int32) = 0)]
      exact bnd w1 rfl
    | true =>
      have hin' : f_Tape_isName N (Tape_s_at_fault v1 (nI j1) 0) = some 1 := hin.trans (congrArg (fun b => some (bI b)) hnm)
      have hlt2 : j1 < m := tk_lt h hj (nm_ne0 hnm)
      have hval : f_Tape_value N (Tape_s_at_fault v1 (nI j1) 0) = some (Tape_values v1 j1) := value_A (v := Tape_s_at_fault v1 (nI j1) 0) (w := w) h hj rfl
      rcases names_both hN (v := v1) (w := w) (v2 := v2) (v3 := v3) (y := 0) (cn := Town_names v2) (rn := R_names w) h hj ra hnm hp hpe rfl (Or.inr ⟨rfl, hy, rfl⟩) hnr with ⟨l, hl, n1, n2⟩ | ⟨n1, n2, -⟩
      · have hth : f_R_toldHere N w 0 = some (nI l, 0) := (rtold_yes (w := w) (v := v1) (j := j1) hN h hj ra rf hnm (by omega) n2).trans (by rw [rf])
        obtain ⟨F, hF, w1, w2⟩ := wrong_A (N := N) (v := Tape_s_at_fault v1 (nI j1) 0) (w := w) (j := j1) h hj rfl rfl ra rf (k := 3) (by decide) (by decide)
        by_cases c1 : l = q
        · subst c1
          refine ⟨-1, nI l, j1, F, ?_, Nat.le_refl _, hj, Or.inr hF, fun q => absurd q hF.ne, 0, hth, Or.inl ⟨rfl, rfl, w2, rfl, hF⟩⟩
          unfold f_Year_readOther
          refine bnd hin' ?_
          refine zifn (by decide) ?_
          refine bnd hval ?_
          refine bnd n1 ?_
          refine zifp rfl ?_
          refine zifn (nI_nem1 (by omega)) ?_
          refine bnd w1 ?_
          exact bnd (person_B (v := Tape_fault_s (Tape_s_at_fault v1 (nI j1) 0) F) hF) rfl
        · have hne : ¬ nI l = nI q := fun q2 => c1 ((nI_eq (by omega) (by omega)).mp q2)
          refine ⟨nI l, nI l, j1 + 1, 0, ?_, by omega, hlt2, Or.inl rfl, fun _ => ⟨rfl, rfl, l, hl, rfl, fun q2 => hne q2.symm⟩, 0, hth, Or.inr (Or.inl ⟨rfl, fun q2 => hne q2.symm, rfl, rfl⟩)⟩
          unfold f_Year_readOther
          refine bnd hin' ?_
          refine zifn (by decide) ?_
          refine bnd hval ?_
          refine bnd n1 ?_
          refine zifn hne ?_
          refine bnd (a := (nI l, nI (j1 + 1), 0)) ?_ rfl
          unfold f_Tape_readPerson
          refine bnd hin' ?_
          refine zifn (by decide) ?_
          refine bnd hval ?_
          refine bnd n1 ?_
          refine zifn (nI_nem1 (by omega)) ?_
          exact bnd (adv_A (v := Tape_s_at_fault v1 (nI j1) 0) (w := w) h hlt2 rfl rfl) rfl
      · obtain ⟨F, hF, w1, w2⟩ := wrong_A (N := N) (v := Tape_s_at_fault v1 (nI j1) 0) (w := w) (j := j1) h hj rfl rfl ra rf (k := 2) (by decide) (by decide)
        refine ⟨-1, 0, j1, F, ?_, Nat.le_refl _, hj, Or.inr hF, fun q => absurd q hF.ne, F, rtold_none (w := w) (v := v1) (j := j1) hN h hj ra rf hnm n2 hF w2, Or.inr (Or.inr ⟨hF, rfl, rfl⟩)⟩
        unfold f_Year_readOther
        refine bnd hin' ?_
        refine zifn (by decide) ?_
        refine bnd hval ?_
        refine bnd n1 ?_
        refine zifn (fun e => nI_nem1 (n := q) (by omega) e.symm) ?_
        refine bnd (a := (-1, nI j1, F)) ?_ rfl
        unfold f_Tape_readPerson
        refine bnd hin' ?_
        refine zifn (by decide) ?_
        refine bnd hval ?_
        refine bnd n1 ?_
        refine zifp rfl ?_
        refine bnd hin' ?_
        rw [if_neg (by decide : ¬ (1 : Int32) = 0)]
        exact bnd w1 rfl
  · refine ⟨-1, 0, j1, f1, ?_, Nat.le_refl _, hj, Or.inr hf, fun q => absurd q hf.ne, f1, (rtold_B (w := w) (by rw [rf]; exact hf)).trans (by rw [rf]), Or.inr (Or.inr ⟨hf, rfl, rfl⟩)⟩
    unfold f_Year_readOther
    refine bnd (isName_B (v := Tape_s_at_fault v1 (nI j1) f1) hf) ?_
    refine zifp rfl ?_
    exact bnd (person_B (v := Tape_s_at_fault v1 (nI j1) f1) hf) rfl
