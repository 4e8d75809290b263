/-! ===== the draft of a TOWN, and the line of a law ===== -/
def lawDr (tw op ar : Nat → Int32) (v3 : VLaws) (s c k : Nat) : Prop := lawOk v3 k ∧ ((Laws_to v3 k ≤ Laws_from v3 k ∧ tw (83 + k) = (-1)) ∨ ∃ f t b : Nat, Laws_from v3 k = nI f ∧ Laws_to v3 k = nI t ∧ f < t ∧ t ≤ s ∧ tw (83 + k) = nI b ∧ b + (t - f) < c ∧ (∀ i, i < t - f → op (1100 + b + i) = opc (Laws_codes v3 (f + i)) ∧ ((-5) ≤ Laws_codes v3 (f + i) → ar (1100 + b + i) = arc (Laws_codes v3 (f + i)))) ∧ op (1100 + b + (t - f)) = 0)
def barD (tw : Nat → Int32) (v2 : VTown) : Prop := Town_bars v2 = tw 81 ∧ ∀ p l, p < 6 → l < 6 → (tw (118 + 6 * p + l) = 0 ∧ ((Town_barred v2 p >>> (nI l &&& 31)) &&& 1) = 0) ∨ (tw (118 + 6 * p + l) = 1 ∧ ¬ ((Town_barred v2 p >>> (nI l &&& 31)) &&& 1) = 0)
def fldD (tw : Nat → Int32) (v2 : VTown) (p : Nat) : Prop := ∀ l, l < p → tw (88 + 5 * l + 0) = Town_kinds v2 l ∧ tw (88 + 5 * l + 1) = Town_skills v2 l ∧ tw (88 + 5 * l + 2) = Town_purses v2 l ∧ tw (88 + 5 * l + 3) = Town_debts v2 l ∧ tw (88 + 5 * l + 4) = Town_homes v2 l
def sgnD (tw : Nat → Int32) (v2 : VTown) (hs : Int32) : Prop := (∃ g, g ≤ 999 ∧ Town_sign v2 = nI g ∧ tw 82 = nI g) ∧ Town_signTold v2 = hs ∧ (hs = 0 ∨ hs = 1)
def DR (j p s c : Nat) (v2 : VTown) (v3 : VLaws) (tw op ar : Nat → Int32) (rn : Nat → Int64) (rm hs : Int32) : Prop := (p ≤ 6 ∧ Town_people v2 = nI p ∧ tw 80 = nI p ∧ rm = nI p ∧ NamesR p (Town_names v2) rn ∧ fldD tw v2 p ∧ toldR v2 p) ∧ barD tw v2 ∧ sgnD tw v2 hs ∧ (Laws_size v3 = nI s ∧ (s = 0 ∨ s + 1 ≤ j) ∧ c ≤ j ∧ ∀ k, k < 4 → lawDr tw op ar v3 s c k)
def FrD (tw op ar tw' op' ar' : Nat → Int32) : Prop := (∀ i, i < 80 → tw' i = tw i) ∧ ∀ i, i < 1100 → op' i = op i ∧ ar' i = ar i
theorem FrD.refl (tw op ar : Nat → Int32) : FrD tw op ar tw op ar := ⟨fun _ _ => rfl, fun _ _ => ⟨rfl, rfl⟩⟩
theorem FrD.trans {tw op ar tw1 op1 ar1 tw2 op2 ar2 : Nat → Int32} (h : FrD tw op ar tw1 op1 ar1) (h2 : FrD tw1 op1 ar1 tw2 op2 ar2) : FrD tw op ar tw2 op2 ar2 := ⟨fun i hi => (h2.1 i hi).trans (h.1 i hi), fun i hi => ⟨(h2.2 i hi).1.trans (h.2 i hi).1, (h2.2 i hi).2.trans (h.2 i hi).2⟩⟩
/-! a dead tape: nothing is read -/
section DEAD
variable {N n m j : Nat} {v0 : VReader} {v1 : VTape} {v2 : VTown} {v3 : VLaws} {w : VR} {wi : Int32}
theorem rp_dead {rP : VReader → VTape → VTown → VLaws → Int32 → Option (Int32 × Int32 × (Nat → Int32) × Int32)} {rJ : VReader → VTape → VTown → VLaws → Int32 → Int32 → Option (Int32 × Int32 × (Nat → Int32) × Int32)} (hfd : dead (Tape_fault v1)) : f_Reader_readPart_b rP rJ N v0 v1 v2 v3 wi = some (Tape_at v1, Tape_fault v1, Laws_codes v3, Laws_size v3) := by
  unfold f_Reader_readPart_b
  refine bnd (token_B hfd) ?_
  refine zletG (if_pos (by decide)) ?_
  refine zifn (by decide) ?_
  refine zifn (by decide) ?_
  refine zifn (by decide) ?_
  refine zifp rfl ?_
  refine bnd (wrong_B hfd) ?_
  rfl
theorem rj_dead {rP : VReader → VTape → VTown → VLaws → Int32 → Option (Int32 × Int32 × (Nat → Int32) × Int32)} {rJ : VReader → VTape → VTown → VLaws → Int32 → Int32 → Option (Int32 × Int32 × (Nat → Int32) × Int32)} (hN : 10000 ≤ N) (h : LexAt n m v1 w) (hj : j ≤ m) (ha : Tape_at v1 = nI j) (hfd : dead (Tape_fault v1)) {l : Nat} (hl : l ≤ 3) (hx : rJ v0 v1 v2 v3 (nI (l + 1)) wi = some (Tape_at v1, Tape_fault v1, Laws_codes v3, Laws_size v3)) : f_Reader_readJoined_b rP rJ N v0 v1 v2 v3 (nI l) wi = some (Tape_at v1, Tape_fault v1, Laws_codes v3, Laws_size v3) := by
  obtain ⟨N, rfl⟩ : ∃ x, N = x + 1 := ⟨N - 1, by omega⟩
  unfold f_Reader_readJoined_b
  refine zifp (leR (L := 3) (b := 3) rfl hl (by decide)) ?_
  rw [show nI l + 1 = nI (l + 1) from nI_1 l]
  refine bnd hx ?_
  have hs := cl_stop (N := N + 1) (fuel := N) (n := n) (m := m) (v0 := v0) (v2 := v2) (v1 := Tape_s_at_fault v1 (Tape_at v1) (Tape_fault v1)) (v3 := Laws_s_codes_size v3 (Laws_codes v3) (Laws_size v3)) (w := w) (rP := rP) (rJ := rJ) (wi := wi) (L := if nI l = 1 then 1 else 1000) (x := 0) (cd := Laws_codes v3) (sz := Laws_size v3) h hl hj (Or.inr hfd) (fun q => absurd q hfd.ne)
  rw [← ha] at hs
  exact bnd hs rfl
theorem rJ_dead (hN : 10000 ≤ N) (h : LexAt n m v1 w) (hj : j ≤ m) (ha : Tape_at v1 = nI j) (hfd : dead (Tape_fault v1)) : f_Reader_readJoined 64 N v0 v1 v2 v3 0 0 = some (Tape_at v1, Tape_fault v1, Laws_codes v3, Laws_size v3) := by
  show f_Reader_readJoined_b (g_Reader_readPart_Reader_readJoined N 63).1 (g_Reader_readPart_Reader_readJoined N 63).2 N v0 v1 v2 v3 (nI 0) 0 = _
  refine rj_dead hN h hj ha hfd (by decide) ?_
  show f_Reader_readJoined_b (g_Reader_readPart_Reader_readJoined N 62).1 (g_Reader_readPart_Reader_readJoined N 62).2 N v0 v1 v2 v3 (nI 1) 0 = _
  refine rj_dead hN h hj ha hfd (by decide) ?_
  show f_Reader_readJoined_b (g_Reader_readPart_Reader_readJoined N 61).1 (g_Reader_readPart_Reader_readJoined N 61).2 N v0 v1 v2 v3 (nI 2) 0 = _
  refine rj_dead hN h hj ha hfd (by decide) ?_
  show f_Reader_readJoined_b (g_Reader_readPart_Reader_readJoined N 60).1 (g_Reader_readPart_Reader_readJoined N 60).2 N v0 v1 v2 v3 (nI 3) 0 = _
  refine rj_dead hN h hj ha hfd (by decide) ?_
  show f_Reader_readJoined_b (g_Reader_readPart_Reader_readJoined N 59).1 (g_Reader_readPart_Reader_readJoined N 59).2 N v0 v1 v2 v3 (nI 4) 0 = _
  unfold f_Reader_readJoined_b
  refine zifn (by decide) ?_
  refine bnd (a := (Tape_at v1, Tape_fault v1, Laws_codes v3, Laws_size v3)) ?_ rfl
  show f_Reader_readPart_b (g_Reader_readPart_Reader_readJoined N 58).1 (g_Reader_readPart_Reader_readJoined N 58).2 N v0 v1 v2 v3 0 = _
  exact rp_dead hfd
end DEAD
/-! the line of a law -/
theorem ix4 {k : Nat} (hk : k < 4) : ¬ nI k < 0 ∧ ¬ 4 ≤ nI k ∧ (nI k).toNatClampNeg = k ∧ ¬ (nI k < 0 ∨ 4 ≤ k) := ⟨nI_pos (by omega), ngF (L := 4) (b := 4) rfl hk (by decide), nI_clamp (by omega), fun q => q.elim (nI_pos (by omega)) (fun y => by omega)⟩
theorem isTold_ok {N k : Nat} {v : VLaws} (hk : k < 4) : f_Laws_isTold N v (nI k) = some (if Laws_to v k ≤ Laws_from v k then 0 else 1) := by
  obtain ⟨i1, i2, i3, i4⟩ := ix4 hk
  unfold f_Laws_isTold
  rw [i3]
  refine zifn i1 ?_
  refine zifn i2 ?_
  refine zifn i4 ?_
  refine zifn i4 ?_
  split <;> rfl
theorem addLaw_ok {N k : Nat} {v : VLaws} {x : Int32} (hk : k < 4) : f_Laws_addLaw N v (nI k) x = some (upd (Laws_from v) k x, upd (Laws_to v) k (Laws_size v)) := by
  obtain ⟨i1, i2, i3, i4⟩ := ix4 hk
  unfold f_Laws_addLaw
  rw [i3]
  refine zifn i1 ?_
  refine zifn i2 ?_
  refine zifn i4 ?_
  exact zifn i4 rfl
theorem nf_lit : ∀ k, k < 4 → (if nI k = 2 then (3 : Int32) else 5) = nI (nfOf k) ∧ (if nI k = 2 then (7 : Int32) else 31) = maskOf (nfOf k) ∧ (nfOf k = 3 ∨ nfOf k = 5) := by decide +kernel
theorem lawDr.mono {tw op ar : Nat → Int32} {v3 : VLaws} {s c k : Nat} {tw' op' ar' : Nat → Int32} {v3' : VLaws} {s' c' : Nat} (h : lawDr tw op ar v3 s c k) (h9 : s ≤ 1000) (hs : s ≤ s') (hc : c ≤ c') (ht : tw' (83 + k) = tw (83 + k)) (hf : Laws_from v3' k = Laws_from v3 k) (hto : Laws_to v3' k = Laws_to v3 k) (hcd : ∀ i, i < s → Laws_codes v3' i = Laws_codes v3 i) (hop : ∀ i, i < 1100 + c → op' i = op i ∧ ar' i = ar i) : lawDr tw' op' ar' v3' s' c' k := by
  obtain ⟨⟨f, t, a1, a2, a3, a4, a5⟩, h2⟩ := h
  rcases h2 with ⟨h2, h3⟩ | ⟨f', t', b, b1, b2, b3, b4, b5, b6, b7, b8⟩
  · refine ⟨⟨f, t, hf.trans a1, hto.trans a2, a3, a4, fun q => ?_⟩, Or.inl ⟨by rw [hf, hto]; exact h2, ht.trans h3⟩⟩
    rw [a1, a2, nI_leI (by omega) (by omega)] at h2
    omega
  · have e1 : f' = f := (nI_eq (by omega) (by omega)).mp (b1.symm.trans a1)
    have e2 : t' = t := (nI_eq (by omega) (by omega)).mp (b2.symm.trans a2)
    subst e1
    subst e2
    refine ⟨⟨f', t', hf.trans a1, hto.trans a2, a3, a4, fun q => ?_⟩, Or.inr ⟨f', t', b, hf.trans b1, hto.trans b2, b3, by omega, ht.trans b5, by omega, fun i hi => ?_, ?_⟩⟩
    · have e3 : seg (Laws_codes v3') f' (t' - f') = seg (Laws_codes v3) f' (t' - f') := seg_cong (fun i hi => hcd _ (by omega))
      rw [e3]
      exact a5 q
    · rw [hcd (f' + i) (by omega), (hop (1100 + b + i) (by omega)).1, (hop (1100 + b + i) (by omega)).2]
      exact b7 i hi
    · rw [(hop (1100 + b + (t' - f')) (by omega)).1]
      exact b8
theorem j_lawLine {N n m j p s c k : Nat} (hN : 10000 ≤ N) {v0 : VReader} {v1 : VTape} {v2 : VTown} {v3 : VLaws} {w : VR} (h : LexAt n m v1 w) (hj : j ≤ m) (ha : Tape_at v1 = nI j) (hf : Tape_fault v1 = 0) (ra : R_at w = nI j) (rf : R_fault w = 0) (hk : k < 4) (ht : Tape_tokens v1 j = nI (135 + k)) (hco : R_codes w = nI c) (hd : DR j p s c v2 v3 (R_towns w) (R_op w) (R_arg w) (R_readNames w) (R_readMany w) (R_hasSigned w)) : ∃ j' s' c' f' cd' op' ar' tw' fr' to' fk fh, f_Reader_readLaw N v0 v1 v2 v3 (nI k) = some (fk, nI j', f', cd', nI s', fr', to') ∧ f_R_readOnce N w = some (nI j', f', tw', op', ar', nI c', R_hasSigned w, fh) ∧ j ≤ j' ∧ j' ≤ m ∧ (f' = 0 ∨ dead f') ∧ FrD (R_towns w) (R_op w) (R_arg w) tw' op' ar' ∧ (f' = 0 → j < j' ∧ DR j' p s' c' v2 (Laws_s_codes_size_from_to v3 cd' (nI s') fr' to') tw' op' ar' (R_readNames w) (R_readMany w) (R_hasSigned w)) := by
  obtain ⟨hper, hbar, hsgn, hsz, hs, hc, hlaw⟩ := hd
  have hm := h.m1000
  obtain ⟨l1, l2, l3⟩ := nf_lit k hk
  have hlt : j < m := tk_lt h hj (fun q => by rw [q] at ht; have := (nI_eq (a := 0) (by decide) (by omega)).mp ht; omega)
  have hsj : s ≤ j := by omega
  have i6 : f_R_isWord N w 6 = some (bI false) := (rword_A (k := 6) h hj ra rf (by decide)).trans (by rw [decide_eq_false (show ¬ Tape_tokens v1 j = nI (128 + 6) by rw [ht]; exact fun q => by have := (nI_eq (by omega) (by omega)).mp q; omega)])
  have iw : f_R_wordHere N w 7 4 = some (nI k) := by
    refine (show f_R_wordHere N w 7 4 = _ from rwh_A (f := 7) (mn := 4) hN h hj ra rf (by omega)).trans ?_
    rcases whN_rng (Tape_tokens v1 j) 7 4 with ⟨-, h2⟩ | ⟨i, h1, h2, h3⟩
    · exact absurd (ht.trans (congrArg nI (by omega))) (h2 k hk)
    · rw [ht] at h3
      have := (nI_eq (by omega) (by omega)).mp h3
      rw [h2]
      exact congrArg some (congrArg nI (by omega))
  have e83 : (83 : Int32) + nI k = nI (83 + k) := by rw [show (83 : Int32) = nI 83 from rfl, nI_add]
  have ix : ¬ (nI (83 + k) < 0 ∨ 160 ≤ 83 + k) := fun q => q.elim (nI_pos (by omega)) (fun y => by omega)
  have n4 : ¬ nI k = 4 := nlit (a := k) (L := 4) 4 rfl (by omega) (by omega) (by decide)
  by_cases c1 : Laws_to v3 k ≤ Laws_from v3 k
  · have htw : R_towns w (83 + k) = (-1) := by
      obtain ⟨h1, h2⟩ := hlaw k hk
      rcases h2 with ⟨-, h3⟩ | ⟨f, t, b, b1, b2, b3, b4, -⟩
      · exact h3
      · rw [b1, b2, nI_leI (by omega) (by omega)] at c1
        omega
    obtain ⟨j2, s2, c2, f2, cd2, op2, ar2, x2, y2, r2⟩ := j_E (nf := nfOf k) (v0 := Reader_factsKnown_s v0 (if nI k = 2 then 3 else 5)) (v2 := v2) hN l3 l1 n m (j + 1) s c 0 (Laws_codes v3) (R_op w) (R_arg w) (Tape_at_s v1 (nI (j + 1))) v3 (R_s_at_towns_factsHere w (nI (j + 1)) (upd (R_towns w) (83 + k) (nI c)) (if nI k = 2 then 7 else 31)) ⟨h, hlt, by omega, by omega, rfl, rfl, hf, rf, Or.inl rfl, hsz, hco, rfl, rfl, rfl, l2⟩
    have x2' : f_Reader_readJoined 64 N (Reader_factsKnown_s v0 (if nI k = 2 then 3 else 5)) (Tape_at_s v1 (nI (j + 1))) v2 v3 0 0 = some (nI j2, f2, cd2, nI s2) := x2
    have y2' : f_R_all 64 N (R_s_at_towns_factsHere w (nI (j + 1)) (upd (R_towns w) (83 + k) (nI c)) (if nI k = 2 then 7 else 31)) 0 = some (nI j2, f2, op2, ar2, nI c2) := y2
    obtain ⟨g1, g2, g3, g4, g5, g6, g7, g8, g9, g10⟩ := r2
    refine ⟨j2, s2, c2 + 1, f2, cd2, upd op2 (1100 + c2) 0, upd ar2 (1100 + c2) 0, upd (R_towns w) (83 + k) (nI c), upd (Laws_from v3) k (nI s), upd (Laws_to v3) k (nI s2), (if nI k = 2 then 3 else 5), (if nI k = 2 then 7 else 31), ?_, ?_, by omega, g2, g7, ⟨fun i hi => pk_un (by omega), fun i hi => ⟨(pk_un (by omega)).trans (g9 i (by omega)).1, (pk_un (by omega)).trans (g9 i (by omega)).2⟩⟩, fun q => ?_⟩
    · unfold f_Reader_readLaw
      refine bnd (isTold_ok hk) ?_
      rw [if_pos c1]
      refine zifp rfl ?_
      refine bnd (adv_A h hlt ha hf) ?_
      refine bnd x2' ?_
      refine bnd (addLaw_ok hk) ?_
      rw [hsz]
      rfl
    · unfold f_R_readOnce
      refine bnd i6 ?_
      refine zifp rfl ?_
      refine bnd iw ?_
      refine zifp (nI_pos' (by omega)) ?_
      refine zifn n4 ?_
      rw [e83, nI_clamp (n := 83 + k) (by omega), rf, ra, hco]
      refine zifn ix ?_
      refine zifp (by rw [htw]; decide) ?_
      refine zifp (by decide) ?_
      refine zifn n4 ?_
      refine zifn ix ?_
      refine zletE ?_
      rw [show nI j + 1 = nI (j + 1) from nI_1 j]
      refine bnd y2' ?_
      refine bnd (emit_ok (c := c2) rfl (by omega)) ?_
      rfl
    · obtain ⟨p1, p2, p3, p4⟩ := g10 q
      have hss : s < s2 := by
        refine Nat.lt_of_not_le (fun q2 => ?_)
        have := p4 0 (by omega)
        rw [show s2 - s = 0 by omega] at this
        exact absurd (show (0 : Nat) = 0 + 1 from this) (by decide)
      refine ⟨by omega, ?_, ?_, ?_, rfl, by omega, by omega, fun k' hk' => ?_⟩
      · obtain ⟨a1, a2, a3, a4, a5, a6, a7⟩ := hper
        refine ⟨a1, a2, by rw [pk_un (by omega)]; exact a3, a4, a5, fun l hl => ?_, a7⟩
        rw [pk_un (by omega), pk_un (by omega), pk_un (by omega), pk_un (by omega), pk_un (by omega)]
        exact a6 l hl
      · obtain ⟨a1, a2⟩ := hbar
        refine ⟨by rw [pk_un (by omega)]; exact a1, fun p' l hp hl => ?_⟩
        rw [pk_un (by omega)]
        exact a2 p' l hp hl
      · obtain ⟨⟨g, a1, a2, a3⟩, a4⟩ := hsgn
        exact ⟨⟨g, a1, a2, by rw [pk_un (by omega)]; exact a3⟩, a4⟩
      · by_cases e : k' = k
        · subst e
          refine ⟨⟨s, s2, pk_us, pk_us, by omega, by omega, fun _ => p4 0 (by omega)⟩, Or.inr ⟨s, s2, c, pk_us, pk_us, hss, Nat.le_refl _, pk_us, by omega, fun i hi => ?_, ?_⟩⟩
          · rw [pk_un (by omega), pk_un (by omega)]
            exact p3 i hi
          · rw [show 1100 + c + (s2 - s) = 1100 + c2 by omega, pk_us]
        · refine (hlaw k' hk').mono (by omega) (by omega) (by omega) (pk_un (by omega)) (pk_un (by omega)) (pk_un (by omega)) g8 (fun i hi => ?_)
          rw [pk_un (by omega), pk_un (by omega)]
          exact g9 i hi
  · -- told before
    obtain ⟨F, hF, w1, w1'⟩ := wrong_A (N := N) h hj ha hf ra rf (k := 3) (by decide) (by decide)
    have htw : ∃ b, b < 2 ^ 31 ∧ R_towns w (83 + k) = nI b := by
      obtain ⟨h1, h2⟩ := hlaw k hk
      rcases h2 with ⟨h3, -⟩ | ⟨f, t, b, b1, b2, b3, b4, b5, b6, -⟩
      · exact absurd h3 c1
      · exact ⟨b, by omega, b5⟩
    obtain ⟨b, hb, htw⟩ := htw
    have dj := rJ_dead (v0 := Reader_factsKnown_s v0 (if nI k = 2 then 3 else 5)) (v1 := Tape_s_at_fault v1 (nI j) F) (v2 := v2) (v3 := v3) (w := w) hN h hj rfl hF
    have dj' : f_Reader_readJoined 64 N (Reader_factsKnown_s v0 (if nI k = 2 then 3 else 5)) (Tape_s_at_fault v1 (nI j) F) v2 v3 0 0 = some (nI j, F, Laws_codes v3, nI s) := dj.trans (by rw [hsz]; rfl)
    refine ⟨j, s, c, F, Laws_codes v3, R_op w, R_arg w, R_towns w, upd (Laws_from v3) k (nI s), upd (Laws_to v3) k (nI s), (if nI k = 2 then 3 else 5), R_factsHere w, ?_, ?_, Nat.le_refl _, hj, Or.inr hF, FrD.refl _ _ _, fun q => absurd q hF.ne⟩
    · unfold f_Reader_readLaw
      refine bnd (isTold_ok hk) ?_
      rw [if_neg c1]
      refine zifn (by decide) ?_
      refine bnd w1 ?_
      refine bnd ((adv_B (v := Tape_fault_s v1 F) hF).trans (congrArg some ha)) ?_
      refine bnd dj' ?_
      refine bnd (addLaw_ok hk) ?_
      rw [hsz]
      rfl
    · unfold f_R_readOnce
      refine bnd i6 ?_
      refine zifp rfl ?_
      refine bnd iw ?_
      refine zifp (nI_pos' (by omega)) ?_
      refine zifn n4 ?_
      rw [e83, nI_clamp (n := 83 + k) (by omega), rf, ra, hco]
      refine zifn ix ?_
      refine zifn (by rw [htw]; exact nI_pos hb) ?_
      refine bnd w1' ?_
      exact zifn hF.nle rfl
