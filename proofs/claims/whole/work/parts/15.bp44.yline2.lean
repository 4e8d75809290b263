/-! ===== one line of a YEAR, read by both ===== -/
theorem yword_at {N n m j : Nat} (hN : 10000 ≤ N) {v : VTape} {w : VR} (h : LexAt n m v w) (hj : j ≤ m) (ra : R_at w = nI j) (rf : R_fault w = 0) : (Tape_tokens v j = 132 ∧ f_R_yearWord N w = some 4) ∨ (∃ i, i < 4 ∧ Tape_tokens v j = nI (139 + i) ∧ f_R_yearWord N w = some (nI i)) ∨ (¬ Tape_tokens v j = 132 ∧ (∀ i, i < 4 → ¬ Tape_tokens v j = nI (139 + i)) ∧ f_R_yearWord N w = some (-1)) := by
  have hw := rword_A (N := N) (k := 4) h hj ra rf (by decide)
  by_cases c : Tape_tokens v j = nI (128 + 4)
  · refine Or.inl ⟨c, ?_⟩
    rw [decide_eq_true c] at hw
    unfold f_R_yearWord
    refine bnd hw ?_
    exact zifn (by decide) rfl
  · rw [decide_eq_false c] at hw
    have hx := rwh_A (f := 11) (mn := 4) hN h hj ra rf (by omega)
    have hx' : f_R_wordHere N w 11 4 = some (whN (Tape_tokens v j) 11 4) := hx
    have hy : f_R_yearWord N w = some (whN (Tape_tokens v j) 11 4) := by
      unfold f_R_yearWord
      refine bnd hw ?_
      refine zifp rfl ?_
      exact bnd hx' rfl
    rcases whN_rng (Tape_tokens v j) 11 4 with ⟨h1, h2⟩ | ⟨i, h1, h2, h3⟩
    · refine Or.inr (Or.inr ⟨c, fun i hi q => h2 i hi (q.trans (congrArg nI (by omega))), by rw [hy, h1]⟩)
    · refine Or.inr (Or.inl ⟨i, h1, h3.trans (congrArg nI (by omega)), by rw [hy, h2]⟩)
theorem yfull {N n0 m j n : Nat} {v0 : VYear} {v1 : VTape} {v2 : VTown} {v3 : VLaws} {w0 : VR} {F : Int32} (h : LexAt n0 m v1 w0) (hj : j ≤ m) (ha : Tape_at v1 = nI j) (hf : Tape_fault v1 = 0) (hn : n < 2 ^ 31) (hln : Year_lines v0 = nI n) (nlt : ¬ nI n < 40) (hw : f_Tape_wrong N v1 5 = some F) (hT : Tape_tokens v1 j = 132 ∨ ∃ i, i < 4 ∧ Tape_tokens v1 j = nI (139 + i)) : f_Year_readLine N v0 v1 v2 v3 = some (nI n, Year_words v0, Year_first v0, Year_second v0, nI j, F) := by
  rcases hT with ht | ⟨i, hi, ht⟩
  · show _ = _
    unfold f_Year_readLine
    refine bnd (token_A h hj ha hf) ?_
    rw [ht, hln, nI_clamp (n := n) (by omega)]
    refine zifp rfl ?_
    refine zifn (nI_pos hn) ?_
    refine zifn nlt ?_
    refine bnd hw ?_
    rw [ha]
  · have h4 : i = 0 ∨ i = 1 ∨ i = 2 ∨ i = 3 := by omega
    rcases h4 with rfl | rfl | rfl | rfl
    · show _ = _
      unfold f_Year_readLine
      refine bnd (token_A h hj ha hf) ?_
      rw [ht, hln, nI_clamp (n := n) (by omega)]
      refine zifn (by decide) ?_
      refine zifn (by decide) ?_
      refine zifp (by decide) ?_
      refine zifn (nI_pos hn) ?_
      refine zifn nlt ?_
      refine bnd hw ?_
      rw [ha]
    · show _ = _
      unfold f_Year_readLine
      refine bnd (token_A h hj ha hf) ?_
      rw [ht, hln, nI_clamp (n := n) (by omega)]
      refine zifn (by decide) ?_
      refine zifn (by decide) ?_
      refine zifp (by decide) ?_
      refine zifn (nI_pos hn) ?_
      refine zifn nlt ?_
      refine bnd hw ?_
      rw [ha]
    · show _ = _
      unfold f_Year_readLine
      refine bnd (token_A h hj ha hf) ?_
      rw [ht, hln, nI_clamp (n := n) (by omega)]
      refine zifn (by decide) ?_
      refine zifn (by decide) ?_
      refine zifp (by decide) ?_
      refine zifn (nI_pos hn) ?_
      refine zifn nlt ?_
      refine bnd hw ?_
      rw [ha]
    · show _ = _
      unfold f_Year_readLine
      refine bnd (token_A h hj ha hf) ?_
      rw [ht, hln, nI_clamp (n := n) (by omega)]
      refine zifn (by decide) ?_
      refine zifn (by decide) ?_
      refine zifp (by decide) ?_
      refine zifn (nI_pos hn) ?_
      refine zifn nlt ?_
      refine bnd hw ?_
      rw [ha]
theorem ynone {N n0 m j : Nat} {v0 : VYear} {v1 : VTape} {v2 : VTown} {v3 : VLaws} {w0 : VR} {F : Int32} (h : LexAt n0 m v1 w0) (hj : j ≤ m) (ha : Tape_at v1 = nI j) (hf : Tape_fault v1 = 0) (hw : f_Tape_wrong N v1 1 = some F) (h1 : ¬ Tape_tokens v1 j = 132) (h2 : ∀ i, i < 4 → ¬ Tape_tokens v1 j = nI (139 + i)) : f_Year_readLine N v0 v1 v2 v3 = some (Year_lines v0, Year_words v0, Year_first v0, Year_second v0, nI j, F) := by
  unfold f_Year_readLine
  refine bnd (token_A h hj ha hf) ?_
  refine zifn h1 ?_
  by_cases c1 : Tape_tokens v1 j < 139
  · refine zifp c1 ?_
    refine bnd hw ?_
    rw [ha]
  · refine zifn c1 ?_
    refine zifn (fun q => ?_) ?_
    · obtain ⟨y, hy, ey⟩ := nI_of (x := Tape_tokens v1 j) (fun q => c1 (by grind))
      rw [ey] at c1 q
      rw [show (142 : Int32) = nI 142 from rfl, nI_leI (by omega) (by omega)] at q
      have c2 : ¬ y < 139 := fun q2 => c1 (ltR (L := 139) (b := 139) rfl q2 (by decide))
      exact h2 (y - 139) (by omega) (ey.trans (congrArg nI (by omega)))
    · refine bnd hw ?_
      rw [ha]
theorem yline_both {N n0 m j p n fuel : Nat} (hN : 10000 ≤ N) {v0 : VYear} {v1 : VTape} {v2 : VTown} {v3 : VLaws} {w0 : VR} {ls : Nat → Int32} (h : LexAt n0 m v1 w0) (hj : j ≤ m) (ha : Tape_at v1 = nI j) (hf : Tape_fault v1 = 0) (h0 : ¬ Tape_tokens v1 j = 0) (hp : p ≤ 6) (hpe : Town_people v2 = nI p) (hy : R_namesMany w0 = nI p) (hnr : NamesR p (Town_names v2) (R_names w0)) (hn : n ≤ 40) (hln : Year_lines v0 = nI n) (hyr : YR p n (Year_words v0) (Year_first v0) (Year_second v0) ls) : ∃ nl wo fi se j' f' x' ls', f_Year_readLine N v0 v1 v2 v3 = some (nl, wo, fi, se, nI j', f') ∧ f_R_year_L11 N (fuel + 1) w0 (nI n) (nI j) 0 ls = f_R_year_L11 N fuel w0 x' (nI j') f' ls' ∧ j ≤ j' ∧ j' ≤ m ∧ (f' = 0 ∨ dead f') ∧ FrL ls ls' ∧ (f' = 0 → j < j' ∧ n + 1 ≤ 40 ∧ nl = nI (n + 1) ∧ x' = nI (n + 1) ∧ YR p (n + 1) wo fi se ls') := by
  have hm := h.m1000
  have hso : ¬ R_sort w0 j = 0 := fun q => h0 ((tok_end (h.tok hj).1).1.mp q)
  have hlt : j < m := tk_lt h hj h0
  have e125 : (125 : Int32) + 3 * nI n = nI (125 + 3 * n) := by rw [show (125 : Int32) = nI 125 from rfl, show (3 : Int32) = nI 3 from rfl, pk_mul, nI_add]
  have e126 : (126 : Int32) + 3 * nI n = nI (126 + 3 * n) := by rw [show (126 : Int32) = nI 126 from rfl, show (3 : Int32) = nI 3 from rfl, pk_mul, nI_add]
  have ix250 : ∀ i, i < 250 → ¬ (nI i < 0 ∨ 250 ≤ i) := fun i hi q => q.elim (nI_pos (by omega)) (fun y => by omega)
  have e127 : nI (126 + 3 * n) + 1 = nI (127 + 3 * n) := (nI_1 _).trans (congrArg nI (by omega))
  have hyw := yword_at (N := N) (w := R_s_at_fault_lines w0 (nI j) 0 ls) hN h hj rfl rfl
  obtain ⟨F1, hF1, w1, w1'⟩ := wrong_A (N := N) (w := R_s_at_fault_lines w0 (nI j) 0 ls) h hj ha hf rfl rfl (k := 1) (by decide) (by decide)
  obtain ⟨F5, hF5, w5, w5'⟩ := wrong_A (N := N) (w := R_s_at_fault_lines w0 (nI j) 0 ls) h hj ha hf rfl rfl (k := 5) (by decide) (by decide)
  have tS : ∀ F, dead F → f_R_takeSign N (R_s_at_fault_lines w0 (nI j) F ls) 59 = some (nI j, F) := fun F hF => takeSign_B (w := R_s_at_fault_lines w0 (nI j) F ls) hF
  by_cases c40 : n = 40
  · have full : ∀ x, f_R_yearWord N (R_s_at_fault_lines w0 (nI j) 0 ls) = some x → 0 ≤ x → f_R_year_L11 N (fuel + 1) w0 (nI n) (nI j) 0 ls = f_R_year_L11 N fuel w0 (nI n) (nI j) F5 ls := by
      intro x e1 e2
      rw [f_R_year_L11]
      refine zifp rfl ?_
      rw [nI_clamp (n := j) (by omega)]
      refine zifn (t_ix h hj).2 ?_
      refine zifn hso ?_
      refine bnd e1 ?_
      refine zifp e2 ?_
      refine zifp (by rw [c40]; rfl) ?_
      refine bnd w5' ?_
      exact bnd (tS F5 hF5) rfl
    have nlt : ¬ nI n < 40 := by rw [c40]; decide
    rcases hyw with ⟨ht, e⟩ | ⟨i, hi, ht, e⟩ | ⟨ht1, ht2, e⟩
    · exact ⟨_, _, _, _, j, F5, nI n, ls, yfull h hj ha hf (by omega) hln nlt w5 (Or.inl ht), full _ e (by decide), Nat.le_refl _, hj, Or.inr hF5, fun _ _ => rfl, fun q => absurd q hF5.ne⟩
    · exact ⟨_, _, _, _, j, F5, nI n, ls, yfull h hj ha hf (by omega) hln nlt w5 (Or.inr ⟨i, hi, ht⟩), full _ e (nI_pos' (by omega)), Nat.le_refl _, hj, Or.inr hF5, fun _ _ => rfl, fun q => absurd q hF5.ne⟩
    · refine ⟨_, _, _, _, j, F1, nI n, ls, ynone h hj ha hf w1 ht1 ht2, ?_, Nat.le_refl _, hj, Or.inr hF1, fun _ _ => rfl, fun q => absurd q hF1.ne⟩
      rw [f_R_year_L11]
      refine zifp rfl ?_
      rw [nI_clamp (n := j) (by omega)]
      refine zifn (t_ix h hj).2 ?_
      refine zifn hso ?_
      refine bnd e ?_
      refine zifn (by decide) ?_
      refine bnd w1' ?_
      exact bnd (tS F1 hF1) rfl
  · have hn4 : n < 40 := by omega
    have ix40 : ¬ (nI n < 0 ∨ 40 ≤ n) := fun q => q.elim (nI_pos (by omega)) (fun y => by omega)
    have e1n : nI n + 1 = nI (n + 1) := nI_1 n
    have plain : ∀ (T q : Int32) (x : Nat), f_R_yearWord N (R_s_at_fault_lines w0 (nI j) 0 ls) = some q → (q = 3 ∨ q = 4) → lineR p T (-1) (-1) q (ls (126 + 3 * n)) (ls (127 + 3 * n)) → (∀ j2 f2, f_Tape_expect N (Tape_at_s v1 (nI (j + 1))) 59 = some (nI j2, f2) → f_Year_readLine N v0 v1 v2 v3 = some (nI (n + 1), upd (Year_words v0) n T, upd (Year_first v0) n (-1), upd (Year_second v0) n (-1), nI j2, f2)) → ∃ nl wo fi se j' f' x' ls', f_Year_readLine N v0 v1 v2 v3 = some (nl, wo, fi, se, nI j', f') ∧ f_R_year_L11 N (fuel + 1) w0 (nI n) (nI j) 0 ls = f_R_year_L11 N fuel w0 x' (nI j') f' ls' ∧ j ≤ j' ∧ j' ≤ m ∧ (f' = 0 ∨ dead f') ∧ FrL ls ls' ∧ (f' = 0 → j < j' ∧ n + 1 ≤ 40 ∧ nl = nI (n + 1) ∧ x' = nI (n + 1) ∧ YR p (n + 1) wo fi se ls') := by
      intro T q x e hq hlr hcl
      obtain ⟨j2, f2, x2, y2, k1, k2, k3, k4⟩ := semi (N := N) (v1 := v1) (j1 := j + 1) (f1 := 0) (w := R_s_at_fault_lines w0 (nI (j + 1)) 0 (upd ls (125 + 3 * n) q)) h hlt (Or.inl rfl) rfl rfl
      have x2' : f_Tape_expect N (Tape_at_s v1 (nI (j + 1))) 59 = some (nI j2, f2) := by
        have e3 : Tape_at_s v1 (nI (j + 1)) = Tape_s_at_fault v1 (nI (j + 1)) 0 := by
          rw [← hf]
          rfl
        rw [e3]
        exact x2
      refine ⟨_, _, _, _, j2, f2, nI (n + 1), upd ls (125 + 3 * n) q, hcl j2 f2 x2', ?_, by omega, k2, k3, fun i hi => pk_un (by omega), fun _ => ⟨by omega, by omega, rfl, rfl, ?_⟩⟩
      · show _ = _
        rw [f_R_year_L11]
        refine zifp rfl ?_
        rw [nI_clamp (n := j) (by omega)]
        refine zifn (t_ix h hj).2 ?_
        refine zifn hso ?_
        refine bnd e ?_
        refine zifp (by rcases hq with rfl | rfl <;> decide) ?_
        refine zifn (nlit 40 rfl c40 (by omega) (by decide)) ?_
        rw [e125, e126, nI_clamp (n := 125 + 3 * n) (by omega), show nI j + 1 = nI (j + 1) from nI_1 j, e1n]
        refine zifn (ix250 _ (by omega)) ?_
        refine zletE ?_
        refine bnd (a := (nI (j + 1), 0, upd ls (125 + 3 * n) q)) ?_ ?_
        · unfold f_R_readYear
          refine zifn (by rcases hq with rfl | rfl <;> decide) ?_
          refine zifn (by rcases hq with rfl | rfl <;> decide) ?_
          exact zifn (by rcases hq with rfl | rfl <;> decide) rfl
        · exact bnd y2 rfl
      · refine hyr.put hlr (fun i hi => pk_un (by omega)) pk_us (pk_un (by omega)) (pk_un (by omega))
    rcases hyw with ⟨ht, e⟩ | ⟨i, hi, ht, e⟩ | ⟨ht1, ht2, e⟩
    · -- HOME
      refine plain 132 4 0 e (Or.inr rfl) (Or.inr (Or.inr (Or.inr (Or.inr ⟨rfl, rfl⟩)))) (fun j2 f2 x2 => ?_)
      unfold f_Year_readLine
      refine bnd (token_A h hj ha hf) ?_
      rw [ht, hln, nI_clamp (n := n) (by omega)]
      refine zifp rfl ?_
      refine zifn (nI_pos (by omega)) ?_
      refine zifp (ltR (L := 40) (b := 40) rfl hn4 (by decide)) ?_
      refine bnd (adv_A h hlt ha hf) ?_
      refine zifn ix40 ?_
      refine zifn (by decide) ?_
      refine zifn (by decide) ?_
      refine zifn (by decide) ?_
      refine zifn ix40 ?_
      refine zifn (by decide) ?_
      refine zifn (by decide) ?_
      refine zifn ix40 ?_
      refine bnd x2 ?_
      refine zletE ?_
      refine zletE ?_
      refine zletE ?_
      rw [e1n]
    · have h4 : i = 0 ∨ i = 1 ∨ i = 2 ∨ i = 3 := by omega
      rcases h4 with rfl | rfl | rfl | rfl
      · -- HIDE
        obtain ⟨a1, b1, j1, f1, x1, y1, g1, g1', s1, r1⟩ := evPS (j_person (N := N) (n := n0) (m := m) (i := j + 1) (v := Tape_at_s v1 (nI (j + 1))) (v2 := v2) (v3 := v3) (y := 0) (cn := Town_names v2) (rn := R_names w0) (w := R_s_at_fault_lines w0 (nI (j + 1)) 0 (upd ls (125 + 3 * n) (nI 0))) hN h ⟨j + 1, Nat.le_refl _, hlt, rfl, rfl, hf, Or.inl hf⟩ hp hpe rfl (Or.inr ⟨rfl, hy, rfl⟩) hnr)
        obtain ⟨a2, b2, j2, f2, x2, y2, g2, g2', s2, r2⟩ := evPS (j_number (N := N) (n := n0) (m := m) (i := j1) (v := Tape_s_at_fault v1 (nI j1) f1) (w := R_s_at_fault_lines (R_s_at_fault_lines w0 (nI (j + 1)) 0 (upd ls (125 + 3 * n) (nI 0))) (nI j1) f1 (upd (upd ls (125 + 3 * n) (nI 0)) (126 + 3 * n) b1)) h ⟨j1, Nat.le_refl _, g1', rfl, rfl, rfl, s1⟩ (mo := 999) (by decide))
        obtain ⟨j3, f3, x3, y3, k1, k2, k3, k4⟩ := semi (N := N) (v1 := v1) (w := R_s_at_fault_lines w0 (nI j2) f2 (upd (upd (upd ls (125 + 3 * n) (nI 0)) (126 + 3 * n) b1) (127 + 3 * n) b2)) h g2' s2 rfl rfl
        refine ⟨nI (n + 1), upd (Year_words v0) n 139, upd (Year_first v0) n a1, upd (Year_second v0) n a2, j3, f3, nI (n + 1), upd (upd (upd ls (125 + 3 * n) (nI 0)) (126 + 3 * n) b1) (127 + 3 * n) b2, ?_, ?_, by omega, k2, k3, fun i hi => by rw [pk_un (by omega), pk_un (by omega), pk_un (by omega)], fun q => ⟨by omega, by omega, rfl, rfl, ?_⟩⟩
        · show _ = _
          unfold f_Year_readLine
          refine bnd (token_A h hj ha hf) ?_
          rw [ht, hln, nI_clamp (n := n) (by omega)]
          refine zifn (by decide) ?_
          refine zifn (by decide) ?_
          refine zifp (by decide) ?_
          refine zifn (nI_pos (by omega)) ?_
          refine zifp (ltR (L := 40) (b := 40) rfl hn4 (by decide)) ?_
          refine bnd (adv_A h hlt ha hf) ?_
          refine zifn ix40 ?_
          refine zifn (by decide) ?_
          refine zifp (by decide) ?_
          refine bnd x1 ?_
          refine zletE ?_
          refine zifn ix40 ?_
          refine zifp (by decide) ?_
          refine bnd (show f_Tape_readNumber N (Tape_s_at_fault v1 (nI j1) f1) 999 = _ from x2) ?_
          refine zletE ?_
          refine zifn ix40 ?_
          refine bnd x3 ?_
          refine zletE ?_
          rw [e1n]
          rfl
        · show _ = _
          rw [f_R_year_L11]
          refine zifp rfl ?_
          rw [nI_clamp (n := j) (by omega)]
          refine zifn (t_ix h hj).2 ?_
          refine zifn hso ?_
          refine bnd e ?_
          refine zifp (by decide) ?_
          refine zifn (nlit 40 rfl c40 (by omega) (by decide)) ?_
          rw [e125, e126, nI_clamp (n := 125 + 3 * n) (by omega), show nI j + 1 = nI (j + 1) from nI_1 j, e1n]
          refine zifn (ix250 _ (by omega)) ?_
          refine zletE ?_
          refine bnd (a := (nI j2, f2, upd (upd (upd ls (125 + 3 * n) (nI 0)) (126 + 3 * n) b1) (127 + 3 * n) b2)) ?_ (bnd y3 rfl)
          unfold f_R_readYear
          rw [e127, nI_clamp (n := 126 + 3 * n) (by omega), nI_clamp (n := 127 + 3 * n) (by omega)]
          refine zifp rfl ?_
          refine bnd y1 ?_
          refine zifn (ix250 _ (by omega)) ?_
          refine zletE ?_
          refine bnd (show f_R_takeNumber N (R_s_at_fault_lines (R_s_at_fault_lines w0 (nI (j + 1)) 0 (upd ls (125 + 3 * n) (nI 0))) (nI j1) f1 (upd (upd ls (125 + 3 * n) (nI 0)) (126 + 3 * n) b1)) 0 999 = _ from y2) ?_
          refine zifn (ix250 _ (by omega)) ?_
          exact zletE rfl
        · have q2 := k4 q
          obtain ⟨-, d1, o2, m2, d2⟩ := r2 q2
          have q1 : f1 = 0 := number_al (v := Tape_s_at_fault v1 (nI j1) f1) x2 s1 q2
          obtain ⟨-, d3, o1, m1, d4⟩ := r1 q1
          have d1 : a2 = b2 := d1
          have d2 : a2 = nI o2 := d2
          have d3 : a1 = b1 := d3
          have d4 : a1 = nI o1 := d4
          refine hyr.put (W := 139) (a := 0) (b := b1) (c := b2) (Or.inl ⟨rfl, rfl, o1, o2, m1, m2, d4, d3.symm.trans d4, d2, d1.symm.trans d2⟩) (fun i hi => by rw [pk_un (by omega), pk_un (by omega), pk_un (by omega)]) (by rw [pk_un (by omega), pk_un (by omega), pk_us]; rfl) (by rw [pk_un (by omega), pk_us]) pk_us
      · -- a LOT
        obtain ⟨a1, b1, j1, f1, x1, y1, g1, g1', s1, r1⟩ := evPS (j_number (N := N) (n := n0) (m := m) (i := j + 1) (v := Tape_at_s v1 (nI (j + 1))) (w := R_s_at_fault_lines w0 (nI (j + 1)) 0 (upd ls (125 + 3 * n) (nI 1))) h ⟨j + 1, Nat.le_refl _, hlt, rfl, rfl, hf, Or.inl hf⟩ (mo := 9999) (by decide))
        obtain ⟨j3, f3, x3, y3, k1, k2, k3, k4⟩ := semi (N := N) (v1 := v1) (w := R_s_at_fault_lines w0 (nI j1) f1 (upd (upd ls (125 + 3 * n) (nI 1)) (126 + 3 * n) b1)) h g1' s1 rfl rfl
        refine ⟨nI (n + 1), upd (Year_words v0) n 140, upd (Year_first v0) n a1, upd (Year_second v0) n (-1), j3, f3, nI (n + 1), upd (upd ls (125 + 3 * n) (nI 1)) (126 + 3 * n) b1, ?_, ?_, by omega, k2, k3, fun i hi => by rw [pk_un (by omega), pk_un (by omega)], fun q => ⟨by omega, by omega, rfl, rfl, ?_⟩⟩
        · show _ = _
          unfold f_Year_readLine
          refine bnd (token_A h hj ha hf) ?_
          rw [ht, hln, nI_clamp (n := n) (by omega)]
          refine zifn (by decide) ?_
          refine zifn (by decide) ?_
          refine zifp (by decide) ?_
          refine zifn (nI_pos (by omega)) ?_
          refine zifp (ltR (L := 40) (b := 40) rfl hn4 (by decide)) ?_
          refine bnd (adv_A h hlt ha hf) ?_
          refine zifn ix40 ?_
          refine zifp (by decide) ?_
          refine bnd (show f_Tape_readNumber N (Tape_at_s v1 (nI (j + 1))) 9999 = _ from x1) ?_
          refine zletE ?_
          refine zifn ix40 ?_
          refine zifn (by decide) ?_
          refine zifn (by decide) ?_
          refine zifn ix40 ?_
          refine bnd x3 ?_
          refine zletE ?_
          refine zletE ?_
          rw [e1n]
          rfl
        · show _ = _
          rw [f_R_year_L11]
          refine zifp rfl ?_
          rw [nI_clamp (n := j) (by omega)]
          refine zifn (t_ix h hj).2 ?_
          refine zifn hso ?_
          refine bnd e ?_
          refine zifp (by decide) ?_
          refine zifn (nlit 40 rfl c40 (by omega) (by decide)) ?_
          rw [e125, e126, nI_clamp (n := 125 + 3 * n) (by omega), show nI j + 1 = nI (j + 1) from nI_1 j, e1n]
          refine zifn (ix250 _ (by omega)) ?_
          refine zletE ?_
          refine bnd (a := (nI j1, f1, upd (upd ls (125 + 3 * n) (nI 1)) (126 + 3 * n) b1)) ?_ (bnd y3 rfl)
          unfold f_R_readYear
          rw [nI_clamp (n := 126 + 3 * n) (by omega)]
          refine zifn (by decide) ?_
          refine zifp rfl ?_
          refine bnd (show f_R_takeNumber N (R_s_at_fault_lines w0 (nI (j + 1)) 0 (upd ls (125 + 3 * n) (nI 1))) 0 9999 = _ from y1) ?_
          refine zifn (ix250 _ (by omega)) ?_
          exact zletE rfl
        · have q1 := k4 q
          obtain ⟨-, d3, o1, m1, d4⟩ := r1 q1
          have d3 : a1 = b1 := d3
          have d4 : a1 = nI o1 := d4
          refine hyr.put (W := 140) (a := 1) (b := b1) (Or.inr (Or.inl ⟨rfl, rfl, o1, m1, d4, d3.symm.trans d4⟩)) (fun i hi => by rw [pk_un (by omega), pk_un (by omega)]) (by rw [pk_un (by omega), pk_us]; rfl) pk_us rfl
      · -- a SWAP
        obtain ⟨a1, b1, j1, f1, x1, y1, g1, g1', s1, r1⟩ := evPS (j_person (N := N) (n := n0) (m := m) (i := j + 1) (v := Tape_at_s v1 (nI (j + 1))) (v2 := v2) (v3 := v3) (y := 0) (cn := Town_names v2) (rn := R_names w0) (w := R_s_at_fault_lines w0 (nI (j + 1)) 0 (upd ls (125 + 3 * n) (nI 2))) hN h ⟨j + 1, Nat.le_refl _, hlt, rfl, rfl, hf, Or.inl hf⟩ hp hpe rfl (Or.inr ⟨rfl, hy, rfl⟩) hnr)
        obtain ⟨a2, b2, j2, f2, x2, g2, g2', s2, r2, ft, y2, hc⟩ := j_other (N := N) (n := n0) (m := m) (j1 := j1) (f1 := f1) (a1 := a1) (v1 := v1) (v3 := v3) (w := R_s_at_fault_lines (R_s_at_fault_lines w0 (nI (j + 1)) 0 (upd ls (125 + 3 * n) (nI 2))) (nI j1) f1 (upd (upd ls (125 + 3 * n) (nI 2)) (126 + 3 * n) b1)) hN h g1' s1 rfl rfl hp hpe hy hnr (fun q => (r1 q).2.2)
        obtain ⟨j3, f3, x3, y3, k1, k2, k3, k4⟩ := semi (N := N) (v1 := v1) (w := R_s_at_fault_lines w0 (nI j2) f2 (upd (upd (upd ls (125 + 3 * n) (nI 2)) (126 + 3 * n) b1) (127 + 3 * n) b2)) h g2' s2 rfl rfl
        refine ⟨nI (n + 1), upd (Year_words v0) n 141, upd (Year_first v0) n a1, upd (Year_second v0) n a2, j3, f3, nI (n + 1), upd (upd (upd ls (125 + 3 * n) (nI 2)) (126 + 3 * n) b1) (127 + 3 * n) b2, ?_, ?_, by omega, k2, k3, fun i hi => by rw [pk_un (by omega), pk_un (by omega), pk_un (by omega)], fun q => ⟨by omega, by omega, rfl, rfl, ?_⟩⟩
        · show _ = _
          unfold f_Year_readLine
          refine bnd (token_A h hj ha hf) ?_
          rw [ht, hln, nI_clamp (n := n) (by omega)]
          refine zifn (by decide) ?_
          refine zifn (by decide) ?_
          refine zifp (by decide) ?_
          refine zifn (nI_pos (by omega)) ?_
          refine zifp (ltR (L := 40) (b := 40) rfl hn4 (by decide)) ?_
          refine bnd (adv_A h hlt ha hf) ?_
          refine zifn ix40 ?_
          refine zifn (by decide) ?_
          refine zifn (by decide) ?_
          refine zifp (by decide) ?_
          refine bnd x1 ?_
          refine zletE ?_
          refine zifn ix40 ?_
          refine zifn (by decide) ?_
          refine zifp (by decide) ?_
          refine zifn ix40 ?_
          rw [pk_us]
          refine bnd x2 ?_
          refine zletE ?_
          refine zifn ix40 ?_
          refine bnd x3 ?_
          refine zletE ?_
          rw [e1n]
          rfl
        · show _ = _
          rw [f_R_year_L11]
          refine zifp rfl ?_
          rw [nI_clamp (n := j) (by omega)]
          refine zifn (t_ix h hj).2 ?_
          refine zifn hso ?_
          refine bnd e ?_
          refine zifp (by decide) ?_
          refine zifn (nlit 40 rfl c40 (by omega) (by decide)) ?_
          rw [e125, e126, nI_clamp (n := 125 + 3 * n) (by omega), show nI j + 1 = nI (j + 1) from nI_1 j, e1n]
          refine zifn (ix250 _ (by omega)) ?_
          refine zletE ?_
          refine bnd (a := (nI j2, f2, upd (upd (upd ls (125 + 3 * n) (nI 2)) (126 + 3 * n) b1) (127 + 3 * n) b2)) ?_ (bnd y3 rfl)
          unfold f_R_readYear
          rw [e127, nI_clamp (n := 126 + 3 * n) (by omega), nI_clamp (n := 127 + 3 * n) (by omega)]
          refine zifn (by decide) ?_
          refine zifn (by decide) ?_
          refine zifp rfl ?_
          refine bnd y1 ?_
          refine zifn (ix250 _ (by omega)) ?_
          refine zletE ?_
          refine bnd y2 ?_
          refine zifn (ix250 _ (by omega)) ?_
          refine zletE ?_
          have z1 : upd (upd (upd ls (125 + 3 * n) (nI 2)) (126 + 3 * n) b1) (127 + 3 * n) b2 (126 + 3 * n) = b1 := by rw [pk_un (by omega), pk_us]
          have z2 : upd (upd (upd ls (125 + 3 * n) (nI 2)) (126 + 3 * n) b1) (127 + 3 * n) b2 (127 + 3 * n) = b2 := pk_us
          have hab : f1 = 0 → a1 = b1 := fun q => (r1 q).2.1
          rcases hc with ⟨c0, c1, c2, c4, c3⟩ | ⟨c0, c1, c2, c4⟩ | ⟨c1, c2, c4⟩
          · subst c0
            have hf1 : f1 = 0 := by
              rcases s1 with s1 | s1
              · exact s1
              · have y3' := (rtold_B (N := N) (y := 0) (w := (R_s_at_fault_lines (R_s_at_fault_lines w0 (nI (j + 1)) 0 (upd ls (125 + 3 * n) (nI 2))) (nI j1) f1 (upd (upd ls (125 + 3 * n) (nI 2)) (126 + 3 * n) b1))) s1).symm.trans y2
                exact (Prod.mk.inj (Option.some.inj y3')).2
            refine zifp rfl ?_
            refine zifn (ix250 _ (by omega)) ?_
            refine zifn (ix250 _ (by omega)) ?_
            refine zifp (z1.trans ((hab hf1).symm.trans (c1.trans z2.symm))) ?_
            subst hf1
            refine bnd (a := f2) ?_ ?_
            · exact c2
            · have e3 : nI j1 + (if f2 ≤ 0 then 1 else 0) = nI j2 := by
                rw [if_neg c3.nle, c4]
                exact nI_add j1 0
              exact congrArg (fun x => some (x, f2, (upd (upd (upd ls (125 + 3 * n) (nI 2)) (126 + 3 * n) b1) (127 + 3 * n) b2))) e3
          · subst c0 c2
            have hf1 : f1 = 0 := (r2 rfl).1
            refine zifp rfl ?_
            refine zifn (ix250 _ (by omega)) ?_
            refine zifn (ix250 _ (by omega)) ?_
            refine zifn (fun q => c1 ((hab hf1).trans (z1.symm.trans (q.trans z2)))) ?_
            have e3 : nI j1 + (if (0 : Int32) ≤ 0 then 1 else 0) = nI j2 := by
              rw [if_pos (by decide), c4]
              exact nI_1 j1
            exact congrArg (fun x => some (x, (0 : Int32), (upd (upd (upd ls (125 + 3 * n) (nI 2)) (126 + 3 * n) b1) (127 + 3 * n) b2))) e3
          · subst c2
            refine zifn c1.ne ?_
            have e3 : nI j1 + (if f2 ≤ 0 then 1 else 0) = nI j2 := by
              rw [if_neg c1.nle, c4]
              exact nI_add j1 0
            exact congrArg (fun x => some (x, f2, (upd (upd (upd ls (125 + 3 * n) (nI 2)) (126 + 3 * n) b1) (127 + 3 * n) b2))) e3
        · have q2 := k4 q
          obtain ⟨q1, d1, o2, m2, d2, d5⟩ := r2 q2
          obtain ⟨-, d3, o1, m1, d4⟩ := r1 q1
          have d3 : a1 = b1 := d3
          have d4 : a1 = nI o1 := d4
          refine hyr.put (W := 141) (a := 2) (b := b1) (c := b2) (Or.inr (Or.inr (Or.inl ⟨rfl, rfl, o1, o2, m1, m2, fun e9 => d5 (by rw [d4, e9]), d4, d3.symm.trans d4, d2, d1.symm.trans d2⟩))) (fun i hi => by rw [pk_un (by omega), pk_un (by omega), pk_un (by omega)]) (by rw [pk_un (by omega), pk_un (by omega), pk_us]; rfl) (by rw [pk_un (by omega), pk_us]) pk_us
      · -- a DAY
        refine plain 142 3 0 e (Or.inl rfl) (Or.inr (Or.inr (Or.inr (Or.inl ⟨rfl, rfl⟩)))) (fun j2 f2 x2 => ?_)
        unfold f_Year_readLine
        refine bnd (token_A h hj ha hf) ?_
        rw [ht, hln, nI_clamp (n := n) (by omega)]
        refine zifn (by decide) ?_
        refine zifn (by decide) ?_
        refine zifp (by decide) ?_
        refine zifn (nI_pos (by omega)) ?_
        refine zifp (ltR (L := 40) (b := 40) rfl hn4 (by decide)) ?_
        refine bnd (adv_A h hlt ha hf) ?_
        refine zifn ix40 ?_
        refine zifn (by decide) ?_
        refine zifn (by decide) ?_
        refine zifn (by decide) ?_
        refine zifn ix40 ?_
        refine zifn (by decide) ?_
        refine zifn (by decide) ?_
        refine zifn ix40 ?_
        refine bnd x2 ?_
        refine zletE ?_
        refine zletE ?_
        refine zletE ?_
        rw [e1n]
        rfl
    · refine ⟨_, _, _, _, j, F1, nI n, ls, ynone h hj ha hf w1 ht1 ht2, ?_, Nat.le_refl _, hj, Or.inr hF1, fun _ _ => rfl, fun q => absurd q hF1.ne⟩
      rw [f_R_year_L11]
      refine zifp rfl ?_
      rw [nI_clamp (n := j) (by omega)]
      refine zifn (t_ix h hj).2 ?_
      refine zifn hso ?_
      refine bnd e ?_
      refine zifn (by decide) ?_
      refine bnd w1' ?_
      exact bnd (tS F1 hF1) rfl
