/-! ===== names ===== -/
def NamesR (p : Nat) (cn rn : Nat → Int64) : Prop := (∀ k, k < p → ∃ ls, wordOk ls ∧ cn k = lN (nB 27 ls 0) ∧ rn k = lN (nB 37 ls 0)) ∧ ∀ j k, j < p → k < p → cn j = cn k → j = k
theorem NamesR.both {p : Nat} {cn rn : Nat → Int64} (h : NamesR p cn rn) {ls : List Nat} (hl : wordOk ls) {k : Nat} (hk : k < p) : cn k = lN (nB 27 ls 0) ↔ rn k = lN (nB 37 ls 0) := by
  obtain ⟨x, hx, e1, e2⟩ := h.1 k hk
  rw [e1, e2, word_eq (Or.inl rfl) hx hl, word_eq (Or.inr rfl) hx hl]
theorem named_loop (N : Nat) {v2 : VTown} {v3 : VLaws} {p : Nat} {V : Int64} (hp : p ≤ 6) (hpe : Town_people v2 = nI p) : ∀ (r k fuel : Nat), k + r = p → r < fuel → (∃ i, k ≤ i ∧ i < p ∧ Town_names v2 i = V ∧ f_Town_named_L2 N fuel v2 v3 V (nI k) = some (Sum.inl (nI i))) ∨ (f_Town_named_L2 N fuel v2 v3 V (nI k) = some (Sum.inr ()) ∧ ∀ i, k ≤ i → i < p → ¬ Town_names v2 i = V)
  | _, _, 0, _, h => absurd h (Nat.not_lt_zero _)
  | 0, k, fuel + 1, hk, hf => by
    right
    refine ⟨?_, fun i h1 h2 => absurd h2 (by omega)⟩
    rw [f_Town_named_L2, hpe]
    exact zifp (nI_le (by omega) (by omega)) rfl
  | r + 1, k, fuel + 1, hk, hf => by
    rw [f_Town_named_L2, hpe, nI_clamp (n := k) (by omega), show nI k + 1 = nI (k + 1) from nI_1 k]
    by_cases c : Town_names v2 k = V
    · left
      refine ⟨k, Nat.le_refl _, by omega, c, ?_⟩
      refine zifn (nI_ge (by omega) (by omega)) ?_
      refine zifn (fun x => x.elim (nI_pos (by omega)) (fun y => by omega)) ?_
      exact zifp ((lg_cmp_eq _ _).mpr c) rfl
    · have e : ∀ R, f_Town_named_L2 N fuel v2 v3 V (nI (k + 1)) = R → (if nI p ≤ nI k then some (Sum.inr ()) else if nI k < 0 ∨ 6 ≤ k then none else if lg_cmp (Town_names v2 k) V = 0 then some (Sum.inl (nI k)) else f_Town_named_L2 N fuel v2 v3 V (nI (k + 1))) = R := fun R hR => by
        refine zifn (nI_ge (by omega) (by omega)) ?_
        refine zifn (fun x => x.elim (nI_pos (by omega)) (fun y => by omega)) ?_
        exact zifn (fun q => c ((lg_cmp_eq _ _).mp q)) hR
      rcases named_loop N (v2 := v2) (v3 := v3) (V := V) hp hpe r (k + 1) fuel (by omega) (by omega) with ⟨i, h1, h2, h3, h4⟩ | ⟨h1, h2⟩
      · exact Or.inl ⟨i, by omega, h2, h3, e _ h4⟩
      · refine Or.inr ⟨e _ h1, fun i h3 h4 => ?_⟩
        by_cases e : i = k
        · subst e; exact c
        · exact h2 i (by omega) h4
theorem named_ok {N : Nat} (hN : 10000 ≤ N) {v2 : VTown} {v3 : VLaws} {p : Nat} {V : Int64} (hp : p ≤ 6) (hpe : Town_people v2 = nI p) : (∃ i, i < p ∧ Town_names v2 i = V ∧ f_Town_named N v2 v3 V = some (nI i)) ∨ (f_Town_named N v2 v3 V = some (-1) ∧ ∀ i, i < p → ¬ Town_names v2 i = V) := by
  unfold f_Town_named
  rcases named_loop N (v2 := v2) (v3 := v3) (V := V) hp hpe p 0 N (by omega) (by omega) with ⟨i, -, h2, h3, h4⟩ | ⟨h1, h2⟩
  · exact Or.inl ⟨i, h2, h3, bnd h4 rfl⟩
  · exact Or.inr ⟨bnd h1 rfl, fun i hi => h2 i (Nat.zero_le _) hi⟩
theorem rfind_no (N : Nat) {n m j p : Nat} {v : VTape} {w : VR} {V : Int64} (h : LexAt n m v w) (hj : j ≤ m) (ra : R_at w = nI j) (hV : R_value w j = V) (hp : p ≤ 6) (hm : R_readMany w = nI p) (hno : ∀ i, i < p → ¬ R_readNames w i = V) : ∀ (r k fuel : Nat) (x : Int32), k + r = p → r < fuel → f_R_find_L4 N fuel w 1 x (nI k) = some x
  | _, _, 0, _, _, h => absurd h (Nat.not_lt_zero _)
  | 0, k, fuel + 1, x, hk, hf => by
    rw [f_R_find_L4, if_neg (by decide : ¬ (1 : Int32) = 0), hm]
    exact zifp (nI_le (by omega) (by omega)) rfl
  | r + 1, k, fuel + 1, x, hk, hf => by
    have hm1 := h.m1000
    rw [f_R_find_L4, if_neg (by decide : ¬ (1 : Int32) = 0), hm, ra, nI_clamp (n := k) (by omega), nI_clamp (n := j) (by omega), hV, show nI k + 1 = nI (k + 1) from nI_1 k]
    refine zifn (nI_ge (by omega) (by omega)) ?_
    refine zifn (by decide) ?_
    refine zifn (fun x => x.elim (nI_pos (by omega)) (fun y => by omega)) ?_
    refine zifn (t_ix h hj).2 ?_
    refine zletG (y := x) (if_neg (fun q => hno k (by omega) ((lg_cmp_eq _ _).mp q))) ?_
    exact rfind_no N h hj ra hV hp hm hno r (k + 1) fuel x (by omega) (by omega)
theorem rfind_yes (N : Nat) {n m j p i0 : Nat} {v : VTape} {w : VR} {V : Int64} (h : LexAt n m v w) (hj : j ≤ m) (ra : R_at w = nI j) (hV : R_value w j = V) (hp : p ≤ 6) (hm : R_readMany w = nI p) (hi : i0 < p) (hyes : ∀ i, i < p → (R_readNames w i = V ↔ i = i0)) : ∀ (r k fuel : Nat) (x : Int32), k + r = p → r < fuel → f_R_find_L4 N fuel w 1 x (nI k) = some (if k ≤ i0 then nI i0 else x)
  | _, _, 0, _, _, h => absurd h (Nat.not_lt_zero _)
  | 0, k, fuel + 1, x, hk, hf => by
    rw [f_R_find_L4, if_neg (by decide : ¬ (1 : Int32) = 0), hm, if_neg (show ¬ k ≤ i0 by omega)]
    exact zifp (nI_le (by omega) (by omega)) rfl
  | r + 1, k, fuel + 1, x, hk, hf => by
    have hm1 := h.m1000
    rw [f_R_find_L4, if_neg (by decide : ¬ (1 : Int32) = 0), hm, ra, nI_clamp (n := k) (by omega), nI_clamp (n := j) (by omega), hV, show nI k + 1 = nI (k + 1) from nI_1 k]
    refine zifn (nI_ge (by omega) (by omega)) ?_
    refine zifn (by decide) ?_
    refine zifn (fun x => x.elim (nI_pos (by omega)) (fun y => by omega)) ?_
    refine zifn (t_ix h hj).2 ?_
    by_cases c : k = i0
    · subst c
      refine zletG (y := nI k) (if_pos ((lg_cmp_eq _ _).mpr ((hyes k (by omega)).mpr rfl))) ?_
      rw [rfind_yes N h hj ra hV hp hm hi hyes r (k + 1) fuel _ (by omega) (by omega), if_neg (by omega), if_pos (Nat.le_refl _)]
    · refine zletG (y := x) (if_neg (fun q => c ((hyes k (by omega)).mp ((lg_cmp_eq _ _).mp q)))) ?_
      rw [rfind_yes N h hj ra hV hp hm hi hyes r (k + 1) fuel _ (by omega) (by omega)]
      by_cases c2 : k ≤ i0
      · rw [if_pos c2, if_pos (by omega)]
      · rw [if_neg c2, if_neg (by omega)]
theorem rfind_no0 (N : Nat) {n m j p : Nat} {v : VTape} {w : VR} {V : Int64} (h : LexAt n m v w) (hj : j ≤ m) (ra : R_at w = nI j) (hV : R_value w j = V) (hp : p ≤ 6) (hm : R_namesMany w = nI p) (hno : ∀ i, i < p → ¬ R_names w i = V) : ∀ (r k fuel : Nat) (x : Int32), k + r = p → r < fuel → f_R_find_L4 N fuel w 0 x (nI k) = some x
  | _, _, 0, _, _, h => absurd h (Nat.not_lt_zero _)
  | 0, k, fuel + 1, x, hk, hf => by
    rw [f_R_find_L4, if_pos (rfl : (0 : Int32) = 0), hm]
    exact zifp (nI_le (by omega) (by omega)) rfl
  | r + 1, k, fuel + 1, x, hk, hf => by
    have hm1 := h.m1000
    rw [f_R_find_L4, if_pos (rfl : (0 : Int32) = 0), hm, ra, nI_clamp (n := k) (by omega), nI_clamp (n := j) (by omega), hV, show nI k + 1 = nI (k + 1) from nI_1 k]
    refine zifn (nI_ge (by omega) (by omega)) ?_
    refine zifp rfl ?_
    refine zifn (fun x => x.elim (nI_pos (by omega)) (fun y => by omega)) ?_
    refine zifn (t_ix h hj).2 ?_
    refine zletG (y := x) (if_neg (fun q => hno k (by omega) ((lg_cmp_eq _ _).mp q))) ?_
    exact rfind_no0 N h hj ra hV hp hm hno r (k + 1) fuel x (by omega) (by omega)
theorem rfind_yes0 (N : Nat) {n m j p i0 : Nat} {v : VTape} {w : VR} {V : Int64} (h : LexAt n m v w) (hj : j ≤ m) (ra : R_at w = nI j) (hV : R_value w j = V) (hp : p ≤ 6) (hm : R_namesMany w = nI p) (hi : i0 < p) (hyes : ∀ i, i < p → (R_names w i = V ↔ i = i0)) : ∀ (r k fuel : Nat) (x : Int32), k + r = p → r < fuel → f_R_find_L4 N fuel w 0 x (nI k) = some (if k ≤ i0 then nI i0 else x)
  | _, _, 0, _, _, h => absurd h (Nat.not_lt_zero _)
  | 0, k, fuel + 1, x, hk, hf => by
    rw [f_R_find_L4, if_pos (rfl : (0 : Int32) = 0), hm, if_neg (show ¬ k ≤ i0 by omega)]
    exact zifp (nI_le (by omega) (by omega)) rfl
  | r + 1, k, fuel + 1, x, hk, hf => by
    have hm1 := h.m1000
    rw [f_R_find_L4, if_pos (rfl : (0 : Int32) = 0), hm, ra, nI_clamp (n := k) (by omega), nI_clamp (n := j) (by omega), hV, show nI k + 1 = nI (k + 1) from nI_1 k]
    refine zifn (nI_ge (by omega) (by omega)) ?_
    refine zifp rfl ?_
    refine zifn (fun x => x.elim (nI_pos (by omega)) (fun y => by omega)) ?_
    refine zifn (t_ix h hj).2 ?_
    by_cases c : k = i0
    · subst c
      refine zletG (y := nI k) (if_pos ((lg_cmp_eq _ _).mpr ((hyes k (by omega)).mpr rfl))) ?_
      rw [rfind_yes0 N h hj ra hV hp hm hi hyes r (k + 1) fuel _ (by omega) (by omega), if_neg (by omega), if_pos (Nat.le_refl _)]
    · refine zletG (y := x) (if_neg (fun q => c ((hyes k (by omega)).mp ((lg_cmp_eq _ _).mp q)))) ?_
      rw [rfind_yes0 N h hj ra hV hp hm hi hyes r (k + 1) fuel _ (by omega) (by omega)]
      by_cases c2 : k ≤ i0
      · rw [if_pos c2, if_pos (by omega)]
      · rw [if_neg c2, if_neg (by omega)]
/-- both find the same one, or none -/
theorem names_both {N : Nat} (hN : 10000 ≤ N) {n m j p : Nat} {v : VTape} {w : VR} {v2 : VTown} {v3 : VLaws} {y : Int32} {cn rn : Nat → Int64} (h : LexAt n m v w) (hj : j ≤ m) (ra : R_at w = nI j) (hn : isNm (Tape_tokens v j) = true) (hp : p ≤ 6) (hpe : Town_people v2 = nI p) (hcn : Town_names v2 = cn) (hy : (y = 1 ∧ R_readMany w = nI p ∧ R_readNames w = rn) ∨ (y = 0 ∧ R_namesMany w = nI p ∧ R_names w = rn)) (hnr : NamesR p cn rn) : (∃ k, k < p ∧ f_Town_named N v2 v3 (Tape_values v j) = some (nI k) ∧ f_R_find N w y = some (nI k)) ∨ (f_Town_named N v2 v3 (Tape_values v j) = some (-1) ∧ f_R_find N w y = some (-1) ∧ ∃ ls, wordOk ls ∧ Tape_values v j = lN (nB 27 ls 0) ∧ R_value w j = lN (nB 37 ls 0) ∧ ∀ k, k < p → ¬ cn k = lN (nB 27 ls 0)) := by
  obtain ⟨ls, hl, e1, e2⟩ := tok_nmval (h.tok hj).1 hn
  subst hcn
  rw [e1]
  rcases named_ok hN (v2 := v2) (v3 := v3) (V := lN (nB 27 ls 0)) hp hpe with ⟨i, h2, h3, h4⟩ | ⟨h1, h2⟩
  · refine Or.inl ⟨i, h2, h4, ?_⟩
    have huniq : ∀ k, k < p → (rn k = lN (nB 37 ls 0) ↔ k = i) := fun k hk => by
      rw [← hnr.both hl hk]
      exact ⟨fun q => hnr.2 k i hk h2 (q.trans h3.symm), fun q => by rw [q]; exact h3⟩
    unfold f_R_find
    rcases hy with ⟨rfl, hm, rfl⟩ | ⟨rfl, hm, rfl⟩
    · have hf := rfind_yes N h hj ra e2 hp hm h2 huniq p 0 N (-1) (by omega) (by omega)
      rw [if_pos (Nat.zero_le _)] at hf
      exact bnd hf rfl
    · have hf := rfind_yes0 N h hj ra e2 hp hm h2 huniq p 0 N (-1) (by omega) (by omega)
      rw [if_pos (Nat.zero_le _)] at hf
      exact bnd hf rfl
  · refine Or.inr ⟨h1, ?_, ls, hl, rfl, e2, h2⟩
    have hno : ∀ k, k < p → ¬ rn k = lN (nB 37 ls 0) := fun k hk q => h2 k hk ((hnr.both hl hk).mpr q)
    unfold f_R_find
    rcases hy with ⟨rfl, hm, rfl⟩ | ⟨rfl, hm, rfl⟩
    · exact bnd (rfind_no N h hj ra e2 hp hm hno p 0 N (-1) (by omega) (by omega)) rfl
    · exact bnd (rfind_no0 N h hj ra e2 hp hm hno p 0 N (-1) (by omega) (by omega)) rfl
theorem PS.dead_of {m i : Nat} {a f a' f' : Int32} (h : PS m i a f a' f') (hf : ¬ f = 0) : dead f ∧ dead f' := by
  obtain ⟨j, h1, h2, h3, h4, h5, h6⟩ := h
  have := h6.resolve_left hf
  exact ⟨this, by rw [← h5]; exact this⟩
/-! what the reference says of a NAME here -/
theorem rtold_B {N : Nat} {w : VR} {y : Int32} (rf : dead (R_fault w)) : f_R_toldHere N w y = some (0, R_fault w) := by
  unfold f_R_toldHere
  refine zifn rf.ne ?_
  refine zifn rf.nle ?_
  refine zifn rf.ne ?_
  exact zifn rf.nle rfl
theorem rtold_no {N n m j : Nat} {v : VTape} {w : VR} {y F : Int32} (hN : 10000 ≤ N) (h : LexAt n m v w) (hj : j ≤ m) (ra : R_at w = nI j) (rf : R_fault w = 0) (hn : isNm (Tape_tokens v j) = false) (hF : dead F) (hw : f_R_wrong N w 1 = some F) : f_R_toldHere N w y = some (0, F) := by
  unfold f_R_toldHere
  refine zifp rf ?_
  refine bnd (risName_A hN h hj ra rf) ?_
  rw [hn]
  refine zifp rfl ?_
  refine bnd hw ?_
  refine zifn hF.nle ?_
  refine zifn hF.ne ?_
  exact zifn hF.nle rfl
theorem rtold_yes {N n m j k : Nat} {v : VTape} {w : VR} {y : Int32} (hN : 10000 ≤ N) (h : LexAt n m v w) (hj : j ≤ m) (ra : R_at w = nI j) (rf : R_fault w = 0) (hn : isNm (Tape_tokens v j) = true) (hk : k < 6) (hw : f_R_find N w y = some (nI k)) : f_R_toldHere N w y = some (nI k, R_fault w) := by
  have hle : R_fault w ≤ 0 := by rw [rf]; decide
  unfold f_R_toldHere
  refine zifp rf ?_
  refine bnd (risName_A hN h hj ra rf) ?_
  rw [hn]
  refine zifn (by decide) ?_
  refine zifp hle ?_
  refine bnd hw ?_
  refine zifp rf ?_
  refine zifp (nI_pos' (by omega)) ?_
  exact zifp hle rfl
theorem rtold_none {N n m j : Nat} {v : VTape} {w : VR} {y F : Int32} (hN : 10000 ≤ N) (h : LexAt n m v w) (hj : j ≤ m) (ra : R_at w = nI j) (rf : R_fault w = 0) (hn : isNm (Tape_tokens v j) = true) (hw : f_R_find N w y = some (-1)) (hF : dead F) (hw2 : f_R_wrong N w 2 = some F) : f_R_toldHere N w y = some (0, F) := by
  have hle : R_fault w ≤ 0 := by rw [rf]; decide
  unfold f_R_toldHere
  refine zifp rf ?_
  refine bnd (risName_A hN h hj ra rf) ?_
  rw [hn]
  refine zifn (by decide) ?_
  refine zifp hle ?_
  refine bnd hw ?_
  refine zifp rf ?_
  refine zifn (by decide) ?_
  refine bnd hw2 ?_
  exact zifn hF.nle rfl
theorem nm_ne0 {t : Int32} (h : isNm t = true) : ¬ t = 0 := fun q => by
  rw [q] at h
  exact absurd h (by decide)
/-- a PERSON told -/
theorem j_person {N n m i p : Nat} (hN : 10000 ≤ N) {v : VTape} {w : VR} {v2 : VTown} {v3 : VLaws} {y : Int32} {cn rn : Nat → Int64} (h : LexAt n m v w) (hps : PS m i (Tape_at v) (Tape_fault v) (R_at w) (R_fault w)) (hp : p ≤ 6) (hpe : Town_people v2 = nI p) (hcn : Town_names v2 = cn) (hy : (y = 1 ∧ R_readMany w = nI p ∧ R_readNames w = rn) ∨ (y = 0 ∧ R_namesMany w = nI p ∧ R_names w = rn)) (hnr : NamesR p cn rn) : Ev (f_Tape_readPerson N v v2 v3) (fun a => Ev (f_R_takeTold N w y) (fun b => PS m i a.2.1 a.2.2 b.2.1 b.2.2 ∧ (a.2.2 = 0 → PS m (i + 1) a.2.1 a.2.2 b.2.1 b.2.2 ∧ a.1 = b.1 ∧ ∃ k, k < p ∧ a.1 = nI k))) := by
  obtain ⟨j, hij, hjm, ha, ra, hff, hf⟩ := hps
  have hm := h.m1000
  unfold f_Tape_readPerson f_R_takeTold
  rcases hf with hf | hf
  · have rf : R_fault w = 0 := hff.symm.trans hf
    have hin := isName_A (N := N) h hjm ha hf
    refine Ev.bnd hin ?_
    cases hnm : isNm (Tape_tokens v j) with
    | false =>
      obtain ⟨F, hF, w1, w2⟩ := wrong_A (N := N) h hjm ha hf ra rf (k := 1) (by decide) (by decide)
      refine Ev.ifp rfl ?_
      refine Ev.bnd hin ?_
      rw [hnm, if_pos (show bI false = 0 from rfl)]
      refine Ev.bnd w1 ?_
      refine Ev.ret ?_
      refine Ev.bnd (rtold_no hN h hjm ra rf hnm hF w2) ?_
      rw [ra, if_neg hF.nle, show nI j + 0 = nI j from nI_add j 0]
      exact Ev.ret ⟨⟨j, hij, hjm, ha, rfl, rfl, Or.inr hF⟩, fun q => absurd q hF.ne⟩
    | true =>
      have hlt := tk_lt h hjm (nm_ne0 hnm)
      refine Ev.ifn (by decide) ?_
      refine Ev.bnd (value_A h hjm ha) ?_
      rcases names_both hN (v2 := v2) (v3 := v3) h hjm ra hnm hp hpe hcn hy hnr with ⟨k, hk, n1, n2⟩ | ⟨n1, n2, -⟩
      · refine Ev.bnd n1 ?_
        refine Ev.ifn (nI_nem1 (by omega)) ?_
        refine Ev.bnd (adv_A h hlt ha hf) ?_
        refine Ev.ret ?_
        refine Ev.bnd (rtold_yes hN h hjm ra rf hnm (by omega) n2) ?_
        rw [ra, if_pos (show R_fault w ≤ 0 by rw [rf]; decide), show nI j + 1 = nI (j + 1) from nI_1 j]
        exact Ev.ret ⟨⟨j + 1, by omega, by omega, rfl, rfl, hff, Or.inl hf⟩, fun _ => ⟨⟨j + 1, by omega, by omega, rfl, rfl, hff, Or.inl hf⟩, rfl, k, hk, rfl⟩⟩
      · obtain ⟨F, hF, w1, w2⟩ := wrong_A (N := N) h hjm ha hf ra rf (k := 2) (by decide) (by decide)
        refine Ev.bnd n1 ?_
        refine Ev.ifp rfl ?_
        refine Ev.bnd hin ?_
        rw [hnm, if_neg (show ¬ bI true = 0 by decide)]
        refine Ev.bnd w1 ?_
        refine Ev.ret ?_
        refine Ev.bnd (rtold_none hN h hjm ra rf hnm n2 hF w2) ?_
        rw [ra, if_neg hF.nle, show nI j + 0 = nI j from nI_add j 0]
        exact Ev.ret ⟨⟨j, hij, hjm, ha, rfl, rfl, Or.inr hF⟩, fun q => absurd q hF.ne⟩
  · have rf : dead (R_fault w) := by rw [← hff]; exact hf
    refine Ev.bnd (isName_B hf) ?_
    refine Ev.ifp rfl ?_
    refine Ev.bnd (isName_B hf) ?_
    rw [if_pos (rfl : (0 : Int32) = 0)]
    refine Ev.bnd (wrong_B hf) ?_
    refine Ev.ret ?_
    refine Ev.bnd (rtold_B rf) ?_
    rw [ra, if_neg rf.nle, show nI j + 0 = nI j from nI_add j 0]
    exact Ev.ret ⟨⟨j, hij, hjm, ha, rfl, hff, Or.inr hf⟩, fun q => absurd q hf.ne⟩
/-- a word, then a number -/
theorem j_told {N n m i k mo : Nat} {v : VTape} {w : VR} {v0 : VReader} {v2 : VTown} {v3 : VLaws} (h : LexAt n m v w) (hps : PS m i (Tape_at v) (Tape_fault v) (R_at w) (R_fault w)) (hk : k < 27) (hmo : mo ≤ 9999) : Ev (f_Reader_readTold N v0 v v2 v3 (nI (128 + k)) (nI mo)) (fun a => Ev (f_R_takeAfter N w (nI k) 0 (nI mo)) (fun b => PS m i a.2.1 a.2.2 b.2.1 b.2.2 ∧ (a.2.2 = 0 → PS m (i + 1) a.2.1 a.2.2 b.2.1 b.2.2 ∧ a.1 = b.1 ∧ ∃ x, x ≤ mo ∧ a.1 = nI x))) := by
  obtain ⟨a, e1, b, e2, d1⟩ := j_word (N := N) h hps hk
  obtain ⟨a', e3, b', e4, d2⟩ := j_number (N := N) (v := Tape_s_at_fault v a.1 a.2) (w := R_s_at_fault w b.1 b.2) h d1 hmo
  unfold f_Reader_readTold f_R_takeAfter
  refine Ev.bnd e1 ?_
  refine Ev.bnd e3 ?_
  refine Ev.ret ?_
  refine Ev.bnd e2 ?_
  refine Ev.bnd e4 ?_
  exact Ev.ret d2
/-- a KIND -/
theorem j_kind {N n m i : Nat} (hN : 10000 ≤ N) {v : VTape} {w : VR} {v0 : VReader} {v2 : VTown} {v3 : VLaws} (h : LexAt n m v w) (hps : PS m i (Tape_at v) (Tape_fault v) (R_at w) (R_fault w)) : Ev (f_Reader_readKind N v0 v v2 v3) (fun a => Ev (f_R_takeOne N w 15 4) (fun b => PS m i a.2.1 a.2.2 b.2.1 b.2.2 ∧ (a.2.2 = 0 → a.1 = b.1))) := by
  obtain ⟨j, hij, hjm, ha, ra, hff, hf⟩ := hps
  have hm := h.m1000
  unfold f_Reader_readKind f_R_takeOne
  rcases hf with hf | hf
  · have rf : R_fault w = 0 := hff.symm.trans hf
    have hle : R_fault w ≤ 0 := by rw [rf]; decide
    have hwh := rwh_A hN h hjm ra rf (f := 15) (mn := 4) (by omega)
    have hwh : f_R_wordHere N w 15 4 = _ := hwh
    refine Ev.bnd (token_A h hjm ha hf) ?_
    rcases whN_rng (Tape_tokens v j) 15 4 with ⟨h1, h2⟩ | ⟨x, h1, h2, h3⟩
    · obtain ⟨F, hF, w1, w2⟩ := wrong_A (N := N) h hjm ha hf ra rf (k := 1) (by decide) (by decide)
      have fin : Ev (if R_fault w ≤ 0 then (f_R_wordHere N w 15 4).bind (fun q2 => if R_fault w = 0 then (if 0 ≤ q2 then (if R_fault w ≤ 0 then some (q2, R_at w + (if R_fault w ≤ 0 then 1 else 0), R_fault w) else some (0, R_at w + (if R_fault w ≤ 0 then 1 else 0), R_fault w)) else (f_R_wrong N w 1).bind (fun q11 => if q11 ≤ 0 then some (q2, R_at w + (if q11 ≤ 0 then 1 else 0), q11) else some (0, R_at w + (if q11 ≤ 0 then 1 else 0), q11))) else (if R_fault w ≤ 0 then some (q2, R_at w + (if R_fault w ≤ 0 then 1 else 0), R_fault w) else some (0, R_at w + (if R_fault w ≤ 0 then 1 else 0), R_fault w))) else none) (fun b => b = (0, nI j, F)) := by
        refine Ev.ifp hle ?_
        refine Ev.bnd hwh ?_
        rw [h1]
        refine Ev.ifp rf ?_
        refine Ev.ifn (by decide) ?_
        refine Ev.bnd w2 ?_
        refine Ev.ifn hF.nle ?_
        rw [ra, if_neg hF.nle, show nI j + 0 = nI j from nI_add j 0]
        exact Ev.ret rfl
      have rest : Ev (f_R_takeOne N w 15 4) (fun b => b = (0, nI j, F)) := by
        unfold f_R_takeOne
        rw [if_pos hle] at fin ⊢
        exact fin
      have hadv : f_Tape_advance N (Tape_fault_s v F) = some (nI j) := (adv_B (v := Tape_fault_s v F) hF).trans (by show some (Tape_at v) = _; rw [ha])
      have ans : ∀ x : Int32, Ev ((f_Tape_wrong N v 1).bind (fun q3 => (f_Tape_advance N (Tape_fault_s v q3)).bind (fun q4 => some (x, q4, q3)))) (fun a => Ev (f_R_takeOne N w 15 4) (fun b => PS m i a.2.1 a.2.2 b.2.1 b.2.2 ∧ (a.2.2 = 0 → a.1 = b.1))) := fun x => by
        refine Ev.bnd w1 ?_
        refine Ev.bnd hadv ?_
        refine Ev.ret ?_
        refine rest.mono ?_
        rintro b rfl
        exact ⟨⟨j, hij, hjm, rfl, rfl, rfl, Or.inr hF⟩, fun q => absurd q hF.ne⟩
      unfold f_R_takeOne at ans
      by_cases c1 : Tape_tokens v j - 143 < 0
      · refine Ev.ifp c1 ?_
        exact ans _
      · refine Ev.ifn c1 ?_
        refine Ev.ifn (fun q => ?_) ?_
        · obtain ⟨y, hy, ey⟩ := nI_of c1
          have hy3 : y ≤ 3 := by
            rw [ey, show (3 : Int32) = nI 3 from rfl, nI_leI (by omega) (by omega)] at q
            exact q
          refine h2 y (by omega) ?_
          have e : Tape_tokens v j = nI y + 143 := by rw [← ey]; grind
          rw [e, show (143 : Int32) = nI 143 from rfl, nI_add]
          exact congrArg nI (by omega)
        · exact ans _
    · have hlt := tk_lt h hjm (fun q => by rw [q] at h3; have := (nI_eq (a := 0) (by decide) (by omega)).mp h3; omega)
      have e : Tape_tokens v j - 143 = nI x := by
        rw [h3, show (143 : Int32) = nI 143 from rfl, pk_sub (by omega)]
        exact congrArg nI (by omega)
      rw [e]
      refine Ev.ifn (nI_pos (by omega)) ?_
      refine Ev.ifp (nI_le (b := 3) (by omega) (by decide)) ?_
      refine Ev.bnd (adv_A h hlt ha hf) ?_
      refine Ev.ret ?_
      refine Ev.ifp hle ?_
      refine Ev.bnd hwh ?_
      rw [h2]
      refine Ev.ifp rf ?_
      refine Ev.ifp (nI_pos' (by omega)) ?_
      refine Ev.ifp hle ?_
      rw [ra, if_pos hle, show nI j + 1 = nI (j + 1) from nI_1 j]
      exact Ev.ret ⟨⟨j + 1, by omega, by omega, rfl, rfl, hff, Or.inl hf⟩, fun _ => rfl⟩
  · have rf : dead (R_fault w) := by rw [← hff]; exact hf
    have rest : Ev (f_R_takeOne N w 15 4) (fun b => b = (0, nI j, R_fault w)) := by
      unfold f_R_takeOne
      refine Ev.ifn rf.nle ?_
      refine Ev.ifn rf.ne ?_
      refine Ev.ifn rf.nle ?_
      rw [ra, if_neg rf.nle, show nI j + 0 = nI j from nI_add j 0]
      exact Ev.ret rfl
    have hadv : f_Tape_advance N (Tape_fault_s v (Tape_fault v)) = some (nI j) := (adv_B (v := Tape_fault_s v (Tape_fault v)) hf).trans (by show some (Tape_at v) = _; rw [ha])
    refine Ev.bnd (token_B hf) ?_
    refine Ev.ifp (by decide) ?_
    refine Ev.bnd (wrong_B hf) ?_
    refine Ev.bnd hadv ?_
    refine Ev.ret ?_
    refine rest.mono ?_
    rintro b rfl
    exact ⟨⟨j, hij, hjm, rfl, rfl, hff, Or.inr hf⟩, fun q => absurd q hf.ne⟩
