/-! ===== the token in hand ===== -/
def LexAt (n m : Nat) (v : VTape) (w : VR) : Prop := Tape_tokenCount v = nI (m + 1) ∧ LexR n m (Tape_tokens v) (Tape_places v) (Tape_values v) (R_sort w) (R_place w) (R_value w) ∧ wordsR w
def alive (f : Int32) : Prop := f = 0
def dead (f : Int32) : Prop := ∃ F, 0 < F ∧ F < 2 ^ 31 ∧ f = nI F
theorem dead.ne {f : Int32} (h : dead f) : ¬ f = 0 := by
  obtain ⟨F, h1, h2, rfl⟩ := h
  exact nI_ne0 h1 h2
theorem dead.nle {f : Int32} (h : dead f) : ¬ f ≤ 0 := by
  obtain ⟨F, h1, h2, rfl⟩ := h
  exact nI_nle h1 h2
def PS (m i : Nat) (a f a' f' : Int32) : Prop := ∃ j, i ≤ j ∧ j ≤ m ∧ a = nI j ∧ a' = nI j ∧ f = f' ∧ (f = 0 ∨ dead f)
theorem PS.wk {m i i' : Nat} {a f a' f' : Int32} (h : PS m i a f a' f') (hi : i' ≤ i) : PS m i' a f a' f' := by
  obtain ⟨j, h1, h2⟩ := h
  exact ⟨j, by omega, h2⟩
def tokAny (tk : Int32) (va : Int64) (so : Int32) (vr : Int64) : Prop := tokOne tk va so vr ∨ (tk = 0 ∧ so = 0)
theorem LexAt.tok {n m j : Nat} {v : VTape} {w : VR} (h : LexAt n m v w) (hj : j ≤ m) : tokAny (Tape_tokens v j) (Tape_values v j) (R_sort w j) (R_value w j) ∧ ∃ p, p ≤ 1000 ∧ Tape_places v j = nI p ∧ R_place w j = nI p := by
  obtain ⟨-, ⟨h1, h2, h3, h4, h5, h6, h7⟩, -⟩ := h
  by_cases e : j = m
  · subst e
    exact ⟨Or.inr ⟨h4, h5⟩, n, h2, h6, h7⟩
  · obtain ⟨⟨p, g1, g2, g3⟩, g4⟩ := h3 j (by omega)
    exact ⟨Or.inl g4, p, by omega, g2, g3⟩
theorem LexAt.m1000 {n m : Nat} {v : VTape} {w : VR} (h : LexAt n m v w) : m ≤ 1000 := by
  obtain ⟨-, ⟨h1, h2, -⟩, -⟩ := h
  omega
theorem LexAt.last {n m : Nat} {v : VTape} {w : VR} (h : LexAt n m v w) : Tape_tokens v m = 0 := h.2.1.2.2.2.1
theorem kw_cases (ls : List Nat) : kwOf ls = 1 ∨ ∃ k, k < 27 ∧ kwOf ls = nI (128 + k) := by
  rcases kwN_rng ls 27 (Nat.le_refl _) with ⟨h1, -⟩ | ⟨j, h1, h2, -⟩
  · exact Or.inl h1
  · exact Or.inr ⟨j, h1, h2⟩
theorem isSg_rng : ∀ c, c < 127 → isSg c = true → 40 ≤ c ∧ c ≤ 61 := by decide +kernel
/-- what a token tells: a sign, a word, a number -/
theorem tok_sign {tk so : Int32} {va vr : Int64} {c : Nat} (h : tokAny tk va so vr) (hc : c < 127) (hs : isSg c = true) : (so = 3 ∧ vr = lN c) ↔ tk = nI c := by
  have hcr := isSg_rng c hc hs
  rcases h with (⟨ls, -, rfl, -, -, rfl⟩ | ⟨x, -, rfl, -, -, rfl⟩ | ⟨d, hd, hd2, rfl, rfl, rfl⟩ | ⟨rfl, rfl⟩) | ⟨rfl, rfl⟩
  · constructor
    · intro q; exact absurd q.1 (by decide)
    · intro q
      rcases kw_cases ls with e | ⟨k, hk, e⟩
      · rw [e] at q
        have := (nI_eq (a := 1) (by decide) (by omega)).mp q
        omega
      · rw [e] at q
        have := (nI_eq (by omega) (by omega)).mp q
        omega
  · constructor
    · intro q; exact absurd q.1 (by decide)
    · intro q
      have := (nI_eq (a := 2) (by decide) (by omega)).mp q
      omega
  · constructor
    · intro q
      have := (lN_eq (by omega) (by omega)).mp q.2
      rw [this]
    · intro q
      have := (nI_eq (by omega) (by omega)).mp q
      exact ⟨rfl, by rw [this]⟩
  · constructor
    · intro q; exact absurd q.1 (by decide)
    · intro q
      have := (nI_eq (a := 3) (by decide) (by omega)).mp q
      omega
  · constructor
    · intro q; exact absurd q.1 (by decide)
    · intro q
      have := (nI_eq (a := 0) (by decide) (by omega)).mp q
      omega
theorem tok_word {tk so : Int32} {va vr : Int64} {k : Nat} (h : tokAny tk va so vr) (hk : k < 27) : (so = 1 ∧ vr = lN (zWords.getD k 0)) ↔ tk = nI (128 + k) := by
  rw [zKW_37 k hk]
  rcases h with (⟨ls, hl, rfl, rfl, -, rfl⟩ | ⟨x, -, rfl, -, -, rfl⟩ | ⟨d, hd, hd2, rfl, rfl, rfl⟩ | ⟨rfl, rfl⟩) | ⟨rfl, rfl⟩
  · rw [kw_iff hk, word_eq (Or.inr rfl) hl (zKW_ok hk)]
    exact ⟨fun q => q.2.symm, fun q => ⟨rfl, q.symm⟩⟩
  · constructor
    · intro q; exact absurd q.1 (by decide)
    · intro q
      have := (nI_eq (a := 2) (by decide) (by omega)).mp q
      omega
  · constructor
    · intro q; exact absurd q.1 (by decide)
    · intro q
      have := (nI_eq (by omega) (by omega)).mp q
      omega
  · constructor
    · intro q; exact absurd q.1 (by decide)
    · intro q
      have := (nI_eq (a := 3) (by decide) (by omega)).mp q
      omega
  · constructor
    · intro q; exact absurd q.1 (by decide)
    · intro q
      have := (nI_eq (a := 0) (by decide) (by omega)).mp q
      omega
theorem tok_num {tk so : Int32} {va vr : Int64} (h : tokAny tk va so vr) : (so = 2 ↔ tk = 2) ∧ (tk = 2 → ∃ x, x ≤ 9999 ∧ va = lN x ∧ vr = lN x) := by
  rcases h with (⟨ls, hl, rfl, rfl, -, rfl⟩ | ⟨x, hx, rfl, h1, h2, rfl⟩ | ⟨d, hd, hd2, rfl, rfl, rfl⟩ | ⟨rfl, rfl⟩) | ⟨rfl, rfl⟩
  · have hn : ¬ kwOf ls = 2 := fun q => by
      rcases kw_cases ls with e | ⟨k, hk, e⟩
      · rw [e] at q; exact absurd q (by decide)
      · rw [e] at q
        have := (nI_eq (b := 2) (by omega) (by decide)).mp q
        omega
    exact ⟨⟨fun q => absurd q (by decide), fun q => absurd q hn⟩, fun q => absurd q hn⟩
  · exact ⟨⟨fun _ => rfl, fun _ => rfl⟩, fun _ => ⟨x, hx, h2, h1⟩⟩
  · have hr := isSg_rng d hd hd2
    have hn : ¬ nI d = 2 := fun q => by
      have := (nI_eq (b := 2) (by omega) (by decide)).mp q
      omega
    exact ⟨⟨fun q => absurd q (by decide), fun q => absurd q hn⟩, fun q => absurd q hn⟩
  · exact ⟨⟨fun q => absurd q (by decide), fun q => absurd q (by decide)⟩, fun q => absurd q (by decide)⟩
  · exact ⟨⟨fun q => absurd q (by decide), fun q => absurd q (by decide)⟩, fun q => absurd q (by decide)⟩
def isNm (t : Int32) : Bool := decide (t = 1) || ! decide (t < 150)
theorem tok_name {tk so : Int32} {va vr : Int64} (h : tokAny tk va so vr) : isNm tk = true ↔ (so = 1 ∧ ∀ k, k < 22 → ¬ tk = nI (128 + k)) := by
  rcases h with (⟨ls, hl, rfl, rfl, -, rfl⟩ | ⟨x, hx, rfl, h1, h2, rfl⟩ | ⟨d, hd, hd2, rfl, rfl, rfl⟩ | ⟨rfl, rfl⟩) | ⟨rfl, rfl⟩
  · rcases kw_cases ls with e | ⟨k, hk, e⟩
    · rw [e]
      refine ⟨fun _ => ⟨rfl, fun k hk q => ?_⟩, fun _ => by decide⟩
      have := (nI_eq (a := 1) (by decide) (by omega)).mp q
      omega
    · rw [e]
      unfold isNm
      rw [decide_eq_false (show ¬ nI (128 + k) = 1 from fun q => by have := (nI_eq (b := 1) (by omega) (by decide)).mp q; omega), Bool.false_or]
      by_cases c : k < 22
      · rw [decide_eq_true (show nI (128 + k) < 150 from nI_lt (b := 150) (by omega) (by decide))]
        exact ⟨fun q => absurd q (by decide), fun q => absurd rfl (q.2 k c)⟩
      · rw [decide_eq_false (show ¬ nI (128 + k) < 150 from nI_nlt (b := 150) (by omega) (by omega))]
        refine ⟨fun _ => ⟨rfl, fun k' hk' q => ?_⟩, fun _ => rfl⟩
        have := (nI_eq (by omega) (by omega)).mp q
        omega
  · exact ⟨fun q => absurd q (by decide), fun q => absurd q.1 (by decide)⟩
  · have hr := isSg_rng d hd hd2
    have hn : isNm (nI d) = false := by
      unfold isNm
      rw [decide_eq_false (show ¬ nI d = 1 from fun q => by have := (nI_eq (b := 1) (by omega) (by decide)).mp q; omega), decide_eq_true (show nI d < 150 from nI_lt (b := 150) (by omega) (by decide))]
      rfl
    rw [hn]
    exact ⟨fun q => absurd q (by decide), fun q => absurd q.1 (by decide)⟩
  · exact ⟨fun q => absurd q (by decide), fun q => absurd q.1 (by decide)⟩
  · exact ⟨fun q => absurd q (by decide), fun q => absurd q.1 (by decide)⟩
theorem tok_nmval {tk so : Int32} {va vr : Int64} (h : tokAny tk va so vr) (hn : isNm tk = true) : ∃ ls, wordOk ls ∧ va = lN (nB 27 ls 0) ∧ vr = lN (nB 37 ls 0) := by
  have hs := ((tok_name h).mp hn).1
  rcases h with (⟨ls, hl, -, h1, h2, -⟩ | ⟨x, hx, h0, -⟩ | ⟨d, hd, hd2, h0, -⟩ | ⟨h0, -⟩) | ⟨-, h0⟩
  · exact ⟨ls, hl, h2, h1⟩
  · rw [h0] at hs; exact absurd hs (by decide)
  · rw [h0] at hs; exact absurd hs (by decide)
  · rw [h0] at hs; exact absurd hs (by decide)
  · rw [h0] at hs; exact absurd hs (by decide)
/-! the class's steps -/
section TAPE
variable {N n m j : Nat} {v : VTape} {w : VR}
theorem t_ix (h : LexAt n m v w) (hj : j ≤ m) : ¬ (nI j < 0 ∨ 1001 ≤ j) ∧ ¬ (nI j < 0 ∨ 1002 ≤ j) := by
  have := h.m1000
  exact ⟨fun x => x.elim (nI_pos (by omega)) (fun y => by omega), fun x => x.elim (nI_pos (by omega)) (fun y => by omega)⟩
theorem token_A (h : LexAt n m v w) (hj : j ≤ m) (ha : Tape_at v = nI j) (hf : Tape_fault v = 0) : f_Tape_token N v = some (Tape_tokens v j) := by
  have hm := h.m1000
  unfold f_Tape_token
  rw [ha, h.1, nI_clamp (n := j) (by omega)]
  refine zifp hf ?_
  refine zifp (nI_lt (by omega) (by omega)) ?_
  exact zifn (t_ix h hj).1 rfl
theorem token_B (hf : dead (Tape_fault v)) : f_Tape_token N v = some 4 := by
  unfold f_Tape_token
  exact zifn hf.ne rfl
theorem value_A (h : LexAt n m v w) (hj : j ≤ m) (ha : Tape_at v = nI j) : f_Tape_value N v = some (Tape_values v j) := by
  have hm := h.m1000
  unfold f_Tape_value
  rw [ha, h.1, nI_clamp (n := j) (by omega)]
  refine zifn (nI_ge (by omega) (by omega)) ?_
  exact zifn (t_ix h hj).1 rfl
theorem adv_A (h : LexAt n m v w) (hj : j < m) (ha : Tape_at v = nI j) (hf : Tape_fault v = 0) : f_Tape_advance N v = some (nI (j + 1)) := by
  have hm := h.m1000
  unfold f_Tape_advance
  rw [ha, h.1, hf, show nI j + 1 = nI (j + 1) from nI_1 j, if_pos rfl, if_neg (nI_ge (by omega) (by omega))]
  rfl
theorem adv_B (hf : dead (Tape_fault v)) : f_Tape_advance N v = some (Tape_at v) := by
  unfold f_Tape_advance
  rw [if_neg hf.ne]
  rfl
theorem wrong_A (h : LexAt n m v w) (hj : j ≤ m) (ha : Tape_at v = nI j) (hf : Tape_fault v = 0) (ra : R_at w = nI j) (rf : R_fault w = 0) {k : Nat} (hk : 1 ≤ k) (hk5 : k ≤ 5) : ∃ F, dead F ∧ f_Tape_wrong N v (nI k) = some F ∧ f_R_wrong N w (nI k) = some F := by
  have hm := h.m1000
  obtain ⟨-, p, hp, p1, p2⟩ := h.tok hj
  refine ⟨nI (k + 16 * p), ⟨k + 16 * p, by omega, by omega, rfl⟩, ?_, ?_⟩
  · unfold f_Tape_wrong
    rw [ha, h.1, nI_clamp (n := j) (by omega), p1]
    refine zifp hf ?_
    refine zifn (nI_ge (by omega) (by omega)) ?_
    refine zifn (t_ix h hj).1 ?_
    rw [show (16 : Int32) = nI 16 from rfl, pk_mul, nI_add]
  · unfold f_R_wrong
    rw [ra, nI_clamp (n := j) (by omega), p2]
    refine zifp rf ?_
    refine zifn (t_ix h hj).2 ?_
    rw [show (16 : Int32) = nI 16 from rfl, pk_mul, nI_add]
theorem wrong_B {k : Int32} (hf : dead (Tape_fault v)) : f_Tape_wrong N v k = some (Tape_fault v) := by
  unfold f_Tape_wrong
  exact zifn hf.ne rfl
theorem rwrong_B {k : Int32} (hf : dead (R_fault w)) : f_R_wrong N w k = some (R_fault w) := by
  unfold f_R_wrong
  exact zifn hf.ne rfl
theorem isName_A (h : LexAt n m v w) (hj : j ≤ m) (ha : Tape_at v = nI j) (hf : Tape_fault v = 0) : f_Tape_isName N v = some (bI (isNm (Tape_tokens v j))) := by
  have ht := token_A (N := N) h hj ha hf
  unfold f_Tape_isName isNm
  refine bnd ht ?_
  by_cases c : Tape_tokens v j = 1
  · rw [c]
    rfl
  · refine zifn c ?_
    refine bnd ht ?_
    rw [decide_eq_false c]
    by_cases c2 : Tape_tokens v j < 150
    · rw [if_pos c2, decide_eq_true c2]; rfl
    · rw [if_neg c2, decide_eq_false c2]; rfl
theorem isName_B (hf : dead (Tape_fault v)) : f_Tape_isName N v = some 0 := by
  unfold f_Tape_isName
  refine bnd (token_B hf) ?_
  refine zifn (by decide) ?_
  refine bnd (token_B hf) ?_
  exact zifp (by decide) rfl
/-! the reference's steps -/
theorem rsign_A (h : LexAt n m v w) (hj : j ≤ m) (ra : R_at w = nI j) (rf : R_fault w = 0) {c : Nat} (hc : c < 127) (hs : isSg c = true) : f_R_isSign N w (nI c) = some (bI (decide (Tape_tokens v j = nI c))) := by
  have hm := h.m1000
  have ht := tok_sign (h.tok hj).1 hc hs
  unfold f_R_isSign
  rw [ra, nI_clamp (n := j) (by omega), nI_l (by omega)]
  refine zifp rf ?_
  refine zifn (t_ix h hj).2 ?_
  by_cases c1 : R_sort w j = 3
  · refine zifp c1 ?_
    refine zifn (t_ix h hj).2 ?_
    by_cases c2 : R_value w j = lN c
    · refine zifp ((lg_cmp_eq _ _).mpr c2) ?_
      rw [decide_eq_true (ht.mp ⟨c1, c2⟩)]; rfl
    · refine zifn (fun q => c2 ((lg_cmp_eq _ _).mp q)) ?_
      rw [decide_eq_false (fun q => c2 (ht.mpr q).2)]; rfl
  · refine zifn c1 ?_
    rw [decide_eq_false (fun q => c1 (ht.mpr q).1)]; rfl
theorem rsign_B {c : Int32} (hf : dead (R_fault w)) : f_R_isSign N w c = some 0 := by
  unfold f_R_isSign
  exact zifn hf.ne rfl
theorem rword_A (h : LexAt n m v w) (hj : j ≤ m) (ra : R_at w = nI j) (rf : R_fault w = 0) {k : Nat} (hk : k < 27) : f_R_isWord N w (nI k) = some (bI (decide (Tape_tokens v j = nI (128 + k)))) := by
  have hm := h.m1000
  have ht := tok_word (h.tok hj).1 hk
  unfold f_R_isWord
  rw [ra, nI_clamp (n := j) (by omega), nI_clamp (n := k) (by omega), h.2.2 k hk]
  refine zifp rf ?_
  refine zifn (t_ix h hj).2 ?_
  by_cases c1 : R_sort w j = 1
  · refine zifp c1 ?_
    refine zifn (t_ix h hj).2 ?_
    refine zifn (fun x => x.elim (nI_pos (by omega)) (fun y => by omega)) ?_
    by_cases c2 : R_value w j = lN (zWords.getD k 0)
    · refine zifp ((lg_cmp_eq _ _).mpr c2) ?_
      rw [decide_eq_true (ht.mp ⟨c1, c2⟩)]; rfl
    · refine zifn (fun q => c2 ((lg_cmp_eq _ _).mp q)) ?_
      rw [decide_eq_false (fun q => c2 (ht.mpr q).2)]; rfl
  · refine zifn c1 ?_
    rw [decide_eq_false (fun q => c1 (ht.mpr q).1)]; rfl
theorem rword_B {c : Int32} (hf : dead (R_fault w)) : f_R_isWord N w c = some 0 := by
  unfold f_R_isWord
  exact zifn hf.ne rfl
def whN (t : Int32) (f : Nat) : Nat → Int32
  | 0 => -1
  | k + 1 => if t = nI (128 + (f + k)) then nI k else whN t f k
theorem whN_rng (t : Int32) (f : Nat) : ∀ k, (whN t f k = (-1) ∧ ∀ i, i < k → ¬ t = nI (128 + (f + i))) ∨ ∃ i, i < k ∧ whN t f k = nI i ∧ t = nI (128 + (f + i))
  | 0 => Or.inl ⟨rfl, fun i hi => absurd hi (Nat.not_lt_zero _)⟩
  | k + 1 => by
    rw [whN]
    by_cases c : t = nI (128 + (f + k))
    · rw [if_pos c]; exact Or.inr ⟨k, by omega, rfl, c⟩
    · rw [if_neg c]
      rcases whN_rng t f k with ⟨h1, h2⟩ | ⟨i, h1, h2, h3⟩
      · refine Or.inl ⟨h1, fun i hi => ?_⟩
        by_cases e : i = k
        · subst e; exact c
        · exact h2 i (by omega)
      · exact Or.inr ⟨i, by omega, h2, h3⟩
theorem rwh_loop (h : LexAt n m v w) (hj : j ≤ m) (ra : R_at w = nI j) (rf : R_fault w = 0) {f mn : Nat} (hf : f + mn ≤ 27) : ∀ (r k fuel : Nat), k + r = mn → r < fuel → f_R_wordHere_L5 N fuel w (nI f) (nI mn) (whN (Tape_tokens v j) f k) (nI k) = some (whN (Tape_tokens v j) f mn)
  | _, _, 0, _, h => absurd h (Nat.not_lt_zero _)
  | 0, k, fuel + 1, hk, hfu => by
    have hk : k = mn := hk
    subst hk
    rw [f_R_wordHere_L5]
    exact zifp (nI_le (by omega) (by omega)) rfl
  | r + 1, k, fuel + 1, hk, hfu => by
    have ih := rwh_loop h hj ra rf hf r (k + 1) fuel (by omega) (by omega)
    rw [whN] at ih
    rw [f_R_wordHere_L5, nI_add, show nI k + 1 = nI (k + 1) from nI_1 k]
    refine zifn (nI_ge (by omega) (by omega)) ?_
    refine bnd (rword_A h hj ra rf (by omega)) ?_
    by_cases c : Tape_tokens v j = nI (128 + (f + k))
    · rw [if_pos c] at ih
      rw [decide_eq_true c, if_neg (by decide : ¬ bI true = 0)]
      exact ih
    · rw [if_neg c] at ih
      rw [decide_eq_false c, if_pos (show bI false = 0 from rfl)]
      exact ih
theorem rwh_A (hN : 10000 ≤ N) (h : LexAt n m v w) (hj : j ≤ m) (ra : R_at w = nI j) (rf : R_fault w = 0) {f mn : Nat} (hf : f + mn ≤ 27) : f_R_wordHere N w (nI f) (nI mn) = some (whN (Tape_tokens v j) f mn) := by
  have hl := rwh_loop (N := N) h hj ra rf hf mn 0 N (by omega) (by omega)
  have hl : f_R_wordHere_L5 N N w (nI f) (nI mn) (-1) 0 = _ := hl
  unfold f_R_wordHere
  exact bnd hl rfl
theorem rwh_Bl (hf : dead (R_fault w)) {f : Int32} {mn : Nat} (hm : mn ≤ 27) : ∀ (r k fuel : Nat), k + r = mn → r < fuel → f_R_wordHere_L5 N fuel w f (nI mn) (-1) (nI k) = some (-1)
  | _, _, 0, _, h => absurd h (Nat.not_lt_zero _)
  | 0, k, fuel + 1, hk, hfu => by
    rw [f_R_wordHere_L5]
    exact zifp (nI_le (by omega) (by omega)) rfl
  | r + 1, k, fuel + 1, hk, hfu => by
    rw [f_R_wordHere_L5, show nI k + 1 = nI (k + 1) from nI_1 k]
    refine zifn (nI_ge (by omega) (by omega)) ?_
    refine bnd (rword_B hf) ?_
    exact rwh_Bl hf hm r (k + 1) fuel (by omega) (by omega)
theorem rwh_B (hN : 10000 ≤ N) (hf : dead (R_fault w)) {f : Int32} {mn : Nat} (hm : mn ≤ 27) : f_R_wordHere N w f (nI mn) = some (-1) := by
  have hl := rwh_Bl (N := N) (f := f) hf hm mn 0 N (by omega) (by omega)
  have hl : f_R_wordHere_L5 N N w f (nI mn) (-1) 0 = _ := hl
  unfold f_R_wordHere
  exact bnd hl rfl
theorem risName_A (hN : 10000 ≤ N) (h : LexAt n m v w) (hj : j ≤ m) (ra : R_at w = nI j) (rf : R_fault w = 0) : f_R_isName N w = some (bI (isNm (Tape_tokens v j))) := by
  have hm := h.m1000
  have ht := tok_name (h.tok hj).1
  have hw := rwh_A hN h hj ra rf (f := 0) (mn := 22) (by omega)
  have hw : f_R_wordHere N w 0 22 = _ := hw
  unfold f_R_isName
  rw [ra, nI_clamp (n := j) (by omega)]
  refine zifp rf ?_
  refine zifn (t_ix h hj).2 ?_
  by_cases c1 : R_sort w j = 1
  · refine zifp c1 ?_
    refine bnd hw ?_
    rcases whN_rng (Tape_tokens v j) 0 22 with ⟨h1, h2⟩ | ⟨i, h1, h2, h3⟩
    · rw [h1]
      refine zifn (by decide) ?_
      rw [ht.mpr ⟨c1, fun k hk => by have := h2 k hk; rw [Nat.zero_add] at this; exact this⟩]; rfl
    · rw [h2]
      refine zifp (nI_pos' (by omega)) ?_
      rw [Nat.zero_add] at h3
      rw [Bool.eq_false_iff.mpr (fun q => (ht.mp q).2 i h1 h3)]; rfl
  · refine zifn c1 ?_
    rw [Bool.eq_false_iff.mpr (fun q => c1 (ht.mp q).1)]; rfl
theorem risName_B (hf : dead (R_fault w)) : f_R_isName N w = some 0 := by
  unfold f_R_isName
  exact zifn hf.ne rfl
end TAPE
/-! side by side: a sign, a word, a number -/
theorem tk_lt {n m j : Nat} {v : VTape} {w : VR} (h : LexAt n m v w) (hj : j ≤ m) (ht : ¬ Tape_tokens v j = 0) : j < m := by
  by_cases e : j = m
  · subst e; exact absurd h.last ht
  · omega
theorem j_sign {N n m i : Nat} {v : VTape} {w : VR} (h : LexAt n m v w) (hp : PS m i (Tape_at v) (Tape_fault v) (R_at w) (R_fault w)) {c : Nat} (hc : c < 127) (hs : isSg c = true) : Ev (f_Tape_expect N v (nI c)) (fun a => Ev (f_R_takeSign N w (nI c)) (fun b => PS m i a.1 a.2 b.1 b.2 ∧ (a.2 = 0 → PS m (i + 1) a.1 a.2 b.1 b.2))) := by
  obtain ⟨j, hij, hjm, ha, ra, hff, hf⟩ := hp
  have hm := h.m1000
  have hcr := isSg_rng c hc hs
  unfold f_Tape_expect f_R_takeSign
  rcases hf with hf | hf
  · have rf : R_fault w = 0 := hff.symm.trans hf
    refine Ev.bnd (token_A h hjm ha hf) ?_
    by_cases c1 : Tape_tokens v j = nI c
    · have hlt := tk_lt h hjm (fun q => by rw [q] at c1; have := (nI_eq (a := 0) (by decide) (by omega)).mp c1; omega)
      refine Ev.ifp c1 ?_
      refine Ev.bnd (adv_A h hlt ha hf) ?_
      refine Ev.ret ?_
      refine Ev.bnd (rsign_A h hjm ra rf hc hs) ?_
      rw [decide_eq_true c1]
      refine Ev.ifn (by decide) ?_
      rw [ra, show nI j + 1 = nI (j + 1) from nI_1 j]
      exact Ev.ret ⟨⟨j + 1, by omega, by omega, rfl, rfl, hff, Or.inl hf⟩, fun _ => ⟨j + 1, by omega, by omega, rfl, rfl, hff, Or.inl hf⟩⟩
    · obtain ⟨F, hF, w1, w2⟩ := wrong_A (N := N) h hjm ha hf ra rf (k := 1) (by decide) (by decide)
      refine Ev.ifn c1 ?_
      refine Ev.bnd w1 ?_
      refine Ev.ret ?_
      refine Ev.bnd (rsign_A h hjm ra rf hc hs) ?_
      rw [decide_eq_false c1]
      refine Ev.ifp rfl ?_
      refine Ev.bnd w2 ?_
      exact Ev.ret ⟨⟨j, hij, hjm, ha, ra, rfl, Or.inr hF⟩, fun q => absurd q hF.ne⟩
  · have rf : dead (R_fault w) := by rw [← hff]; exact hf
    refine Ev.bnd (token_B hf) ?_
    refine Ev.ifn (fun q => by have := (nI_eq (a := 4) (by decide) (by omega)).mp q; omega) ?_
    refine Ev.bnd (wrong_B hf) ?_
    refine Ev.ret ?_
    refine Ev.bnd (rsign_B rf) ?_
    refine Ev.ifp rfl ?_
    refine Ev.bnd (rwrong_B rf) ?_
    exact Ev.ret ⟨⟨j, hij, hjm, ha, ra, hff, Or.inr hf⟩, fun q => absurd q hf.ne⟩
theorem j_word {N n m i : Nat} {v : VTape} {w : VR} (h : LexAt n m v w) (hp : PS m i (Tape_at v) (Tape_fault v) (R_at w) (R_fault w)) {k : Nat} (hk : k < 27) : Ev (f_Tape_expect N v (nI (128 + k))) (fun a => Ev (f_R_takeWord N w (nI k)) (fun b => PS m i a.1 a.2 b.1 b.2)) := by
  obtain ⟨j, hij, hjm, ha, ra, hff, hf⟩ := hp
  have hm := h.m1000
  unfold f_Tape_expect f_R_takeWord f_R_hasWord
  rcases hf with hf | hf
  · have rf : R_fault w = 0 := hff.symm.trans hf
    refine Ev.bnd (token_A h hjm ha hf) ?_
    by_cases c1 : Tape_tokens v j = nI (128 + k)
    · have hlt := tk_lt h hjm (fun q => by rw [q] at c1; have := (nI_eq (a := 0) (by decide) (by omega)).mp c1; omega)
      refine Ev.ifp c1 ?_
      refine Ev.bnd (adv_A h hlt ha hf) ?_
      refine Ev.ret ?_
      have hw := rword_A (N := N) h hjm ra rf hk
      rw [decide_eq_true c1] at hw
      refine Ev.bnd (a := (1, nI (j + 1))) ?_ ?_
      · refine bnd hw ?_
        refine zifp (Or.inr rfl) ?_
        rw [ra, if_neg (by decide : ¬ bI true = 0), show nI j + 1 = nI (j + 1) from nI_1 j]
        rfl
      · refine Ev.ifn (show ¬ (1 : Int32) = 0 by decide) ?_
        exact Ev.ret ⟨j + 1, by omega, by omega, rfl, rfl, hff, Or.inl hf⟩
    · obtain ⟨F, hF, w1, w2⟩ := wrong_A (N := N) h hjm ha hf ra rf (k := 1) (by decide) (by decide)
      obtain ⟨F', hF', w1', w2'⟩ := wrong_A (N := N) (w := R_at_s w (nI j)) h hjm ha hf rfl rf (k := 1) (by decide) (by decide)
      have e : F = F' := Option.some.inj (w1.symm.trans w1')
      refine Ev.ifn c1 ?_
      refine Ev.bnd w1 ?_
      refine Ev.ret ?_
      have hw := rword_A (N := N) h hjm ra rf hk
      rw [decide_eq_false c1] at hw
      refine Ev.bnd (a := (0, nI j)) ?_ ?_
      · refine bnd hw ?_
        refine zifp (Or.inl rfl) ?_
        rw [ra, if_pos (show bI false = 0 from rfl), show nI j + 0 = nI j from nI_add j 0]
        rfl
      · refine Ev.ifp rfl ?_
        refine Ev.bnd w2' ?_
        exact Ev.ret ⟨j, hij, hjm, ha, rfl, e, Or.inr hF⟩
  · have rf : dead (R_fault w) := by rw [← hff]; exact hf
    refine Ev.bnd (token_B hf) ?_
    refine Ev.ifn (fun q => by have := (nI_eq (a := 4) (by decide) (by omega)).mp q; omega) ?_
    refine Ev.bnd (wrong_B hf) ?_
    refine Ev.ret ?_
    refine Ev.bnd (a := (0, nI j)) ?_ ?_
    · refine bnd (rword_B rf) ?_
      refine zifp (Or.inl rfl) ?_
      rw [ra, if_pos rfl, show nI j + 0 = nI j from nI_add j 0]
    · refine Ev.ifp rfl ?_
      refine Ev.bnd (rwrong_B (w := R_at_s w (nI j)) rf) ?_
      exact Ev.ret ⟨j, hij, hjm, ha, rfl, hff, Or.inr hf⟩
theorem j_number {N n m i : Nat} {v : VTape} {w : VR} (h : LexAt n m v w) (hp : PS m i (Tape_at v) (Tape_fault v) (R_at w) (R_fault w)) {mo : Nat} (hmo : mo ≤ 9999) : Ev (f_Tape_readNumber N v (nI mo)) (fun a => Ev (f_R_takeNumber N w 0 (nI mo)) (fun b => PS m i a.2.1 a.2.2 b.2.1 b.2.2 ∧ (a.2.2 = 0 → PS m (i + 1) a.2.1 a.2.2 b.2.1 b.2.2 ∧ a.1 = b.1 ∧ ∃ x, x ≤ mo ∧ a.1 = nI x))) := by
  obtain ⟨j, hij, hjm, ha, ra, hff, hf⟩ := hp
  have hm := h.m1000
  unfold f_Tape_readNumber f_R_takeNumber
  rcases hf with hf | hf
  · have rf : R_fault w = 0 := hff.symm.trans hf
    have ht := tok_num (h.tok hjm).1
    refine Ev.bnd (token_A h hjm ha hf) ?_
    rw [ra, nI_clamp (n := j) (by omega)]
    by_cases c1 : Tape_tokens v j = 2
    · obtain ⟨x, hx, x1, x2⟩ := ht.2 c1
      have hlt := tk_lt h hjm (fun q => by rw [q] at c1; exact absurd c1 (by decide))
      refine Ev.ifp c1 ?_
      refine Ev.bnd (value_A h hjm ha) ?_
      rw [x1, x2, lN_i]
      have n1 : ¬ lg_cmp (lN x) (Int32.toInt64 0) < 0 := fun q => by
        have := (lg_cmp_lt _ _).mp q
        rw [show Int32.toInt64 0 = lN 0 from rfl, lN_lt (by omega) (by decide)] at this
        omega
      by_cases c2 : x ≤ mo
      · refine Ev.ifp (nI_le c2 (by omega)) ?_
        refine Ev.bnd (adv_A h hlt ha hf) ?_
        refine Ev.ret ?_
        refine Ev.ifp rf ?_
        refine Ev.ifn (t_ix h hjm).2 ?_
        refine Ev.ifp (ht.1.mpr c1) ?_
        refine Ev.ifp rf ?_
        refine Ev.ifn (t_ix h hjm).2 ?_
        refine Ev.ifn n1 ?_
        refine Ev.ifn (t_ix h hjm).2 ?_
        refine Ev.ifp ((lg_cmp_le _ _).mpr (by rw [nI_l (by omega), lN_le (by omega) (by omega)]; exact c2)) ?_
        refine Ev.ifp (by rw [rf]; decide) ?_
        rw [show nI j + 1 - 1 = nI j by grind, nI_clamp (n := j) (by omega), x2, lN_i, show nI j + 1 = nI (j + 1) from nI_1 j]
        refine Ev.ifn (t_ix h hjm).2 ?_
        refine Ev.ret ⟨⟨j + 1, by omega, by omega, rfl, rfl, hff, Or.inl hf⟩, fun _ => ⟨⟨j + 1, by omega, by omega, rfl, rfl, hff, Or.inl hf⟩, rfl, x, c2, rfl⟩⟩
      · obtain ⟨F, hF, w1, w2⟩ := wrong_A (N := N) h hjm ha hf ra rf (k := 4) (by decide) (by decide)
        refine Ev.ifn (nI_ge (by omega) (by omega)) ?_
        refine Ev.bnd w1 ?_
        refine Ev.ret ?_
        refine Ev.ifp rf ?_
        refine Ev.ifn (t_ix h hjm).2 ?_
        refine Ev.ifp (ht.1.mpr c1) ?_
        refine Ev.ifp rf ?_
        refine Ev.ifn (t_ix h hjm).2 ?_
        refine Ev.ifn n1 ?_
        refine Ev.ifn (t_ix h hjm).2 ?_
        refine Ev.ifn (fun q => by have := (lg_cmp_le _ _).mp q; rw [nI_l (by omega), lN_le (by omega) (by omega)] at this; exact c2 this) ?_
        refine Ev.bnd w2 ?_
        refine Ev.ifn hF.nle ?_
        exact Ev.ret ⟨⟨j, hij, hjm, ha, rfl, rfl, Or.inr hF⟩, fun q => absurd q hF.ne⟩
    · obtain ⟨F, hF, w1, w2⟩ := wrong_A (N := N) h hjm ha hf ra rf (k := 1) (by decide) (by decide)
      refine Ev.ifn c1 ?_
      refine Ev.bnd w1 ?_
      refine Ev.ret ?_
      refine Ev.ifp rf ?_
      refine Ev.ifn (t_ix h hjm).2 ?_
      refine Ev.ifn (fun q => c1 (ht.1.mp q)) ?_
      refine Ev.bnd w2 ?_
      refine Ev.ifn hF.nle ?_
      exact Ev.ret ⟨⟨j, hij, hjm, ha, rfl, rfl, Or.inr hF⟩, fun q => absurd q hF.ne⟩
  · have rf : dead (R_fault w) := by rw [← hff]; exact hf
    refine Ev.bnd (token_B hf) ?_
    refine Ev.ifn (by decide) ?_
    refine Ev.bnd (wrong_B hf) ?_
    refine Ev.ret ?_
    refine Ev.ifn rf.ne ?_
    refine Ev.ifn rf.ne ?_
    refine Ev.ifn rf.nle ?_
    exact Ev.ret ⟨⟨j, hij, hjm, ha, ra, hff, Or.inr hf⟩, fun q => absurd q hf.ne⟩
