/-! ===== the parser of Es, side by side ===== -/
def ERx (nf D m j s c : Nat) (cd op ar : Nat → Int32) (j' s' c' : Nat) (f : Int32) (cd' op' ar' : Nat → Int32) : Prop := j ≤ j' ∧ j' ≤ m ∧ s ≤ s' ∧ c ≤ c' ∧ s' + j ≤ s + j' ∧ c' + j ≤ c + j' ∧ (f = 0 ∨ dead f) ∧ (∀ k, k < s → cd' k = cd k) ∧ (∀ k, k < 1100 + c → op' k = op k ∧ ar' k = ar k) ∧ (f = 0 → j < j' ∧ s' + c = s + c' ∧ (∀ k, k < s' - s → op' (1100 + c + k) = opc (cd' (s + k)) ∧ ((-5) ≤ cd' (s + k) → ar' (1100 + c + k) = arc (cd' (s + k)))) ∧ ∀ d, d + D ≤ 64 → wfC nf (seg cd' s (s' - s)) d (d + 1))
def maskOf (nf : Nat) : Int32 := if nf = 3 then 7 else 31
def ESt (nf n m j s c : Nat) (f : Int32) (cd op ar : Nat → Int32) (v1 : VTape) (v3 : VLaws) (w : VR) : Prop := LexAt n m v1 w ∧ j ≤ m ∧ s + 1 ≤ j ∧ c ≤ j + 4 ∧ Tape_at v1 = nI j ∧ R_at w = nI j ∧ Tape_fault v1 = f ∧ R_fault w = f ∧ (f = 0 ∨ dead f) ∧ Laws_size v3 = nI s ∧ R_codes w = nI c ∧ Laws_codes v3 = cd ∧ R_op w = op ∧ R_arg w = ar ∧ R_factsHere w = maskOf nf
def JE (nf D : Nat) (X : VTape → VLaws → Option (Int32 × Int32 × (Nat → Int32) × Int32)) (Y : VR → Option (Int32 × Int32 × (Nat → Int32) × (Nat → Int32) × Int32)) : Prop := ∀ n m j s c f cd op ar v1 v3 w, ESt nf n m j s c f cd op ar v1 v3 w → ∃ j' s' c' f' cd' op' ar', X v1 v3 = some (nI j', f', cd', nI s') ∧ Y w = some (nI j', f', op', ar', nI c') ∧ ERx nf D m j s c cd op ar j' s' c' f' cd' op' ar'
theorem ERx.mono {nf D D' m j s c : Nat} {cd op ar : Nat → Int32} {j' s' c' : Nat} {f : Int32} {cd' op' ar' : Nat → Int32} (h : ERx nf D m j s c cd op ar j' s' c' f cd' op' ar') (hD : D ≤ D') : ERx nf D' m j s c cd op ar j' s' c' f cd' op' ar' := by
  obtain ⟨h1, h2, h3, h4, h5, h6, h7, h8, h9, h10⟩ := h
  refine ⟨h1, h2, h3, h4, h5, h6, h7, h8, h9, fun q => ?_⟩
  obtain ⟨g1, g2, g3, g4⟩ := h10 q
  exact ⟨g1, g2, g3, fun d hd => g4 d (by omega)⟩
theorem ERx.halt {nf D m j s c : Nat} {cd op ar : Nat → Int32} {f : Int32} (hj : j ≤ m) (hf : dead f) : ERx nf D m j s c cd op ar j s c f cd op ar := ⟨Nat.le_refl _, hj, Nat.le_refl _, Nat.le_refl _, Nat.le_refl _, Nat.le_refl _, Or.inr hf, fun _ _ => rfl, fun _ _ => ⟨rfl, rfl⟩, fun q => absurd q hf.ne⟩
/-- one code more -/
theorem ERx.push {nf D m j s c : Nat} {cd op ar : Nat → Int32} {x : Int32} (hj : j < m) (hD : 1 ≤ D) (hx : 0 ≤ x ∨ ∃ y, y < nf ∧ x = (-1) - nI y) : ERx nf D m j s c cd op ar (j + 1) (s + 1) (c + 1) 0 (upd cd s x) (upd op (1100 + c) (opc x)) (upd ar (1100 + c) (arc x)) := by
  refine ⟨by omega, hj, by omega, by omega, by omega, by omega, Or.inl rfl, fun k hk => pk_un (by omega), fun k hk => ⟨pk_un (by omega), pk_un (by omega)⟩, fun _ => ⟨by omega, by omega, fun k hk => ?_, fun d hd => ?_⟩⟩
  · have e : k = 0 := by omega
    subst e
    rw [show s + 0 = s from rfl, show 1100 + c + 0 = 1100 + c from rfl, pk_us, pk_us, pk_us]
    exact ⟨rfl, fun _ => rfl⟩
  · rw [show s + 1 - s = 1 by omega]
    refine Or.inl ⟨?_, by omega, rfl⟩
    rw [pk_us]
    exact hx
theorem seg_len {f : Nat → Int32} : ∀ {n i : Nat}, (seg f i n).length = n
  | 0, _ => rfl
  | n + 1, i => congrArg (· + 1) (seg_len (n := n) (i := i + 1))
/-- an operator behind two operands -/
theorem ERx.join {nf D m j s c : Nat} {cd op ar : Nat → Int32} {j1 s1 c1 : Nat} {cd1 op1 ar1 : Nat → Int32} {j2 s2 c2 : Nat} {f : Int32} {cd2 op2 ar2 : Nat → Int32} {k x : Int32} (h1 : ERx nf (D + 1) m j s c cd op ar j1 s1 c1 0 cd1 op1 ar1) (h2 : ERx nf D m (j1 + 1) s1 c1 cd1 op1 ar1 j2 s2 c2 f cd2 op2 ar2) (hk : isJ k) : ERx nf (D + 1) m j s c cd op ar j2 (s2 + 1) (c2 + 1) f (upd cd2 s2 k) (upd op2 (1100 + c2) (opc k)) (upd ar2 (1100 + c2) x) := by
  obtain ⟨a1, a2, a3, a4, a5, a6, -, a8, a9, a10⟩ := h1
  obtain ⟨b1, b2, b3, b4, b5, b6, b7, b8, b9, b10⟩ := h2
  obtain ⟨g1, g2, g3, g4⟩ := a10 rfl
  refine ⟨by omega, b2, by omega, by omega, by omega, by omega, b7, fun k hk => ?_, fun k hk => ?_, fun q => ?_⟩
  · rw [pk_un (by omega), b8 k (by omega), a8 k hk]
  · rw [pk_un (by omega), pk_un (by omega), (b9 k (by omega)).1, (b9 k (by omega)).2]
    exact a9 k hk
  · obtain ⟨p1, p2, p3, p4⟩ := b10 q
    refine ⟨by omega, by omega, fun i hi => ?_, fun d hd => ?_⟩
    · by_cases e : i = s2 - s
      · subst e
        rw [show s + (s2 - s) = s2 by omega, show 1100 + c + (s2 - s) = 1100 + c2 by omega, pk_us, pk_us]
        exact ⟨rfl, fun q => absurd q (code_join hk).2.1⟩
      · rw [pk_un (by omega), pk_un (by omega), pk_un (by omega)]
        by_cases e2 : i < s1 - s
        · rw [b8 (s + i) (by omega), (b9 (1100 + c + i) (by omega)).1, (b9 (1100 + c + i) (by omega)).2]
          exact g3 i e2
        · have := p3 (i - (s1 - s)) (by omega)
          rw [show s1 + (i - (s1 - s)) = s + i by omega, show 1100 + c1 + (i - (s1 - s)) = 1100 + c + i by omega] at this
          exact this
    · have e1 : seg (upd cd2 s2 k) s (s2 + 1 - s) = seg cd1 s (s1 - s) ++ (seg cd2 s1 (s2 - s1) ++ [k]) := by
        rw [show s2 + 1 - s = (s1 - s) + ((s2 - s1) + 1) by omega, seg_app, seg_app, show s + (s1 - s) = s1 by omega, show s1 + (s2 - s1) = s2 by omega]
        refine congr (congrArg _ ?_) (congr (congrArg _ ?_) ?_)
        · refine seg_cong (fun i hi => ?_)
          rw [pk_un (by omega), b8 _ (by omega)]
        · refine seg_cong (fun i hi => ?_)
          rw [pk_un (by omega)]
        · show [upd cd2 s2 k s2] = [k]
          rw [pk_us]
      rw [e1]
      refine wfC_app (g4 d (by omega)) (wfC_app (p4 (d + 1) (by omega)) ?_)
      exact Or.inr (Or.inr ⟨hk, by omega, rfl⟩)
/-- NOT behind its part -/
theorem ERx.notp {nf D m j s c : Nat} {cd op ar : Nat → Int32} {j2 s2 c2 : Nat} {f : Int32} {cd2 op2 ar2 : Nat → Int32} {x : Int32} (h2 : ERx nf D m (j + 1) s c cd op ar j2 s2 c2 f cd2 op2 ar2) : ERx nf D m j s c cd op ar j2 (s2 + 1) (c2 + 1) f (upd cd2 s2 (-147)) (upd op2 (1100 + c2) 3) (upd ar2 (1100 + c2) x) := by
  obtain ⟨b1, b2, b3, b4, b5, b6, b7, b8, b9, b10⟩ := h2
  refine ⟨by omega, b2, by omega, by omega, by omega, by omega, b7, fun k hk => ?_, fun k hk => ?_, fun q => ?_⟩
  · rw [pk_un (by omega), b8 k (by omega)]
  · rw [pk_un (by omega), pk_un (by omega)]
    exact b9 k hk
  · obtain ⟨p1, p2, p3, p4⟩ := b10 q
    refine ⟨by omega, by omega, fun i hi => ?_, fun d hd => ?_⟩
    · by_cases e : i = s2 - s
      · subst e
        rw [show s + (s2 - s) = s2 by omega, show 1100 + c + (s2 - s) = 1100 + c2 by omega, pk_us, pk_us]
        exact ⟨by decide, fun q => absurd q (by decide)⟩
      · rw [pk_un (by omega), pk_un (by omega), pk_un (by omega)]
        exact p3 i (by omega)
    · have e1 : seg (upd cd2 s2 (-147)) s (s2 + 1 - s) = seg cd2 s (s2 - s) ++ [-147] := by
        rw [show s2 + 1 - s = (s2 - s) + 1 by omega, seg_app, show s + (s2 - s) = s2 by omega]
        refine congr (congrArg _ ?_) ?_
        · refine seg_cong (fun i hi => ?_)
          rw [pk_un (by omega)]
        · show [upd cd2 s2 (-147) s2] = [-147]
          rw [pk_us]
      rw [e1]
      refine wfC_app (p4 d (by omega)) ?_
      exact Or.inr (Or.inl ⟨rfl, by omega, rfl⟩)
/-- an E in brackets -/
theorem ERx.paren {nf D m j s c : Nat} {cd op ar : Nat → Int32} {j2 s2 c2 j3 : Nat} {f f3 : Int32} {cd2 op2 ar2 : Nat → Int32} (h2 : ERx nf D m (j + 1) s c cd op ar j2 s2 c2 f cd2 op2 ar2) (hj : j2 ≤ j3) (hm : j3 ≤ m) (hf : f3 = 0 → f = 0) (hd : f3 = 0 ∨ dead f3) : ERx nf D m j s c cd op ar j3 s2 c2 f3 cd2 op2 ar2 := by
  obtain ⟨b1, b2, b3, b4, b5, b6, b7, b8, b9, b10⟩ := h2
  refine ⟨by omega, hm, by omega, by omega, by omega, by omega, hd, b8, b9, fun q => ?_⟩
  obtain ⟨p1, p2, p3, p4⟩ := b10 (hf q)
  exact ⟨by omega, p2, p3, p4⟩
/-! small steps -/
theorem addCode_ok {N s : Nat} {v : VLaws} {x : Int32} (h : Laws_size v = nI s) (hs : s < 1000) : f_Laws_addCode N v x = some (upd (Laws_codes v) s x, nI (s + 1)) := by
  unfold f_Laws_addCode
  rw [h, nI_clamp (n := s) (by omega)]
  refine zifn (nI_ge (b := 1000) (by omega) (by omega)) ?_
  refine zifn (fun q => q.elim (nI_pos (by omega)) (fun y => by omega)) ?_
  rw [show nI s + 1 = nI (s + 1) from nI_1 s]
theorem emit_ok {N c : Nat} {w : VR} {a x : Int32} (h : R_codes w = nI c) (hc : c < 1100) : f_R_emit N w a x = some (upd (R_op w) (1100 + c) a, upd (R_arg w) (1100 + c) x, nI (c + 1)) := by
  have e : (1100 : Int32) + nI c = nI (1100 + c) := by rw [show (1100 : Int32) = nI 1100 from rfl, nI_add]
  unfold f_R_emit
  rw [h, e, nI_clamp (n := 1100 + c) (by omega)]
  refine zifn (fun q => q.elim (nI_pos (by omega)) (fun y => by omega)) ?_
  refine zletE ?_
  refine zifn (fun q => q.elim (nI_pos (by omega)) (fun y => by omega)) ?_
  refine zletE ?_
  rw [show nI c + 1 = nI (c + 1) from nI_1 c]
section HAS
variable {N n m j : Nat} {v : VTape} {w : VR}
theorem hasW_y (h : LexAt n m v w) (hj : j ≤ m) (ra : R_at w = nI j) (rf : R_fault w = 0) {k : Nat} (hk : k < 27) (hc : Tape_tokens v j = nI (128 + k)) : f_R_hasWord N w (nI k) = some (1, nI (j + 1)) := by
  have hw := rword_A (N := N) h hj ra rf hk
  rw [decide_eq_true hc] at hw
  unfold f_R_hasWord
  refine bnd hw ?_
  refine zifp (Or.inr rfl) ?_
  rw [ra, if_neg (by decide : ¬ bI true = 0), show nI j + 1 = nI (j + 1) from nI_1 j]
  rfl
theorem hasW_n (h : LexAt n m v w) (hj : j ≤ m) (ra : R_at w = nI j) (rf : R_fault w = 0) {k : Nat} (hk : k < 27) (hc : ¬ Tape_tokens v j = nI (128 + k)) : f_R_hasWord N w (nI k) = some (0, nI j) := by
  have hw := rword_A (N := N) h hj ra rf hk
  rw [decide_eq_false hc] at hw
  unfold f_R_hasWord
  refine bnd hw ?_
  refine zifp (Or.inl rfl) ?_
  rw [ra, if_pos (show bI false = 0 from rfl), show nI j + 0 = nI j from nI_add j 0]
  rfl
theorem hasS_y (h : LexAt n m v w) (hj : j ≤ m) (ra : R_at w = nI j) (rf : R_fault w = 0) {c : Nat} (hc : c < 127) (hs : isSg c = true) (ht : Tape_tokens v j = nI c) : f_R_hasSign N w (nI c) = some (1, nI (j + 1)) := by
  have hw := rsign_A (N := N) h hj ra rf hc hs
  rw [decide_eq_true ht] at hw
  unfold f_R_hasSign
  refine bnd hw ?_
  refine zifp (Or.inr rfl) ?_
  rw [ra, if_neg (by decide : ¬ bI true = 0), show nI j + 1 = nI (j + 1) from nI_1 j]
  rfl
theorem hasS_n (h : LexAt n m v w) (hj : j ≤ m) (ra : R_at w = nI j) (rf : R_fault w = 0) {c : Nat} (hc : c < 127) (hs : isSg c = true) (ht : ¬ Tape_tokens v j = nI c) : f_R_hasSign N w (nI c) = some (0, nI j) := by
  have hw := rsign_A (N := N) h hj ra rf hc hs
  rw [decide_eq_false ht] at hw
  unfold f_R_hasSign
  refine bnd hw ?_
  refine zifp (Or.inl rfl) ?_
  rw [ra, if_pos (show bI false = 0 from rfl), show nI j + 0 = nI j from nI_add j 0]
  rfl
theorem hasS_d (ra : R_at w = nI j) (rf : dead (R_fault w)) {c : Int32} : f_R_hasSign N w c = some (0, nI j) := by
  unfold f_R_hasSign
  refine bnd (rsign_B rf) ?_
  refine zifp (Or.inl rfl) ?_
  rw [ra, if_pos rfl, show nI j + 0 = nI j from nI_add j 0]
theorem expect_B (hf : dead (Tape_fault v)) {c : Nat} (hc : 4 < c) (hc2 : c < 2 ^ 31) : f_Tape_expect N v (nI c) = some (Tape_at v, Tape_fault v) := by
  unfold f_Tape_expect
  refine bnd (token_B hf) ?_
  refine zifn (fun q => by have := (nI_eq (a := 4) (by decide) (by omega)).mp q; omega) ?_
  refine bnd (wrong_B hf) ?_
  rfl
theorem takeSign_B (hf : dead (R_fault w)) {c : Int32} : f_R_takeSign N w c = some (R_at w, R_fault w) := by
  unfold f_R_takeSign
  refine bnd (rsign_B hf) ?_
  refine zifp rfl ?_
  refine bnd (rwrong_B hf) ?_
  rfl
end HAS
/-! the loop of a level -/
def lvOps : Nat → List Nat
  | 0 => [148, 149]
  | 1 => [60, 61]
  | 2 => [43, 45]
  | 3 => [42]
  | _ => []
theorem lev_yes (N : Nat) : ∀ {l t : Nat}, t ∈ lvOps l → f_Reader_levelOf N (nI t) = some (nI l) ∧ isJ (-(nI t)) ∧ 40 ≤ t ∧ t < 150
  | 0, t, h => by
    rcases List.mem_cons.mp h with rfl | h
    · exact ⟨rfl, by unfold isJ; decide, by decide, by decide⟩
    · obtain rfl := List.mem_singleton.mp h
      exact ⟨rfl, by unfold isJ; decide, by decide, by decide⟩
  | 1, t, h => by
    rcases List.mem_cons.mp h with rfl | h
    · exact ⟨rfl, by unfold isJ; decide, by decide, by decide⟩
    · obtain rfl := List.mem_singleton.mp h
      exact ⟨rfl, by unfold isJ; decide, by decide, by decide⟩
  | 2, t, h => by
    rcases List.mem_cons.mp h with rfl | h
    · exact ⟨rfl, by unfold isJ; decide, by decide, by decide⟩
    · obtain rfl := List.mem_singleton.mp h
      exact ⟨rfl, by unfold isJ; decide, by decide, by decide⟩
  | 3, t, h => by
    obtain rfl := List.mem_singleton.mp h
    exact ⟨rfl, by unfold isJ; decide, by decide, by decide⟩
  | n + 4, t, h => absurd h (by simp [lvOps])
theorem lev_no (N : Nat) {l : Nat} {q : Int32} (hl : l ≤ 3) (h : ∀ t, t ∈ lvOps l → ¬ q = nI t) : ∃ x, f_Reader_levelOf N q = some x ∧ ¬ x = nI l := by
  have h4 : l = 0 ∨ l = 1 ∨ l = 2 ∨ l = 3 := by omega
  unfold f_Reader_levelOf
  by_cases c1 : q = 42
  · rw [if_pos c1]
    refine ⟨_, rfl, fun e => ?_⟩
    rcases h4 with rfl | rfl | rfl | rfl
    · exact absurd e (by decide)
    · exact absurd e (by decide)
    · exact absurd e (by decide)
    · exact h 42 (by decide) c1
  rw [if_neg c1]
  by_cases c2 : q = 43
  · rw [if_pos c2]
    refine ⟨_, rfl, fun e => ?_⟩
    rcases h4 with rfl | rfl | rfl | rfl
    · exact absurd e (by decide)
    · exact absurd e (by decide)
    · exact h 43 (by decide) c2
    · exact absurd e (by decide)
  rw [if_neg c2]
  by_cases c3 : q = 45
  · rw [if_pos c3]
    refine ⟨_, rfl, fun e => ?_⟩
    rcases h4 with rfl | rfl | rfl | rfl
    · exact absurd e (by decide)
    · exact absurd e (by decide)
    · exact h 45 (by decide) c3
    · exact absurd e (by decide)
  rw [if_neg c3]
  by_cases c4 : q = 60
  · rw [if_pos c4]
    refine ⟨_, rfl, fun e => ?_⟩
    rcases h4 with rfl | rfl | rfl | rfl
    · exact absurd e (by decide)
    · exact h 60 (by decide) c4
    · exact absurd e (by decide)
    · exact absurd e (by decide)
  rw [if_neg c4]
  by_cases c5 : q = 61
  · rw [if_pos c5]
    refine ⟨_, rfl, fun e => ?_⟩
    rcases h4 with rfl | rfl | rfl | rfl
    · exact absurd e (by decide)
    · exact h 61 (by decide) c5
    · exact absurd e (by decide)
    · exact absurd e (by decide)
  rw [if_neg c5]
  by_cases c6 : q = 148
  · rw [if_pos c6]
    refine ⟨_, rfl, fun e => ?_⟩
    rcases h4 with rfl | rfl | rfl | rfl
    · exact h 148 (by decide) c6
    · exact absurd e (by decide)
    · exact absurd e (by decide)
    · exact absurd e (by decide)
  rw [if_neg c6]
  by_cases c7 : q = 149
  · rw [if_pos c7]
    refine ⟨_, rfl, fun e => ?_⟩
    rcases h4 with rfl | rfl | rfl | rfl
    · exact h 149 (by decide) c7
    · exact absurd e (by decide)
    · exact absurd e (by decide)
    · exact absurd e (by decide)
  rw [if_neg c7]
  refine ⟨_, rfl, fun e => ?_⟩
  rcases h4 with rfl | rfl | rfl | rfl <;> exact absurd e (by decide)
section LOOP
variable {N n m : Nat} {v0 : VReader} {v1 : VTape} {v2 : VTown} {v3 : VLaws} {w : VR} {rP : VReader → VTape → VTown → VLaws → Int32 → Option (Int32 × Int32 × (Nat → Int32) × Int32)} {rJ : VReader → VTape → VTown → VLaws → Int32 → Int32 → Option (Int32 × Int32 × (Nat → Int32) × Int32)}
theorem cl_stop (h : LexAt n m v1 w) {fuel l j1 x : Nat} {wi L f : Int32} {cd : Nat → Int32} {sz : Int32} (hl : l ≤ 3) (hj : j1 ≤ m) (hf : f = 0 ∨ dead f) (hno : f = 0 → ∀ t, t ∈ lvOps l → ¬ Tape_tokens v1 j1 = nI t) : f_Reader_readJoined_L35 rP rJ N (fuel + 1) v0 v1 v2 v3 (nI l) wi L (nI x) (nI j1) f cd sz = some (nI j1, f, cd, sz) := by
  rw [f_Reader_readJoined_L35]
  by_cases c : L ≤ nI x
  · exact zifp c rfl
  · refine zifn c ?_
    rcases hf with rfl | hf
    · refine bnd (token_A (v := Tape_s_at_fault v1 (nI j1) 0) h hj rfl rfl) ?_
      obtain ⟨y, hy, hy2⟩ := lev_no N hl (hno rfl)
      refine bnd (show f_Reader_levelOf N (Tape_tokens (Tape_s_at_fault v1 (nI j1) 0) j1) = some y from hy) ?_
      exact zifn hy2 rfl
    · refine bnd (token_B (v := Tape_s_at_fault v1 (nI j1) f) hf) ?_
      refine bnd (a := -1) rfl ?_
      refine zifn ?_ rfl
      exact fun q => nI_nem1 (n := l) (by omega) q.symm
theorem cl_go (h : LexAt n m v1 w) {fuel l j1 x t : Nat} {wi L : Int32} {cd : Nat → Int32} {sz : Int32} (hj : j1 ≤ m) (hL : ¬ L ≤ nI x) (ht : t ∈ lvOps l) (hto : Tape_tokens v1 j1 = nI t) : f_Reader_readJoined_L35 rP rJ N (fuel + 1) v0 v1 v2 v3 (nI l) wi L (nI x) (nI j1) 0 cd sz = (rJ v0 (Tape_s_at_fault v1 (nI (j1 + 1)) 0) v2 (Laws_s_codes_size v3 cd sz) (nI (l + 1)) wi).bind (fun q11 => (f_Laws_addCode N (Laws_s_codes_size v3 q11.2.2.1 q11.2.2.2) (-(nI t))).bind (fun q12 => f_Reader_readJoined_L35 rP rJ N fuel v0 v1 v2 v3 (nI l) wi L (nI (x + 1)) q11.1 q11.2.1 q12.1 q12.2)) := by
  obtain ⟨e1, e2, e3, e4⟩ := lev_yes N ht
  have hlt : j1 < m := tk_lt h hj (fun q => by rw [q] at hto; have := (nI_eq (a := 0) (by decide) (by omega)).mp hto; omega)
  have tk : f_Tape_token N (Tape_s_at_fault v1 (nI j1) 0) = some (nI t) := (token_A (v := Tape_s_at_fault v1 (nI j1) 0) h hj rfl rfl).trans (congrArg some hto)
  rw [f_Reader_readJoined_L35]
  refine zifn hL ?_
  refine bnd tk ?_
  refine bnd e1 ?_
  refine zifp rfl ?_
  refine bnd tk ?_
  refine bnd (adv_A (v := Tape_s_at_fault v1 (nI j1) 0) h hlt rfl rfl) ?_
  rw [show nI l + 1 = nI (l + 1) from nI_1 l, show nI x + 1 = nI (x + 1) from nI_1 x]
theorem loop_both {nf D : Nat} {X : VTape → VLaws → Option (Int32 × Int32 × (Nat → Int32) × Int32)} {Y : VR → Option (Int32 × Int32 × (Nat → Int32) × (Nat → Int32) × Int32)} (hJ : JE nf D X Y) {l : Nat} {wi : Int32} (hl : l ≤ 3) (hX : ∀ v1 v3, rJ v0 v1 v2 v3 (nI (l + 1)) wi = X v1 v3) (Lr : Nat → Int32 → Int32 → (Nat → Int32) → (Nat → Int32) → Int32 → Option (Int32 × Int32 × (Nat → Int32) × (Nat → Int32) × Int32)) (hstop : ∀ fuel j1 f op ar c, j1 ≤ m → (f = 0 ∨ dead f) → (f = 0 → ∀ t, t ∈ lvOps l → ¬ Tape_tokens v1 j1 = nI t) → Lr (fuel + 1) (nI j1) f op ar c = some (nI j1, f, op, ar, c)) (hgo : ∀ fuel j1 op ar c t, j1 ≤ m → t ∈ lvOps l → Tape_tokens v1 j1 = nI t → Lr (fuel + 1) (nI j1) 0 op ar c = (Y (R_s_at_fault_op_arg_codes w (nI (j1 + 1)) 0 op ar c)).bind (fun q4 => (f_R_emit N (R_s_at_fault_op_arg_codes w q4.1 q4.2.1 q4.2.2.1 q4.2.2.2.1 q4.2.2.2.2) (opc (-(nI t))) 0).bind (fun q5 => Lr fuel q4.1 q4.2.1 q5.1 q5.2.1 q5.2.2))) (h : LexAt n m v1 w) (hfh : R_factsHere w = maskOf nf) {j s c : Nat} {cd op ar : Nat → Int32} (hs : s + 1 ≤ j) (hc : c ≤ j + 4) : ∀ (k fuel fuel' j1 s1 c1 : Nat) (f : Int32) (cd1 op1 ar1 : Nat → Int32) (x : Nat), ERx nf (D + 1) m j s c cd op ar j1 s1 c1 f cd1 op1 ar1 → m < j1 + k → k ≤ fuel → k ≤ fuel' → x + 1 ≤ j1 → ∃ j' s' c' f' cd' op' ar', f_Reader_readJoined_L35 rP rJ N fuel v0 v1 v2 v3 (nI l) wi 1000 (nI x) (nI j1) f cd1 (nI s1) = some (nI j', f', cd', nI s') ∧ Lr fuel' (nI j1) f op1 ar1 (nI c1) = some (nI j', f', op', ar', nI c') ∧ ERx nf (D + 1) m j s c cd op ar j' s' c' f' cd' op' ar'
  | 0, _, _, j1, _, _, _, _, _, _, _, he, hk, _, _, _ => absurd he.2.1 (by omega)
  | k + 1, 0, _, _, _, _, _, _, _, _, _, _, _, h, _, _ => absurd h (by omega)
  | k + 1, _, 0, _, _, _, _, _, _, _, _, _, _, _, h, _ => absurd h (by omega)
  | k + 1, fuel + 1, fuel' + 1, j1, s1, c1, f, cd1, op1, ar1, x, he, hk, h1, h2, hx => by
    have hm := h.m1000
    have hjm := he.2.1
    have hfd : f = 0 ∨ dead f := he.2.2.2.2.2.2.1
    by_cases c1' : f = 0 ∧ ∃ t, t ∈ lvOps l ∧ Tape_tokens v1 j1 = nI t
    · obtain ⟨rfl, t, ht, hto⟩ := c1'
      obtain ⟨e1, e2, e3, e4⟩ := lev_yes N ht
      have hlt : j1 < m := tk_lt h hjm (fun q => by rw [q] at hto; have := (nI_eq (a := 0) (by decide) (by omega)).mp hto; omega)
      have hb5 := he.2.2.2.2.1
      have hb6 := he.2.2.2.2.2.1
      have hj1 := he.1
      obtain ⟨j2, s2, c2, f2, cd2, op2, ar2, x1, y1, r1⟩ := hJ n m (j1 + 1) s1 c1 0 cd1 op1 ar1 (Tape_s_at_fault v1 (nI (j1 + 1)) 0) (Laws_s_codes_size v3 cd1 (nI s1)) (R_s_at_fault_op_arg_codes w (nI (j1 + 1)) 0 op1 ar1 (nI c1)) ⟨h, by omega, by omega, by omega, rfl, rfl, rfl, rfl, Or.inl rfl, rfl, rfl, rfl, rfl, rfl, hfh⟩
      have r2 := he.join r1 e2 (x := 0)
      have q5 := r1.2.2.2.2.1
      have q6 := r1.2.2.2.2.2.1
      have q1 := r1.1
      have q2 := r1.2.1
      obtain ⟨j3, s3, c3, f3, cd3, op3, ar3, x2, y2, r3⟩ := loop_both hJ hl hX Lr hstop hgo h hfh hs hc k fuel fuel' j2 (s2 + 1) (c2 + 1) f2 _ _ _ (x + 1) r2 (by omega) (by omega) (by omega) (by omega)
      refine ⟨j3, s3, c3, f3, cd3, op3, ar3, ?_, ?_, r3⟩
      · rw [cl_go (L := 1000) h hjm (nI_ge (b := 1000) (by omega) (by omega)) ht hto]
        refine bnd ((hX _ _).trans x1) ?_
        refine bnd (addCode_ok (v := Laws_s_codes_size v3 cd2 (nI s2)) (s := s2) rfl (by omega)) ?_
        exact x2
      · rw [hgo fuel' j1 op1 ar1 (nI c1) t hjm ht hto]
        refine bnd y1 ?_
        refine bnd (emit_ok (w := R_s_at_fault_op_arg_codes w (nI j2) f2 op2 ar2 (nI c2)) (c := c2) rfl (by omega)) ?_
        exact y2
    · have hno : f = 0 → ∀ t, t ∈ lvOps l → ¬ Tape_tokens v1 j1 = nI t := fun q t ht e => c1' ⟨q, t, ht, e⟩
      exact ⟨j1, s1, c1, f, cd1, op1, ar1, cl_stop h hl hjm hfd hno, hstop fuel' j1 f op1 ar1 (nI c1) hjm hfd hno, he⟩
end LOOP
