/-! ===== PAIRS ===== -/
theorem bit6 : ∀ m, m < 64 → ∀ x, x < 6 → (((nI m >>> (nI x &&& 31)) &&& 1) = 0 ↔ m.testBit x = false) := by decide +kernel
theorem or6 : ∀ m, m < 64 → ∀ x, x < 6 → nI m ||| ((1 : Int32) <<< (nI x &&& 31)) = nI (m ||| 2 ^ x) ∧ m ||| 2 ^ x < 64 := by decide +kernel
theorem orb6 : ∀ m, m < 64 → ∀ x, x < 6 → ∀ y, y < 6 → (m ||| 2 ^ x).testBit y = (m.testBit y || decide (x = y)) := by decide +kernel
def wvP (v10 : VLives) (v2 : VTown) (v3 : VLaws) (p l : Nat) : Int32 := lawS v3 3 (fx5 (if 0 < Lives_purse v10 l - Lives_hidden v10 l then Lives_purse v10 l - Lives_hidden v10 l else 0) (Lives_debt v10 l) (Lives_home v10 l) (Town_skills v2 p) (Town_kinds v2 p))
theorem cwish_ev {N : Nat} (hN : 10000 ≤ N) {v10 : VLives} {v2 : VTown} {v3 : VLaws} {P p l : Nat} {fa sk : Nat → Int32} (hP : tpl v2 P) (h3 : lawOk v3 3) (hp : p < P) (hl : l < P) : Ev (f_Pairs_wish N v10 v2 (Laws_s_facts_stack v3 fa sk) (nI p) (nI l)) (fun q => q.1 = wvP v10 v2 v3 p l) := by
  have h6 := hP.2
  have hi : ¬ (nI l < 0 ∨ 6 ≤ l) := fun x => x.elim (nI_pos (by omega)) (fun y => by omega)
  unfold f_Pairs_wish
  rw [nI_clamp (n := l) (by omega)]
  refine Ev.bnd (has_ok hP hl) ?_
  refine Ev.ifn (by decide) ?_
  refine Ev.bnd (openMoney_ok hP hl) ?_
  refine Ev.ifn hi ?_
  refine Ev.ifn hi ?_
  refine Ev.bnd (skillOf_ok hP hp) ?_
  refine Ev.bnd (kindOf_ok hP hp) ?_
  refine Ev.bnd setFacts_ok ?_
  obtain ⟨k, hv⟩ := valueF hN (v := Laws_s_facts_stack v3 fa sk) (k := 3) (by decide) h3 (Laws_facts (Laws_s_facts_stack v3 fa sk)) (if 0 < Lives_purse v10 l - Lives_hidden v10 l then Lives_purse v10 l - Lives_hidden v10 l else 0) (Lives_debt v10 l) (Lives_home v10 l) (Town_skills v2 p) (Town_kinds v2 p)
  refine Ev.bnd hv ?_
  exact Ev.ret rfl
theorem rwish_ev {N : Nat} (hN : 10000 ≤ N) {w : VR} {v10 : VLives} {v2 : VTown} {v3 : VLaws} {P p l : Nat} (hT : townR w v2 v3 P) (hR : LR P 0 (R_state w) v10) (hI : LI P v10) (hp : p < P) (hl : l < P) : Ev (f_R_wishOf N w (nI p) (nI l)) (fun q => q.1 = wvP v10 v2 v3 p l) := by
  have hlr := hT.2.2.2 3 (by decide)
  have hlf := laysFacts_ok (N := N) (w := w) (b := 0) (kd := 0) (th := 0) (by decide) hT hl hp hR.1 hI.1 rfl
  have hlf : f_R_laysFacts N w 0 (nI l) (nI p) 0 = some (fset (R_facts w) (if 0 < Lives_purse v10 l - Lives_hidden v10 l then Lives_purse v10 l - Lives_hidden v10 l else 0) (Lives_debt v10 l) (Lives_home v10 l) (Town_skills v2 p) (Town_kinds v2 p)) := hlf
  unfold f_R_wishOf
  refine Ev.bnd hlf ?_
  by_cases c : 0 ≤ R_towns w (3 + 3)
  · refine Ev.ifp c ?_
    obtain ⟨pl, e⟩ := worthAt_ok hN (w := R_facts_s w (fset (R_facts w) (if 0 < Lives_purse v10 l - Lives_hidden v10 l then Lives_purse v10 l - Lives_hidden v10 l else 0) (Lives_debt v10 l) (Lives_home v10 l) (Town_skills v2 p) (Town_kinds v2 p))) hlr c (fx := fx5 (if 0 < Lives_purse v10 l - Lives_hidden v10 l then Lives_purse v10 l - Lives_hidden v10 l else 0) (Lives_debt v10 l) (Lives_home v10 l) (Town_skills v2 p) (Town_kinds v2 p)) (fun j hj => fset_eq j hj)
    refine Ev.bnd e ?_
    exact Ev.ret rfl
  · refine Ev.ifn c ?_
    refine Ev.ret ?_
    unfold wvP
    rw [untold_ok hlr c]
    rfl
def wantP (v10 : VLives) (v2 : VTown) (v3 : VLaws) (p q : Nat) : Bool := decide (¬ wvP v10 v2 v3 p q ≤ wvP v10 v2 v3 p p)
theorem wantP_self (v10 : VLives) (v2 : VTown) (v3 : VLaws) (p : Nat) : wantP v10 v2 v3 p p = false := by
  unfold wantP
  exact decide_eq_false (fun h => h (Int32.le_refl _))
theorem rather_ev {N : Nat} (hN : 10000 ≤ N) {v10 : VLives} {v2 : VTown} {v3 : VLaws} {P p l : Nat} {fa sk : Nat → Int32} (hP : tpl v2 P) (h3 : lawOk v3 3) (hp : p < P) (hl : l < P) : Ev (f_Pairs_wouldRather N v10 v2 (Laws_s_facts_stack v3 fa sk) (nI p) (nI l)) (fun q => q.1 = bI (wantP v10 v2 v3 p l)) := by
  have h6 := hP.2
  unfold f_Pairs_wouldRather
  by_cases e : p = l
  · subst e
    refine Ev.ifp rfl ?_
    refine Ev.ret ?_
    rw [wantP_self]
    rfl
  · refine Ev.ifn (fun q => e ((nI_eq (by omega) (by omega)).mp q)) ?_
    refine Ev.bnx (cwish_ev hN hP h3 hp hl) ?_
    intro q2 h2
    refine Ev.bnx (cwish_ev hN (fa := q2.2.1) (sk := q2.2.2) hP h3 hp hp) ?_
    intro q3 h4
    rw [h2, h4]
    unfold wantP
    by_cases c : wvP v10 v2 v3 p l ≤ wvP v10 v2 v3 p p
    · refine Ev.ifp c ?_
      refine Ev.ret ?_
      rw [decide_eq_false (fun h => h c)]
      rfl
    · refine Ev.ifn c ?_
      refine Ev.ret ?_
      rw [decide_eq_true c]
      rfl
def bothP (v10 : VLives) (v2 : VTown) (v3 : VLaws) (p q : Nat) : Bool := wantP v10 v2 v3 p q && wantP v10 v2 v3 q p
theorem will_loop {N : Nat} (hN : 10000 ≤ N) {v20 : VPairs} {v10 : VLives} {v2 : VTown} {v3 : VLaws} {P p : Nat} (hP : tpl v2 P) (h3 : lawOk v3 3) (hp : p < P) (hpe : Pairs_people v20 = nI P) : ∀ (r k fuel m : Nat) (wl fa sk : Nat → Int32), k + r = P → r < fuel → m < 64 → wl p = nI m → (∀ q, q < 6 → m.testBit q = (decide (q < k) && bothP v10 v2 v3 p q)) → Ev (f_Pairs_seek_L35 N fuel v20 v10 v2 v3 (nI p) (nI k) wl fa sk) (fun a => (∃ m', m' < 64 ∧ a.1 p = nI m' ∧ ∀ q, q < P → m'.testBit q = bothP v10 v2 v3 p q) ∧ ∀ j, ¬ j = p → a.1 j = wl j)
  | _, _, 0, _, _, _, _, _, h, _, _, _ => absurd h (Nat.not_lt_zero _)
  | 0, k, fuel + 1, m, wl, fa, sk, hk, hf, hm, hw, hb => by
    have h6 := hP.2
    rw [f_Pairs_seek_L35, hpe]
    refine Ev.ifp (nI_le (by omega) (by omega)) ?_
    refine Ev.ret ⟨⟨m, hm, hw, fun q hq => ?_⟩, fun _ _ => rfl⟩
    rw [hb q (by omega), decide_eq_true (show q < k by omega), Bool.true_and]
  | r + 1, k, fuel + 1, m, wl, fa, sk, hk, hf, hm, hw, hb => by
    have h6 := hP.2
    have hkP : k < P := by omega
    have same : bothP v10 v2 v3 p k = false → ∀ q, q < 6 → m.testBit q = (decide (q < k + 1) && bothP v10 v2 v3 p q) := fun hz q hq => by
      rw [hb q hq]
      by_cases e : q = k
      · subst e
        rw [hz, Bool.and_false, Bool.and_false]
      · congr 1
        exact decide_eq_decide.mpr ⟨fun h => by omega, fun h => by omega⟩
    rw [f_Pairs_seek_L35, hpe, nI_clamp (n := p) (by omega), hw, show nI k + 1 = nI (k + 1) from nI_1 k]
    refine Ev.ifn (nI_ge (by omega) (by omega)) ?_
    refine Ev.bnx (rather_ev hN hP h3 hp hkP) ?_
    intro q3 h31
    rw [h31]
    cases hW : wantP v10 v2 v3 p k with
    | false =>
      refine Ev.ifp rfl ?_
      have hz : bothP v10 v2 v3 p k = false := by unfold bothP; rw [hW, Bool.false_and]
      exact will_loop hN hP h3 hp hpe r (k + 1) fuel m wl q3.2.1 q3.2.2 (by omega) (by omega) hm hw (same hz)
    | true =>
      refine Ev.ifn (by decide) ?_
      refine Ev.bnx (rather_ev hN (fa := q3.2.1) (sk := q3.2.2) hP h3 hkP hp) ?_
      intro q5 h5
      rw [h5]
      cases hW2 : wantP v10 v2 v3 k p with
      | false =>
        refine Ev.ifp rfl ?_
        have hz : bothP v10 v2 v3 p k = false := by unfold bothP; rw [hW2, Bool.and_false]
        exact will_loop hN hP h3 hp hpe r (k + 1) fuel m wl q5.2.1 q5.2.2 (by omega) (by omega) hm hw (same hz)
      | true =>
        have hz : bothP v10 v2 v3 p k = true := by unfold bothP; rw [hW, hW2]; rfl
        have hi : ¬ (nI p < 0 ∨ 6 ≤ p) := fun x => x.elim (nI_pos (by omega)) (fun y => by omega)
        obtain ⟨o1, o2⟩ := or6 m hm k (by omega)
        refine Ev.ifn (by decide) ?_
        refine Ev.ifn hi ?_
        refine Ev.ifn hi ?_
        rw [o1]
        refine (will_loop hN hP h3 hp hpe r (k + 1) fuel (m ||| 2 ^ k) (upd wl p (nI (m ||| 2 ^ k))) q5.2.1 q5.2.2 (by omega) (by omega) o2 pk_us (fun q hq => ?_)).mono ?_
        · rw [orb6 m hm k (by omega) q hq, hb q hq]
          by_cases e : k = q
          · subst e
            rw [hz, decide_eq_true (rfl : k = k), decide_eq_true (show k < k + 1 by omega), Bool.or_true]
            rfl
          · rw [decide_eq_false e, Bool.or_false]
            congr 1
            exact decide_eq_decide.mpr ⟨fun h => by omega, fun h => by omega⟩
        · rintro a ⟨a1, a2⟩
          exact ⟨a1, fun j hj => by rw [a2 j hj, pk_un hj]⟩
def willOk (v10 : VLives) (v2 : VTown) (v3 : VLaws) (P n : Nat) (wl : Nat → Int32) : Prop := ∀ p, p < n → ∃ m, m < 64 ∧ wl p = nI m ∧ ∀ q, q < P → m.testBit q = bothP v10 v2 v3 p q
theorem wills_loop {N : Nat} (hN : 10000 ≤ N) {v20 : VPairs} {v10 : VLives} {v2 : VTown} {v3 : VLaws} {P : Nat} (hP : tpl v2 P) (h3 : lawOk v3 3) (hpe : Pairs_people v20 = nI P) : ∀ (r k fuel : Nat) (wl fa sk : Nat → Int32), k + r = P → r < fuel → willOk v10 v2 v3 P k wl → Ev (f_Pairs_seek_L18 N fuel v20 v10 v2 v3 (nI k) wl fa sk) (fun a => willOk v10 v2 v3 P P a.1)
  | _, _, 0, _, _, _, _, h, _ => absurd h (Nat.not_lt_zero _)
  | 0, k, fuel + 1, wl, fa, sk, hk, hf, hw => by
    have h6 := hP.2
    have hk : k = P := hk
    subst hk
    rw [f_Pairs_seek_L18, hpe]
    refine Ev.ifp (nI_le (by omega) (by omega)) ?_
    exact Ev.ret hw
  | r + 1, k, fuel + 1, wl, fa, sk, hk, hf, hw => by
    have h6 := hP.2
    rw [f_Pairs_seek_L18, hpe, nI_clamp (n := k) (by omega), show nI k + 1 = nI (k + 1) from nI_1 k]
    refine Ev.ifn (nI_ge (by omega) (by omega)) ?_
    refine Ev.ifn (fun x => x.elim (nI_pos (by omega)) (fun y => by omega)) ?_
    refine Ev.bnx (will_loop hN (v20 := Pairs_willing_s v20 (upd wl k 0)) (v10 := v10) (v3 := Laws_s_facts_stack v3 fa sk) (p := k) hP h3 (by omega) hpe P 0 N 0 (upd wl k 0) fa sk (by omega) (by omega) (by decide) pk_us (fun q hq => by rw [Nat.zero_testBit]; rfl)) ?_
    rintro a ⟨a1, a2⟩
    refine wills_loop hN hP h3 hpe r (k + 1) fuel a.1 a.2.1 a.2.2 (by omega) (by omega) (fun p hp => ?_)
    by_cases e : p = k
    · subst e; exact a1
    · rw [a2 p e, pk_un e]
      exact hw p (by omega)
def wouldOk (v10 : VLives) (v2 : VTown) (v3 : VLaws) (P n : Nat) (wd : Nat → Int32) : Prop := ∀ p q, p < n → q < P → wd (6 * p + q) = bI (wantP v10 v2 v3 p q)
theorem rwould_in {N : Nat} (hN : 10000 ≤ N) {w : VR} {v10 : VLives} {v2 : VTown} {v3 : VLaws} {P p : Nat} {y1 : Int32} (hT : townR w v2 v3 P) (hR : LR P 0 (R_state w) v10) (hI : LI P v10) (hp : p < P) : ∀ (r k fuel : Nat) (fa pl wd : Nat → Int32), k + r = P → r < fuel → Ev (f_R_pairs_L40 N fuel w y1 (nI p) (nI k) fa pl wd) (fun a => (∀ q, k ≤ q → q < P → a.2.2 (6 * p + q) = bI (wantP v10 v2 v3 p q)) ∧ ∀ j, ¬ (6 * p + k ≤ j ∧ j < 6 * p + P) → a.2.2 j = wd j)
  | _, _, 0, _, _, _, _, h => absurd h (Nat.not_lt_zero _)
  | 0, k, fuel + 1, fa, pl, wd, hk, hf => by
    have h6 := hT.1.2
    rw [f_R_pairs_L40]
    refine Ev.bnd (people_ok (w := R_s_facts_pile_would w fa pl wd) hT) ?_
    refine Ev.ifp (nI_le (by omega) (by omega)) ?_
    exact Ev.ret ⟨fun q h1 h2 => absurd h2 (by omega), fun j _ => rfl⟩
  | r + 1, k, fuel + 1, fa, pl, wd, hk, hf => by
    have h6 := hT.1.2
    rw [f_R_pairs_L40, show (6 : Int32) * nI p + nI k = nI (6 * p + k) by simp (maxSteps := 2000000) (disch := omega) only [zlit, nI_add, pk_mul, nI_clamp], nI_clamp (n := 6 * p + k) (by omega), show nI k + 1 = nI (k + 1) from nI_1 k]
    refine Ev.bnd (people_ok (w := R_s_facts_pile_would w fa pl wd) hT) ?_
    refine Ev.ifn (nI_ge (by omega) (by omega)) ?_
    refine Ev.bnx (rwish_ev hN (w := R_s_facts_pile_would w fa pl wd) hT hR hI hp (show k < P by omega)) ?_
    intro q7 h7
    refine Ev.bnx (rwish_ev hN (w := R_s_facts_pile_would w q7.2.1 q7.2.2 wd) hT hR hI hp hp) ?_
    intro q8 h8
    refine Ev.ifn (fun x => x.elim (nI_pos (by omega)) (fun y => by omega)) ?_
    have e : vp_nar .boolean (if q7.1 ≤ q8.1 then 0 else 1) = bI (wantP v10 v2 v3 p k) := by
      rw [h7, h8]
      unfold wantP
      by_cases c : wvP v10 v2 v3 p k ≤ wvP v10 v2 v3 p p
      · rw [if_pos c, decide_eq_false (fun h => h c)]; rfl
      · rw [if_neg c, decide_eq_true c]; rfl
    rw [e]
    refine Ev.letE ?_
    refine (rwould_in hN hT hR hI hp r (k + 1) fuel q8.2.1 q8.2.2 _ (by omega) (by omega)).mono ?_
    rintro a ⟨a1, a2⟩
    refine ⟨fun q h1 h2 => ?_, fun j hj => ?_⟩
    · by_cases e : q = k
      · subst e; rw [a2 _ (by omega), pk_us]
      · exact a1 q (by omega) h2
    · rw [a2 j (by omega), pk_un (by omega)]
theorem rwould_loop {N : Nat} (hN : 10000 ≤ N) {w : VR} {v10 : VLives} {v2 : VTown} {v3 : VLaws} {P : Nat} {y1 : Int32} (hT : townR w v2 v3 P) (hR : LR P 0 (R_state w) v10) (hI : LI P v10) : ∀ (r k fuel : Nat) (fa pl wd pr : Nat → Int32), k + r = P → r < fuel → wouldOk v10 v2 v3 P k wd → (∀ q, q < k → pr q = (-1)) → Ev (f_R_pairs_L23 N fuel w y1 (nI k) fa pl wd pr) (fun a => wouldOk v10 v2 v3 P P a.2.2.1 ∧ ∀ q, q < P → a.2.2.2 q = (-1))
  | _, _, 0, _, _, _, _, _, h, _, _ => absurd h (Nat.not_lt_zero _)
  | 0, k, fuel + 1, fa, pl, wd, pr, hk, hf, hw, hp => by
    have h6 := hT.1.2
    have hk : k = P := hk
    subst hk
    rw [f_R_pairs_L23]
    refine Ev.bnd (people_ok (w := R_s_facts_pile_would_pairRow w fa pl wd pr) hT) ?_
    refine Ev.ifp (nI_le (by omega) (by omega)) ?_
    exact Ev.ret ⟨hw, hp⟩
  | r + 1, k, fuel + 1, fa, pl, wd, pr, hk, hf, hw, hp => by
    have h6 := hT.1.2
    rw [f_R_pairs_L23, nI_clamp (n := k) (by omega), show nI k + 1 = nI (k + 1) from nI_1 k]
    refine Ev.bnd (people_ok (w := R_s_facts_pile_would_pairRow w fa pl wd pr) hT) ?_
    refine Ev.ifn (nI_ge (by omega) (by omega)) ?_
    refine Ev.ifn (fun x => x.elim (nI_pos (by omega)) (fun y => by omega)) ?_
    refine Ev.letE ?_
    refine Ev.bnx (rwould_in hN (w := R_s_facts_pile_would_pairRow w fa pl wd (upd pr k (-1))) (p := k) (y1 := y1) hT hR hI (by omega) P 0 N fa pl wd (by omega) (by omega)) ?_
    rintro a ⟨a1, a2⟩
    refine rwould_loop hN hT hR hI r (k + 1) fuel a.1 a.2.1 a.2.2 _ (by omega) (by omega) (fun p q hp hq => ?_) (fun q hq => ?_)
    · by_cases e : p = k
      · subst e; exact a1 q (Nat.zero_le _) hq
      · rw [a2 _ (by omega)]; exact hw p q (by omega) hq
    · by_cases e : q = k
      · subst e; rw [pk_us]
      · rw [pk_un e]; exact hp q (by omega)
/-! all ways to part them, side by side -/
def PRel (P p T : Nat) (row pr : Nat → Int32) : Prop := (∀ q, q < P → (T.testBit q = true ↔ ¬ pr q = (-1))) ∧ ∀ q, q < P → (q < p ∨ T.testBit q = true) → row q = pr q
def BRel (P : Nat) (best : Nat → Int32) (most : Int32) (bp : Nat → Int32) (mp : Int32) : Prop := most = mp ∧ (most = (-1) ∨ ∃ j, j ≤ 6 ∧ most = nI j ∧ ∀ q, q < P → best q = bp q)
abbrev GP : Type := VPairs → Int32 → Int32 → Int32 → Option ((Nat → Int32) × (Nat → Int32) × Int32)
abbrev HP : Type := VR → Int32 → Int32 → Option ((Nat → Int32) × (Nat → Int32) × Int32)
def PStep (G : GP) (H : HP) (v10 : VLives) (v2 : VTown) (v3 : VLaws) (P p : Nat) : Prop := ∀ (T n : Nat) (v : VPairs) (w : VR), T < 64 → n ≤ p → townR w v2 v3 P → Pairs_people v = nI P → willOk v10 v2 v3 P P (Pairs_willing v) → wouldOk v10 v2 v3 P P (R_would w) → PRel P p T (Pairs_row v) (R_pairRow w) → BRel P (Pairs_best v) (Pairs_most v) (R_bestPairs w) (R_mostPairs w) → Ev (G v (nI p) (nI T) (nI n)) (fun a => Ev (H w (nI p) (nI n)) (fun b => (∀ q, q < P → b.1 q = R_pairRow w q) ∧ (∀ q, q < P → (q < p ∨ T.testBit q = true) → a.1 q = Pairs_row v q) ∧ BRel P a.2.1 a.2.2 b.2.1 b.2.2 ∧ ¬ a.2.2 = (-1)))
theorem pair_copy {N : Nat} {rr : HP} {w : VR} {P : Nat} (hP : P ≤ 6) : ∀ (r k fuel : Nat) (bp : Nat → Int32), k + r = P → r < fuel → Ev (f_R_pairsFrom_L23 rr N fuel w (nI P) (nI k) bp) (fun q => (∀ i, k ≤ i → i < P → q i = R_pairRow w i) ∧ ∀ i, i < k → q i = bp i)
  | _, _, 0, _, _, h => absurd h (Nat.not_lt_zero _)
  | 0, k, fuel + 1, bp, hk, hf => by
    rw [f_R_pairsFrom_L23]
    refine Ev.ifp (nI_le (by omega) (by omega)) ?_
    exact Ev.ret ⟨fun i h1 h2 => absurd h2 (by omega), fun i _ => rfl⟩
  | r + 1, k, fuel + 1, bp, hk, hf => by
    rw [f_R_pairsFrom_L23, nI_clamp (n := k) (by omega), show nI k + 1 = nI (k + 1) from nI_1 k]
    refine Ev.ifn (nI_ge (by omega) (by omega)) ?_
    refine Ev.ifn (fun x => x.elim (nI_pos (by omega)) (fun y => by omega)) ?_
    refine Ev.ifn (fun x => x.elim (nI_pos (by omega)) (fun y => by omega)) ?_
    refine Ev.letE ?_
    refine (pair_copy hP r (k + 1) fuel _ (by omega) (by omega)).mono ?_
    rintro q ⟨q1, q2⟩
    refine ⟨fun i h1 h2 => ?_, fun i h1 => ?_⟩
    · by_cases e : i = k
      · subst e; rw [q2 i (by omega), pk_us]
      · exact q1 i (by omega) h2
    · rw [q2 i (by omega), pk_un (by omega)]
theorem pair_leaf {N : Nat} (hN : 10000 ≤ N) {G : GP} {H : HP} {v10 : VLives} {v2 : VTown} {v3 : VLaws} {P : Nat} : PStep (f_Pairs_pairFrom_b G N) (f_R_pairsFrom_b H N) v10 v2 v3 P P := by
  intro T n v w hT64 hn hT hpe hwl hwd hPR hBR
  have h6 := hT.1.2
  obtain ⟨b1, b2⟩ := hBR
  have hrow : ∀ q, q < P → Pairs_row v q = R_pairRow w q := fun q hq => hPR.2 q hq (Or.inl hq)
  have hkeep : f_Pairs_keepRow N v (nI n) = some ((if nI n ≤ Pairs_most v then Pairs_best v else va_cpy (Pairs_row v) (Pairs_best v) 0 0 6), (if nI n ≤ Pairs_most v then Pairs_most v else nI n)) := rfl
  unfold f_Pairs_pairFrom_b
  refine Ev.ifn (nI_pos (by omega)) ?_
  refine Ev.ifp (by rw [hpe]; exact nI_le (by omega) (by omega)) ?_
  refine Ev.bnd hkeep ?_
  refine Ev.ret ?_
  unfold f_R_pairsFrom_b
  refine Ev.bnd (people_ok hT) ?_
  refine Ev.ifp rfl ?_
  by_cases c : nI n ≤ Pairs_most v
  · refine Ev.ifp (by rw [← b1]; exact c) ?_
    refine Ev.ret ⟨fun _ _ => rfl, fun _ _ _ => rfl, ?_, ?_⟩
    · show BRel P (if nI n ≤ Pairs_most v then Pairs_best v else _) (if nI n ≤ Pairs_most v then Pairs_most v else _) (R_bestPairs w) (R_mostPairs w)
      rw [if_pos c, if_pos c]
      exact ⟨b1, b2⟩
    · show ¬ (if nI n ≤ Pairs_most v then Pairs_most v else _) = (-1)
      rw [if_pos c]
      intro e
      rw [e] at c
      exact of_eq_false (zneg2 (n := n) (by omega)) c
  · refine Ev.ifn (by rw [← b1]; exact c) ?_
    obtain ⟨x, e, x1, -⟩ := pair_copy (N := N) (rr := H) (w := R_mostPairs_s w (nI n)) h6 P 0 N (R_bestPairs w) (by omega) (by omega)
    have e : f_R_pairsFrom_L23 H N N (R_mostPairs_s w (nI n)) (nI P) 0 (R_bestPairs w) = some x := e
    refine Ev.bnd e ?_
    refine Ev.ret ⟨fun _ _ => rfl, fun _ _ _ => rfl, ?_, ?_⟩
    · show BRel P (if nI n ≤ Pairs_most v then Pairs_best v else _) (if nI n ≤ Pairs_most v then Pairs_most v else _) x (nI n)
      rw [if_neg c, if_neg c]
      refine ⟨rfl, Or.inr ⟨n, by omega, rfl, fun q hq => ?_⟩⟩
      rw [pk_cpy_in (Nat.zero_le _) (by omega), x1 q (Nat.zero_le _) hq]
      show Pairs_row v (0 + (q - 0)) = _
      rw [show 0 + (q - 0) = q by omega]
      exact hrow q hq
    · show ¬ (if nI n ≤ Pairs_most v then Pairs_most v else nI n) = (-1)
      rw [if_neg c]
      exact nI_nem1 (by omega)
theorem pair_loop {N : Nat} {G : GP} {H : HP} {v10 : VLives} {v2 : VTown} {v3 : VLaws} {P p T n : Nat} {v : VPairs} {w : VR} (ih : PStep G H v10 v2 v3 P (p + 1)) (hp : p < P) (hT64 : T < 64) (hn : n ≤ p) (hT : townR w v2 v3 P) (hpe : Pairs_people v = nI P) (hwl : willOk v10 v2 v3 P P (Pairs_willing v)) (hwd : wouldOk v10 v2 v3 P P (R_would w)) (htp : T.testBit p = false) : ∀ (r x fuel : Nat) (row best : Nat → Int32) (most : Int32) (pr bp : Nat → Int32) (mp : Int32), x + r = P → r < fuel → p < x → PRel P p T row pr → BRel P best most bp mp → Ev (f_Pairs_pairFrom_L47 G N fuel v (nI p) (nI T) (nI n) (nI x) row best most) (fun a => Ev (f_R_pairsFrom_L70 H N fuel w (nI p) (nI n) (nI x) pr bp mp) (fun b => (∀ q, q < P → b.1 q = pr q) ∧ (∀ q, q < P → (q < p ∨ T.testBit q = true) → a.1 q = row q) ∧ BRel P a.2.1 a.2.2 b.2.1 b.2.2))
  | _, _, 0, _, _, _, _, _, _, _, h, _, _, _ => absurd h (Nat.not_lt_zero _)
  | 0, x, fuel + 1, row, best, most, pr, bp, mp, hk, hf, hx, hPR, hBR => by
    have h6 := hT.1.2
    rw [f_Pairs_pairFrom_L47, f_R_pairsFrom_L70, hpe]
    refine Ev.ifp (nI_le (by omega) (by omega)) ?_
    refine Ev.ret ?_
    refine Ev.bnd (people_ok (w := R_s_pairRow_bestPairs_mostPairs w pr bp mp) hT) ?_
    refine Ev.ifp (nI_le (by omega) (by omega)) ?_
    exact Ev.ret ⟨fun _ _ => rfl, fun _ _ _ => rfl, hBR⟩
  | r + 1, x, fuel + 1, row, best, most, pr, bp, mp, hk, hf, hx, hPR, hBR => by
    have h6 := hT.1.2
    have hxP : x < P := by omega
    obtain ⟨m, hm, em, hb⟩ := hwl p hp
    have hbx := bit6 m hm x (by omega)
    have htx := bit6 T hT64 x (by omega)
    have hw1 := hwd p x hp hxP
    have hw2 := hwd x p hxP hp
    have ipx : ¬ (nI (6 * p + x) < 0 ∨ 36 ≤ 6 * p + x) := fun y => y.elim (nI_pos (by omega)) (fun z => by omega)
    have ixp : ¬ (nI (6 * x + p) < 0 ∨ 36 ≤ 6 * x + p) := fun y => y.elim (nI_pos (by omega)) (fun z => by omega)
    have ip : ¬ (nI p < 0 ∨ 6 ≤ p) := fun y => y.elim (nI_pos (by omega)) (fun z => by omega)
    have ixx : ¬ (nI x < 0 ∨ 6 ≤ x) := fun y => y.elim (nI_pos (by omega)) (fun z => by omega)
    have loop := fun row best most pr bp mp => pair_loop (N := N) ih hp hT64 hn hT hpe hwl hwd htp r (x + 1) fuel row best most pr bp mp (by omega) (by omega) (by omega)
    -- the reference skips
    have skip : ∀ a : (Nat → Int32) × (Nat → Int32) × Int32, (¬ (pr x = (-1) ∧ bothP v10 v2 v3 p x = true)) → Ev (f_R_pairsFrom_L70 H N fuel w (nI p) (nI n) (nI (x + 1)) pr bp mp) (fun b => (∀ q, q < P → b.1 q = pr q) ∧ (∀ q, q < P → (q < p ∨ T.testBit q = true) → a.1 q = row q) ∧ BRel P a.2.1 a.2.2 b.2.1 b.2.2) → Ev (f_R_pairsFrom_L70 H N (fuel + 1) w (nI p) (nI n) (nI x) pr bp mp) (fun b => (∀ q, q < P → b.1 q = pr q) ∧ (∀ q, q < P → (q < p ∨ T.testBit q = true) → a.1 q = row q) ∧ BRel P a.2.1 a.2.2 b.2.1 b.2.2) := fun a hno hev => by
      rw [f_R_pairsFrom_L70, nI_clamp (n := x) (by omega), show (6 : Int32) * nI p + nI x = nI (6 * p + x) by simp (maxSteps := 2000000) (disch := omega) only [zlit, nI_add, pk_mul, nI_clamp], show (6 : Int32) * nI x + nI p = nI (6 * x + p) by simp (maxSteps := 2000000) (disch := omega) only [zlit, nI_add, pk_mul, nI_clamp], nI_clamp (n := 6 * p + x) (by omega), nI_clamp (n := 6 * x + p) (by omega), hw1, hw2, show nI x + 1 = nI (x + 1) from nI_1 x]
      refine Ev.bnd (people_ok (w := R_s_pairRow_bestPairs_mostPairs w pr bp mp) hT) ?_
      refine Ev.ifn (nI_ge (by omega) (by omega)) ?_
      refine Ev.ifn ixx ?_
      by_cases c : pr x = (-1)
      · refine Ev.ifp c ?_
        refine Ev.ifn ipx ?_
        cases hW : wantP v10 v2 v3 p x with
        | false =>
          refine Ev.ifp rfl ?_
          exact hev
        | true =>
          refine Ev.ifn (by decide) ?_
          refine Ev.ifn ixp ?_
          cases hW2 : wantP v10 v2 v3 x p with
          | false =>
            refine Ev.ifp rfl ?_
            exact hev
          | true => exact absurd ⟨c, by unfold bothP; rw [hW, hW2]; rfl⟩ hno
      · refine Ev.ifn c ?_
        exact hev
    rw [f_Pairs_pairFrom_L47, hpe, nI_clamp (n := p) (by omega), em, show nI x + 1 = nI (x + 1) from nI_1 x]
    refine Ev.ifn (nI_ge (by omega) (by omega)) ?_
    refine Ev.ifn ip ?_
    by_cases c1 : bothP v10 v2 v3 p x = true
    · refine Ev.ifn (fun q => by have := hbx.mp q; rw [hb x hxP, c1] at this; exact absurd this (by decide)) ?_
      by_cases c2 : T.testBit x = true
      · refine Ev.ifn (fun q => by have := htx.mp q; rw [c2] at this; exact absurd this (by decide)) ?_
        refine (loop row best most pr bp mp hPR hBR).mono ?_
        intro a ha
        exact skip a (fun q => (hPR.1 x hxP).mp c2 q.1) ha
      · have c3 : T.testBit x = false := Bool.eq_false_iff.mpr c2
        have prx : pr x = (-1) := Classical.byContradiction fun q => c2 ((hPR.1 x hxP).mpr q)
        have prp : pr p = (-1) := Classical.byContradiction fun q => by have := (hPR.1 p hp).mpr q; rw [htp] at this; exact absurd this (by decide)
        obtain ⟨o1, o2⟩ := or6 T hT64 p (by omega)
        obtain ⟨o3, o4⟩ := or6 (T ||| 2 ^ p) o2 x (by omega)
        have obit : ∀ q, q < P → ((T ||| 2 ^ p) ||| 2 ^ x).testBit q = (T.testBit q || decide (p = q) || decide (x = q)) := fun q hq => by
          rw [orb6 _ o2 x (by omega) q (by omega), orb6 T hT64 p (by omega) q (by omega)]
        refine Ev.ifp (htx.mpr c3) ?_
        rw [nI_clamp (n := x) (by omega)]
        refine Ev.ifn ip ?_
        refine Ev.ifn ixx ?_
        rw [o1, o3, show nI p + 1 = nI (p + 1) from nI_1 p, show nI n + 1 = nI (n + 1) from nI_1 n]
        obtain ⟨a, e1, b, e2, d1, d2, d3, -⟩ := ih ((T ||| 2 ^ p) ||| 2 ^ x) (n + 1) (Pairs_s_row_best_most v (upd (upd row p (nI x)) x (nI p)) best most) (R_s_pairRow_bestPairs_mostPairs w (upd (upd pr p (nI x)) x (nI p)) bp mp) o4 (by omega) hT hpe hwl hwd ⟨fun q hq => by
          show _ ↔ ¬ upd (upd pr p (nI x)) x (nI p) q = (-1)
          rw [obit q hq]
          by_cases e : q = x
          · subst e
            rw [pk_us, decide_eq_true (rfl : q = q), Bool.or_true]
            exact ⟨fun _ => nI_nem1 (by omega), fun _ => rfl⟩
          · rw [pk_un e]
            by_cases e2 : q = p
            · subst e2
              rw [pk_us, decide_eq_true (rfl : q = q), Bool.or_true, Bool.true_or]
              exact ⟨fun _ => nI_nem1 (by omega), fun _ => rfl⟩
            · rw [pk_un e2, decide_eq_false (fun h => e2 h.symm), decide_eq_false (fun h => e h.symm), Bool.or_false, Bool.or_false]
              exact hPR.1 q hq, fun q hq hor => by
          show upd (upd row p (nI x)) x (nI p) q = upd (upd pr p (nI x)) x (nI p) q
          rw [obit q hq] at hor
          by_cases e : q = x
          · subst e; rw [pk_us, pk_us]
          · rw [pk_un e, pk_un e]
            by_cases e2 : q = p
            · subst e2; rw [pk_us, pk_us]
            · rw [pk_un e2, pk_un e2]
              rw [decide_eq_false (fun h => e2 h.symm), decide_eq_false (fun h => e h.symm), Bool.or_false, Bool.or_false] at hor
              exact hPR.2 q hq (hor.elim (fun h => Or.inl (by omega)) Or.inr)⟩ hBR
        refine Ev.bnd e1 ?_
        have d1 : ∀ q, q < P → b.1 q = upd (upd pr p (nI x)) x (nI p) q := d1
        have d2 : ∀ q, q < P → (q < p + 1 ∨ ((T ||| 2 ^ p) ||| 2 ^ x).testBit q = true) → a.1 q = upd (upd row p (nI x)) x (nI p) q := d2
        have pr2 : ∀ q, q < P → upd (upd b.1 p (-1)) x (-1) q = pr q := fun q hq => by
          by_cases e : q = x
          · subst e; rw [pk_us, prx]
          · rw [pk_un e]
            by_cases e2 : q = p
            · subst e2; rw [pk_us, prp]
            · rw [pk_un e2, d1 q hq, pk_un e, pk_un e2]
        have row2 : ∀ q, q < P → (q < p ∨ T.testBit q = true) → a.1 q = row q := fun q hq hor => by
          have e : ¬ q = x := fun h => by
            subst h
            rcases hor with h | h
            · omega
            · rw [c3] at h; exact absurd h (by decide)
          have e2 : ¬ q = p := fun h => by
            subst h
            rcases hor with h | h
            · omega
            · rw [htp] at h; exact absurd h (by decide)
          rw [d2 q hq (hor.elim (fun h => Or.inl (by omega)) (fun h => Or.inr (by rw [obit q hq, h]; rfl))), pk_un e, pk_un e2]
        refine (loop a.1 a.2.1 a.2.2 (upd (upd b.1 p (-1)) x (-1)) b.2.1 b.2.2 ⟨fun q hq => by rw [pr2 q hq]; exact hPR.1 q hq, fun q hq hor => by rw [pr2 q hq, row2 q hq hor]; exact hPR.2 q hq hor⟩ d3).mono ?_
        rintro a' ⟨b', f1, f2, f3, f4⟩
        have hW : wantP v10 v2 v3 p x = true ∧ wantP v10 v2 v3 x p = true := by
          unfold bothP at c1
          rw [Bool.and_eq_true] at c1
          exact c1
        rw [f_R_pairsFrom_L70, nI_clamp (n := x) (by omega), nI_clamp (n := p) (by omega), show (6 : Int32) * nI p + nI x = nI (6 * p + x) by simp (maxSteps := 2000000) (disch := omega) only [zlit, nI_add, pk_mul, nI_clamp], show (6 : Int32) * nI x + nI p = nI (6 * x + p) by simp (maxSteps := 2000000) (disch := omega) only [zlit, nI_add, pk_mul, nI_clamp], nI_clamp (n := 6 * p + x) (by omega), nI_clamp (n := 6 * x + p) (by omega), hw1, hw2, hW.1, hW.2, show nI x + 1 = nI (x + 1) from nI_1 x, show nI p + 1 = nI (p + 1) from nI_1 p, show nI n + 1 = nI (n + 1) from nI_1 n]
        refine Ev.bnd (people_ok (w := R_s_pairRow_bestPairs_mostPairs w pr bp mp) hT) ?_
        refine Ev.ifn (nI_ge (by omega) (by omega)) ?_
        refine Ev.ifn ixx ?_
        refine Ev.ifp prx ?_
        refine Ev.ifn ipx ?_
        refine Ev.ifn (by decide) ?_
        refine Ev.ifn ixp ?_
        refine Ev.ifn (by decide) ?_
        refine Ev.ifn ip ?_
        refine Ev.letE ?_
        refine Ev.ifn ixx ?_
        refine Ev.letE ?_
        refine Ev.bnd e2 ?_
        refine Ev.ifn ip ?_
        refine Ev.letE ?_
        refine Ev.ifn ixx ?_
        refine Ev.letE ?_
        refine Ev.of f1 ⟨fun q hq => (f2 q hq).trans (pr2 q hq), fun q hq hor => (f3 q hq hor).trans (row2 q hq hor), f4⟩
    · refine Ev.ifp (hbx.mpr (by rw [hb x hxP]; exact Bool.eq_false_iff.mpr c1)) ?_
      refine (loop row best most pr bp mp hPR hBR).mono ?_
      intro a ha
      exact skip a (fun q => c1 q.2) ha
theorem pair_step {N : Nat} (hN : 10000 ≤ N) {G : GP} {H : HP} {v10 : VLives} {v2 : VTown} {v3 : VLaws} {P p : Nat} (ih : PStep G H v10 v2 v3 P (p + 1)) (hp : p < P) : PStep (f_Pairs_pairFrom_b G N) (f_R_pairsFrom_b H N) v10 v2 v3 P p := by
  intro T n v w hT64 hn hT hpe hwl hwd hPR hBR
  have h6 := hT.1.2
  have htp := bit6 T hT64 p (by omega)
  have ip : ¬ (nI p < 0 ∨ 6 ≤ p) := fun y => y.elim (nI_pos (by omega)) (fun z => by omega)
  unfold f_Pairs_pairFrom_b
  rw [hpe, nI_clamp (n := p) (by omega), show nI p + 1 = nI (p + 1) from nI_1 p]
  refine Ev.ifn (nI_pos (by omega)) ?_
  refine Ev.ifn (nI_ge (by omega) (by omega)) ?_
  refine Ev.ifp (nI_lt (b := 6) (by omega) (by decide)) ?_
  by_cases c : T.testBit p = true
  · refine Ev.ifn (fun q => by have := htp.mp q; rw [c] at this; exact absurd this (by decide)) ?_
    obtain ⟨a, e1, b, e2, d1, d2, d3, d4⟩ := ih T n v w hT64 (by omega) hT hpe hwl hwd ⟨hPR.1, fun q hq hor => hPR.2 q hq (hor.elim (fun h => by
      by_cases e : q = p
      · subst e; exact Or.inr c
      · exact Or.inl (by omega)) Or.inr)⟩ hBR
    refine Ev.bnd e1 ?_
    refine Ev.ret ?_
    unfold f_R_pairsFrom_b
    rw [nI_clamp (n := p) (by omega), show nI p + 1 = nI (p + 1) from nI_1 p]
    refine Ev.bnd (people_ok hT) ?_
    refine Ev.ifn (fun q => by have := (nI_eq (by omega) (by omega)).mp q; omega) ?_
    refine Ev.ifn ip ?_
    refine Ev.ifn ((hPR.1 p hp).mp c) ?_
    refine Ev.bnd e2 ?_
    exact Ev.ret ⟨d1, fun q hq hor => d2 q hq (hor.elim (fun h => Or.inl (by omega)) Or.inr), d3, d4⟩
  · have c2 : T.testBit p = false := Bool.eq_false_iff.mpr c
    have prp : R_pairRow w p = (-1) := Classical.byContradiction fun q => c ((hPR.1 p hp).mpr q)
    refine Ev.ifp (htp.mpr c2) ?_
    obtain ⟨a, e1, b, e2, d1, d2, d3⟩ := pair_loop (N := N) ih hp hT64 hn hT hpe hwl hwd c2 (P - (p + 1)) (p + 1) N (Pairs_row v) (Pairs_best v) (Pairs_most v) (R_pairRow w) (R_bestPairs w) (R_mostPairs w) (by omega) (by omega) (by omega) hPR hBR
    refine Ev.bnd e1 ?_
    refine Ev.ifn ip ?_
    obtain ⟨a', e3, b', e4, d4, d5, d6, d7⟩ := ih T n (Pairs_s_row_best_most v (upd a.1 p (-1)) a.2.1 a.2.2) (R_s_pairRow_bestPairs_mostPairs w b.1 b.2.1 b.2.2) hT64 (by omega) hT hpe hwl hwd ⟨fun q hq => by
      show _ ↔ ¬ b.1 q = (-1)
      rw [d1 q hq]; exact hPR.1 q hq, fun q hq hor => by
      show upd a.1 p (-1) q = b.1 q
      rw [d1 q hq]
      by_cases e : q = p
      · subst e; rw [pk_us, prp]
      · have hor2 : q < p ∨ T.testBit q = true := hor.elim (fun h => Or.inl (by omega)) Or.inr
        rw [pk_un e, d2 q hq hor2]
        exact hPR.2 q hq hor2⟩ d3
    refine Ev.bnd e3 ?_
    refine Ev.ret ?_
    unfold f_R_pairsFrom_b
    rw [nI_clamp (n := p) (by omega), show nI p + 1 = nI (p + 1) from nI_1 p]
    refine Ev.bnd (people_ok hT) ?_
    refine Ev.ifn (fun q => by have := (nI_eq (by omega) (by omega)).mp q; omega) ?_
    refine Ev.ifn ip ?_
    refine Ev.ifp prp ?_
    refine Ev.bnd e2 ?_
    refine Ev.bnd e4 ?_
    refine Ev.ret ⟨fun q hq => (d4 q hq).trans (d1 q hq), fun q hq hor => ?_, d6, d7⟩
    have e : ¬ q = p := fun h => by
      subst h
      rcases hor with h | h
      · omega
      · rw [c2] at h; exact absurd h (by decide)
    have d5 : a'.1 q = upd a.1 p (-1) q := d5 q hq (hor.elim (fun h => Or.inl (by omega)) Or.inr)
    show a'.1 q = _
    rw [d5, pk_un e]
    exact d2 q hq hor
theorem pair_all {N : Nat} (hN : 10000 ≤ N) {v10 : VLives} {v2 : VTown} {v3 : VLaws} {P : Nat} : ∀ (r p e : Nat), p + r = P → PStep (g_Pairs_pairFrom N (r + 1 + e)) (g_R_pairsFrom N (r + 1 + e)) v10 v2 v3 P p
  | 0, p, e, h => by
    have h : p = P := h
    subst h
    rw [show 0 + 1 + e = e + 1 by omega, g_Pairs_pairFrom, g_R_pairsFrom]
    exact pair_leaf hN
  | r + 1, p, e, h => by
    rw [show r + 1 + 1 + e = (r + 1 + e) + 1 by omega, g_Pairs_pairFrom, g_R_pairsFrom]
    exact pair_step hN (pair_all hN r (p + 1) e (by omega)) (by omega)
theorem m_pairs {N : Nat} (hN : 10000 ≤ N) {v0 : VBl} {v1 : VTape} {v2 : VTown} {v3 : VLaws} {v4 : VReader} {v5 : VTown} {v6 : VLaws} {v7 : VYear} {v8 : VYear} {v9 : VLots} {v10 : VLives} {v11 : VLives} {v13 : VTales} {v17 : VForecast} {v18 : VLives} {v19 : VDeeds} {v20 : VPairs} {und mls : Nat → VLives} {mts : Nat → VTales} {w : VR} {P L g : Nat} (h : RELx P L g v0 v1 v2 v3 v7 v9 v10 v13 v17 und mls mts w) (a1 : Int32) : Ev (f_Bl_pairs N v0 v1 v2 v3 v4 v5 v6 v7 v8 v9 v10 v11 v13 v17 v18 v19 v20 und mls mts a1) (fun r => Ev (f_R_pairs N w a1) (fun q => r.1 = q.1 ∧ q.2.1 = 0 ∧ RELx P L g v0 v1 v2 (Laws_s_facts_stack v3 r.2.1 r.2.2.1) v7 v9 v10 v13 v17 und mls mts (R_s_thrown_facts_pile_would_pairRow_bestPairs_mostPairs w q.2.1 q.2.2.1 q.2.2.2.1 q.2.2.2.2.1 q.2.2.2.2.2.1 q.2.2.2.2.2.2.1 q.2.2.2.2.2.2.2))) := by
  have hh := h
  obtain ⟨⟨hT, hB, hG, hD, hnm⟩, hl, ⟨hR, hI⟩, b4, ht, b6, b7, hpl, hf⟩ := h
  have h6 := hT.1.2
  have h3 := (hT.2.2.2 3 (by decide)).1
  have hT' : townR (R_thrown_s w 0) v2 v3 P := hT
  have rel0 : ∀ (fa sk f2 pl wd pr bp : Nat → Int32) (mp : Int32), RELx P L g v0 v1 v2 (Laws_s_facts_stack v3 fa sk) v7 v9 v10 v13 v17 und mls mts (R_s_thrown_facts_pile_would_pairRow_bestPairs_mostPairs w 0 f2 pl wd pr bp mp) := fun fa sk f2 pl wd pr bp mp => hh.trial ⟨rfl, rfl, rfl, rfl, rfl, rfl, rfl, rfl, rfl, rfl, rfl, rfl, rfl⟩ rfl (fun _ _ => rfl) ⟨fa, sk, rfl⟩
  have hpe : (if 6 < Town_people v2 then (6 : Int32) else Town_people v2) = nI P := by
    rw [hT.1.1, if_neg (nltF (a := 6) (L := 6) rfl h6 (by decide))]
  -- both
  obtain ⟨a, e1, d1⟩ := wills_loop hN (v20 := Pairs_people_s v20 (nI P)) (v10 := v10) hT.1 h3 rfl P 0 N (Pairs_willing v20) (Laws_facts v3) (Laws_stack v3) (by omega) (by omega) (fun p hp => absurd hp (Nat.not_lt_zero _))
  have e1 : f_Pairs_seek_L18 N N (Pairs_people_s v20 (nI P)) v10 v2 v3 0 (Pairs_willing v20) (Laws_facts v3) (Laws_stack v3) = some a := e1
  obtain ⟨b, e2, d2, d3⟩ := rwould_loop hN (w := R_thrown_s w 0) (y1 := a1) hT hR hI P 0 N (R_facts w) (R_pile w) (R_would w) (R_pairRow w) (by omega) (by omega) (fun p q hp => absurd hp (Nat.not_lt_zero _)) (fun q hq => absurd hq (Nat.not_lt_zero _))
  have e2 : f_R_pairs_L23 N N (R_thrown_s w 0) a1 0 (R_facts w) (R_pile w) (R_would w) (R_pairRow w) = some b := e2
  have st := pair_all hN (v10 := v10) (v2 := v2) (v3 := v3) (P := P) P 0 (63 - P) (by omega)
  rw [show P + 1 + (63 - P) = 64 by omega] at st
  obtain ⟨c, e3, y, e4, -, -, d4, d5⟩ := st 0 0 (Pairs_s_people_willing_most v20 (nI P) a.1 (-1)) (R_s_thrown_facts_pile_would_pairRow_mostPairs w 0 b.1 b.2.1 b.2.2.1 b.2.2.2 (-1)) (by decide) (Nat.le_refl _) hT rfl d1 d2 ⟨fun q hq => by
    show Nat.testBit 0 q = true ↔ ¬ b.2.2.2 q = (-1)
    rw [Nat.zero_testBit, d3 q hq]
    exact ⟨fun x => absurd x (by decide), fun x => absurd rfl x⟩, fun q hq hor => by
    rcases hor with x | x
    · exact absurd x (Nat.not_lt_zero _)
    · rw [Nat.zero_testBit] at x; exact absurd x (by decide)⟩ ⟨rfl, Or.inl rfl⟩
  have e3 : f_Pairs_pairFrom 64 N (Pairs_s_people_willing_most v20 (nI P) a.1 (-1)) 0 0 0 = some c := e3
  have e4 : f_R_pairsFrom 64 N (R_s_thrown_facts_pile_would_pairRow_mostPairs w 0 b.1 b.2.1 b.2.2.1 b.2.2.2 (-1)) 0 0 = some y := e4
  obtain ⟨d6, d7⟩ := d4
  obtain ⟨j, hj, d8, d9⟩ := d7.resolve_left d5
  have hseek : f_Pairs_seek N v20 v10 v2 v3 = some (nI P, a.1, c.1, c.2.1, c.2.2, a.2.1, a.2.2) := by
    unfold f_Pairs_seek
    rw [hpe, e1]
    refine bnd rfl ?_
    exact bnd e3 rfl
  unfold f_Bl_pairs f_R_pairs
  by_cases c1 : a1 = (-1)
  · have hlt : ¬ 0 ≤ a1 := by rw [c1]; decide
    refine Ev.ifp c1 ?_
    refine Ev.bnd hseek ?_
    refine Ev.ifp c1 ?_
    refine Ev.ret ?_
    refine Ev.ifp c1 ?_
    refine Ev.bnd e2 ?_
    refine Ev.bnd e4 ?_
    refine Ev.ifn hlt ?_
    exact Ev.ret ⟨d6, rfl, rel0 _ _ _ _ _ _ _ _⟩
  · refine Ev.ifn c1 ?_
    rcases isPerson_both (N := N) hT' a1 with ⟨g1, g2⟩ | ⟨l, hl2, rfl, g1, g2⟩
    · refine Ev.bnd g1 ?_
      refine Ev.ifp rfl ?_
      refine Ev.ret ?_
      refine Ev.ifn c1 ?_
      refine Ev.bnd g2 ?_
      refine Ev.ifp rfl ?_
      exact Ev.ret ⟨rfl, rfl, rel0 _ _ _ _ _ _ _ _⟩
    · have il : ¬ (nI l < 0 ∨ 6 ≤ Int32.toNatClampNeg (nI l)) := fun z => by
        rw [nI_clamp (by omega)] at z
        exact z.elim (nI_pos (by omega)) (fun z => by omega)
      refine Ev.bnd g1 ?_
      refine Ev.ifn (by decide) ?_
      refine Ev.bnd hseek ?_
      refine Ev.ifn c1 ?_
      refine Ev.ifn il ?_
      refine Ev.ret ?_
      refine Ev.ifn c1 ?_
      refine Ev.bnd g2 ?_
      refine Ev.ifn (by decide) ?_
      refine Ev.bnd e2 ?_
      refine Ev.bnd e4 ?_
      refine Ev.ifp (nI_pos' (by omega)) ?_
      refine Ev.ifn il ?_
      refine Ev.ret ⟨?_, rfl, rel0 _ _ _ _ _ _ _ _⟩
      show c.2.1 (Int32.toNatClampNeg (nI l)) = y.2.1 (Int32.toNatClampNeg (nI l))
      rw [nI_clamp (by omega)]
      exact d9 l hl2
