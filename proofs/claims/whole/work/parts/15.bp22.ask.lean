/-! ===== which purse to ask for ===== -/
def puN (v2 : VTown) (v3 : VLaws) (v9 : VLots) (P g : Nat) (v10 : VLives) (l d p : Nat) : Nat := (Lives_purse (wkV v2 v3 v9 P g v10 p d) l).toNatClampNeg
theorem puN_ok {w : VR} {v2 : VTown} {v3 : VLaws} {v9 : VLots} {P L g p l d : Nat} {v : VLives} (h6 : P ≤ 6) (hg : g ≤ 999) (hl : lotsR w v9 P L) (hp : p < L) (hl2 : l < P) (hd : d ≤ 7) (hI : LI P v) : Lives_purse (wkV v2 v3 v9 P g v p d) l = nI (puN v2 v3 v9 P g v l d p) ∧ puN v2 v3 v9 P g v l d p ≤ 9999 := by
  obtain ⟨⟨n, hn, e⟩, -⟩ := (LI_week (v2 := v2) (v3 := v3) (d := d) h6 hg hl hp hI hd).1 l hl2
  have e : Lives_purse (wkV v2 v3 v9 P g v p d) l = nI n := e
  unfold puN
  rw [e, nI_clamp (by omega)]
  exact ⟨rfl, hn⟩
/-- how many of the first k that fit hold so much -/
def likeN (F : Nat → Bool) (X : Nat → Nat) (v k : Nat) : Nat := cntB (fun p => F p && decide (X p = v)) k
def mostN (F : Nat → Bool) (X : Nat → Nat) : Nat → Nat
  | 0 => 0
  | k + 1 => if F k = true then (if mostN F X k < likeN F X (X k) (k + 1) then likeN F X (X k) (k + 1) else mostN F X k) else mostN F X k
theorem likeN_yes {F : Nat → Bool} {X : Nat → Nat} {k : Nat} (h : F k = true) : likeN F X (X k) (k + 1) = likeN F X (X k) k + 1 := by
  unfold likeN
  rw [cntB, h, decide_eq_true (rfl : X k = X k)]
  rfl
theorem likeN_other {F : Nat → Bool} {X : Nat → Nat} {k v : Nat} (h : ¬ X k = v) : likeN F X v (k + 1) = likeN F X v k := by
  unfold likeN
  rw [cntB, decide_eq_false h, Bool.and_false]
  rfl
theorem likeN_unfit {F : Nat → Bool} {X : Nat → Nat} {k v : Nat} (h : F k = false) : likeN F X v (k + 1) = likeN F X v k := by
  unfold likeN
  rw [cntB, h, Bool.false_and]
  rfl
theorem likeN_le (F : Nat → Bool) (X : Nat → Nat) (v k : Nat) : likeN F X v k ≤ k := cntB_le _ _
theorem likeN_most (F : Nat → Bool) (X : Nat → Nat) (v : Nat) : ∀ k, likeN F X v k ≤ mostN F X k
  | 0 => Nat.le_refl _
  | k + 1 => by
    have ih := likeN_most F X v k
    rw [mostN]
    cases hF : F k with
    | false =>
      rw [likeN_unfit hF, if_neg (by decide)]
      exact ih
    | true =>
      rw [if_pos rfl]
      by_cases e : X k = v
      · subst e
        split <;> omega
      · rw [likeN_other e]
        split <;> omega
theorem mostN_of (F : Nat → Bool) (X : Nat → Nat) {B L : Nat} (h : ∀ p, p < L → F p = true → likeN F X (X p) L ≤ B) : ∀ k, k ≤ L → mostN F X k ≤ B
  | 0, _ => Nat.zero_le _
  | k + 1, hk => by
    have ih := mostN_of F X h k (by omega)
    rw [mostN]
    cases hF : F k with
    | false =>
      rw [if_neg (by decide)]
      exact ih
    | true =>
      rw [if_pos rfl]
      have h1 := h k (by omega) hF
      have h2 : likeN F X (X k) (k + 1) ≤ likeN F X (X k) L := cntB_mono _ hk
      split <;> omega
/-- as the reference counts -/
def greatN (F : Nat → Bool) (X : Nat → Nat) (L : Nat) : Nat → Nat
  | 0 => 0
  | k + 1 => if (if F k = true then likeN F X (X k) L else 0) ≤ greatN F X L k then greatN F X L k else (if F k = true then likeN F X (X k) L else 0)
theorem mx_1 (a b : Nat) : a ≤ (if a ≤ b then b else a) := by split <;> omega
theorem mx_2 (a b : Nat) : b ≤ (if a ≤ b then b else a) := by split <;> omega
theorem mx_le {a b c : Nat} (h1 : a ≤ c) (h2 : b ≤ c) : (if a ≤ b then b else a) ≤ c := by split <;> omega
theorem greatN_ge (F : Nat → Bool) (X : Nat → Nat) (L p : Nat) (h : F p = true) : ∀ k, p < k → likeN F X (X p) L ≤ greatN F X L k
  | 0, hk => absurd hk (Nat.not_lt_zero _)
  | k + 1, hk => by
    rw [greatN]
    by_cases e : p = k
    · subst e
      rw [if_pos h]
      exact mx_1 _ _
    · exact Nat.le_trans (greatN_ge F X L p h k (by omega)) (mx_2 _ _)
theorem greatN_le (F : Nat → Bool) (X : Nat → Nat) {L B : Nat} (h : ∀ p, p < L → F p = true → likeN F X (X p) L ≤ B) : ∀ k, k ≤ L → greatN F X L k ≤ B
  | 0, _ => Nat.zero_le _
  | k + 1, hk => by
    have ih := greatN_le F X h k (by omega)
    rw [greatN]
    refine mx_le ?_ ih
    by_cases c : F k = true
    · rw [if_pos c]; exact h k (by omega) c
    · rw [if_neg c]; exact Nat.zero_le _
theorem great_most (F : Nat → Bool) (X : Nat → Nat) (L : Nat) : greatN F X L L = mostN F X L :=
  Nat.le_antisymm (greatN_le F X (fun p _ _ => likeN_most F X (X p) L) L (Nat.le_refl _)) (mostN_of F X (fun p hp h => greatN_ge F X L p h L hp) L (Nat.le_refl _))
theorem mostN_le (F : Nat → Bool) (X : Nat → Nat) (L : Nat) : mostN F X L ≤ L := mostN_of F X (fun p _ _ => likeN_le F X (X p) L) L (Nat.le_refl _)
theorem alike_loop (N : Nat) {v17 : VForecast} {v2 : VTown} {v3 v3' : VLaws} {v9 : VLots} {v10 u : VLives} {w : VR} {P L g l d : Nat} {F : Nat → Bool} (h6 : P ≤ 6) (hg : g ≤ 999) (hl : lotsR w v9 P L) (hI : LI P v10) (hl2 : l < P) (hd1 : 1 ≤ d) (hd7 : d ≤ 7) (hh : heldR P L g v2 v3 v9 v10 (Forecast_held v17) (Forecast_harms v17)) (hF : ∀ p, p < L → Forecast_fitting v17 p = bI (F p)) : ∀ (r k fuel : Nat) (ta : Nat → Int32), k + r = L → r < fuel → (∀ v, v < 10000 → ta v = nI (likeN F (puN v2 v3 v9 P g v10 l d) v k)) → Ev (f_Forecast_mostAlike_L5 N fuel v17 v2 v3' v9 v10 u (nI l) (nI d) (nI (mostN F (puN v2 v3 v9 P g v10 l d) k)) (nI k) ta) (fun q => q.1 = nI (mostN F (puN v2 v3 v9 P g v10 l d) L) ∧ ∀ v, v < 10000 → q.2 v = nI (likeN F (puN v2 v3 v9 P g v10 l d) v L))
  | _, _, 0, _, _, h, _ => absurd h (Nat.not_lt_zero _)
  | 0, k, fuel + 1, ta, hk, hf, hta => by
    have hL := hl.2.2.1
    have hk : k = L := hk
    subst hk
    rw [f_Forecast_mostAlike_L5, hl.2.1]
    refine Ev.ifp (nI_le (by omega) (by omega)) ?_
    exact Ev.ret ⟨rfl, hta⟩
  | r + 1, k, fuel + 1, ta, hk, hf, hta => by
    have hL := hl.2.2.1
    have hkL : k < L := by omega
    have hm := mostN_le F (puN v2 v3 v9 P g v10 l d) k
    obtain ⟨e1, e2⟩ := puN_ok (v2 := v2) (v3 := v3) h6 hg hl hkL hl2 hd7 hI
    have e3 : Forecast_held v17 (k * 42 + (d - 1) * 6 + l) = nI (puN v2 v3 v9 P g v10 l d k) := by
      have := (hh k hkL).1 (d - 1) l (by omega) hl2
      rw [show d - 1 + 1 = d by omega] at this
      exact this.trans e1
    rw [f_Forecast_mostAlike_L5, hl.2.1, nI_clamp (n := k) (by omega), hF k hkL, show nI k + 1 = nI (k + 1) from nI_1 k]
    refine Ev.ifn (nI_ge (by omega) (by omega)) ?_
    refine Ev.ifn (nI_ge (b := 265) (by omega) (by decide)) ?_
    refine Ev.bnd (heldBy_ok (v17 := Forecast_tally_s v17 ta) (by omega) (by omega) hd1 hd7) ?_
    have e3 : Forecast_held (Forecast_tally_s v17 ta) (k * 42 + (d - 1) * 6 + l) = nI (puN v2 v3 v9 P g v10 l d k) := e3
    rw [e3]
    refine Ev.ifn (by first | with_reducible assumption | decide | (simp (disch := omega) only [zlit, nI_add, pk_mul, pk_sub, zsubm, nI_clamp, nI_leI, nI_ltI, nI_eq, zeqF, Nat.reduceEqDiff, zleF, zleT, zltF, zltT, zneg1, zneg1L, zneg2, zneg0, eq_self, or_self, false_or, or_false, Nat.not_lt_zero, not_false_eq_true, not_true_eq_false]; done)) ?_
    cases hFk : F k with
    | false =>
      refine Ev.ifp rfl ?_
      have e4 : mostN F (puN v2 v3 v9 P g v10 l d) k = mostN F (puN v2 v3 v9 P g v10 l d) (k + 1) := by
        rw [mostN, hFk, if_neg (by decide)]
      rw [e4]
      exact alike_loop N h6 hg hl hI hl2 hd1 hd7 hh hF r (k + 1) fuel ta (by omega) (by omega) (fun v hv => by rw [likeN_unfit hFk]; exact hta v hv)
    | true =>
      have e5 := likeN_yes (X := puN v2 v3 v9 P g v10 l d) hFk
      have hlk := likeN_le F (puN v2 v3 v9 P g v10 l d) (puN v2 v3 v9 P g v10 l d k) k
      refine Ev.ifn (by decide) ?_
      refine Ev.ifn (nI_pos (by omega)) ?_
      refine Ev.ifn (nI_ge (b := 10000) (by omega) (by decide)) ?_
      rw [nI_clamp (n := puN v2 v3 v9 P g v10 l d k) (by omega)]
      have hin : ¬ (nI (puN v2 v3 v9 P g v10 l d k) < 0 ∨ 10000 ≤ puN v2 v3 v9 P g v10 l d k) := fun x => x.elim (nI_pos (by omega)) (fun y => by omega)
      refine Ev.ifn hin ?_
      refine Ev.ifn hin ?_
      refine Ev.ifn hin ?_
      rw [pk_us, hta _ (by omega), show nI (likeN F (puN v2 v3 v9 P g v10 l d) (puN v2 v3 v9 P g v10 l d k) k) + 1 = nI (likeN F (puN v2 v3 v9 P g v10 l d) (puN v2 v3 v9 P g v10 l d k) (k + 1)) by rw [nI_1, e5]]
      have e6 : (if nI (mostN F (puN v2 v3 v9 P g v10 l d) k) < nI (likeN F (puN v2 v3 v9 P g v10 l d) (puN v2 v3 v9 P g v10 l d k) (k + 1)) then nI (likeN F (puN v2 v3 v9 P g v10 l d) (puN v2 v3 v9 P g v10 l d k) (k + 1)) else nI (mostN F (puN v2 v3 v9 P g v10 l d) k)) = nI (mostN F (puN v2 v3 v9 P g v10 l d) (k + 1)) := by
        rw [mostN, hFk, if_pos rfl]
        by_cases c : mostN F (puN v2 v3 v9 P g v10 l d) k < likeN F (puN v2 v3 v9 P g v10 l d) (puN v2 v3 v9 P g v10 l d k) (k + 1)
        · rw [if_pos c, if_pos (nI_lt c (by omega))]
        · rw [if_neg c, if_neg (nI_nlt (by omega) (by omega))]
      rw [e6]
      refine alike_loop N h6 hg hl hI hl2 hd1 hd7 hh hF r (k + 1) fuel _ (by omega) (by omega) (fun v hv => ?_)
      by_cases e : v = puN v2 v3 v9 P g v10 l d k
      · subst e; rw [pk_us]
      · rw [pk_un e, likeN_other (fun x => e x.symm)]; exact hta v hv
theorem unalike_loop (N : Nat) {v17 : VForecast} {v2 : VTown} {v3 v3' : VLaws} {v9 : VLots} {v10 u : VLives} {w : VR} {P L g l d : Nat} {y3 : Int32} (h6 : P ≤ 6) (hg : g ≤ 999) (hl : lotsR w v9 P L) (hI : LI P v10) (hl2 : l < P) (hd1 : 1 ≤ d) (hd7 : d ≤ 7) (hh : heldR P L g v2 v3 v9 v10 (Forecast_held v17) (Forecast_harms v17)) : ∀ (r k fuel : Nat) (ta : Nat → Int32), k + r = L → r < fuel → (∀ v, v < 10000 → (∀ p, k ≤ p → p < L → ¬ puN v2 v3 v9 P g v10 l d p = v) → ta v = 0) → Ev (f_Forecast_mostAlike_L92 N fuel v17 v2 v3' v9 v10 u (nI l) (nI d) y3 (nI k) ta) (fun q => ∀ v, v < 10000 → q v = 0)
  | _, _, 0, _, _, h, _ => absurd h (Nat.not_lt_zero _)
  | 0, k, fuel + 1, ta, hk, hf, hta => by
    have hL := hl.2.2.1
    rw [f_Forecast_mostAlike_L92, hl.2.1]
    refine Ev.ifp (nI_le (by omega) (by omega)) ?_
    exact Ev.ret (fun v hv => hta v hv (fun p h1 h2 => absurd h2 (by omega)))
  | r + 1, k, fuel + 1, ta, hk, hf, hta => by
    have hL := hl.2.2.1
    have hkL : k < L := by omega
    obtain ⟨e1, e2⟩ := puN_ok (v2 := v2) (v3 := v3) h6 hg hl hkL hl2 hd7 hI
    have e3 : Forecast_held (Forecast_tally_s v17 ta) (k * 42 + (d - 1) * 6 + l) = nI (puN v2 v3 v9 P g v10 l d k) := by
      have := (hh k hkL).1 (d - 1) l (by omega) hl2
      rw [show d - 1 + 1 = d by omega] at this
      exact this.trans e1
    rw [f_Forecast_mostAlike_L92, hl.2.1, show nI k + 1 = nI (k + 1) from nI_1 k]
    refine Ev.ifn (nI_ge (by omega) (by omega)) ?_
    refine Ev.ifn (nI_ge (b := 265) (by omega) (by decide)) ?_
    refine Ev.bnd (heldBy_ok (v17 := Forecast_tally_s v17 ta) (by omega) (by omega) hd1 hd7) ?_
    rw [e3]
    refine Ev.ifn (nI_pos (by omega)) ?_
    refine Ev.ifn (nI_ge (b := 10000) (by omega) (by decide)) ?_
    rw [nI_clamp (n := puN v2 v3 v9 P g v10 l d k) (by omega)]
    refine Ev.ifn (fun x => x.elim (nI_pos (by omega)) (fun y => by omega)) ?_
    refine unalike_loop N h6 hg hl hI hl2 hd1 hd7 hh r (k + 1) fuel _ (by omega) (by omega) (fun v hv hn => ?_)
    by_cases e : v = puN v2 v3 v9 P g v10 l d k
    · subst e; rw [pk_us]
    · rw [pk_un e]
      refine hta v hv (fun p h1 h2 => ?_)
      by_cases e4 : p = k
      · subst e4; exact fun x => e x.symm
      · exact hn p (by omega) h2
theorem likeN_zero {F : Nat → Bool} {X : Nat → Nat} {v : Nat} : ∀ {k}, (∀ p, p < k → ¬ X p = v) → likeN F X v k = 0
  | 0, _ => rfl
  | k + 1, h => by
    rw [likeN_other (h k (by omega))]
    exact likeN_zero (fun p hp => h p (by omega))
theorem mostAlike_ev {N : Nat} (hN : 10000 ≤ N) {v17 : VForecast} {v2 : VTown} {v3 v3' : VLaws} {v9 : VLots} {v10 u : VLives} {w : VR} {P L g l d : Nat} {F : Nat → Bool} (h6 : P ≤ 6) (hg : g ≤ 999) (hl : lotsR w v9 P L) (hI : LI P v10) (hl2 : l < P) (hd1 : 1 ≤ d) (hd7 : d ≤ 7) (hh : heldR P L g v2 v3 v9 v10 (Forecast_held v17) (Forecast_harms v17)) (hF : ∀ p, p < L → Forecast_fitting v17 p = bI (F p)) (hta : ∀ v, v < 10000 → Forecast_tally v17 v = 0) : Ev (f_Forecast_mostAlike N v17 v2 v3' v9 v10 u (nI l) (nI d)) (fun q => q.1 = nI (mostN F (puN v2 v3 v9 P g v10 l d) L) ∧ ∀ v, v < 10000 → q.2 v = 0) := by
  have hL := hl.2.2.1
  unfold f_Forecast_mostAlike
  refine Ev.bnx (alike_loop N (v3 := v3) (v3' := v3') (u := u) h6 hg hl hI hl2 hd1 hd7 hh hF L 0 N (Forecast_tally v17) (by omega) (by omega) (fun v hv => by rw [hta v hv]; rfl)) ?_
  rintro q ⟨q1, q2⟩
  refine Ev.bnx (unalike_loop N (v17 := Forecast_tally_s v17 q.2) (v3 := v3) (v3' := v3') (u := u) (y3 := q.1) h6 hg hl hI hl2 hd1 hd7 hh L 0 N q.2 (by omega) (by omega) (fun v hv hn => by rw [q2 v hv, likeN_zero (fun p hp => hn p (Nat.zero_le _) hp)]; rfl)) ?_
  intro t ht
  exact Ev.ret ⟨q1, ht⟩
/-! the best question, whatever the order -/
def qst (f : Nat → Nat → Nat) (A : Nat) (S : Nat → Nat → Prop) (b m : Int32) : Prop := (b = (-1) ∧ m = nI A ∧ ∀ l d, S l d → A ≤ f l d) ∨ ∃ l0 d0, S l0 d0 ∧ b = nI (8 * l0 + d0) ∧ m = nI (f l0 d0) ∧ f l0 d0 < A ∧ ∀ l d, S l d → f l0 d0 < f l d ∨ (f l0 d0 = f l d ∧ 8 * l0 + d0 ≤ 8 * l + d)
theorem qst_unique {f : Nat → Nat → Nat} {A : Nat} {S : Nat → Nat → Prop} {b m b' m' : Int32} (h : qst f A S b m) (h' : qst f A S b' m') : b = b' := by
  rcases h with ⟨rfl, -, h3⟩ | ⟨l, d, s1, rfl, -, s4, s5⟩
  · rcases h' with ⟨rfl, -, -⟩ | ⟨l, d, s1, -, -, s4, -⟩
    · rfl
    · have := h3 l d s1
      omega
  · rcases h' with ⟨-, -, h3⟩ | ⟨l', d', t1, rfl, -, t4, t5⟩
    · have := h3 l d s1
      omega
    · have a := s5 l' d' t1
      have b := t5 l d s1
      congr 1
      omega
theorem qst_set {f : Nat → Nat → Nat} {A : Nat} {S T : Nat → Nat → Prop} {b m : Int32} (h : qst f A S b m) (e : ∀ l d, S l d ↔ T l d) : qst f A T b m := by
  have : S = T := funext fun l => funext fun d => propext (e l d)
  rw [← this]
  exact h
theorem qst_step {f : Nat → Nat → Nat} {A : Nat} {S : Nat → Nat → Prop} {b m : Int32} {l d : Nat} (h : qst f A S b m) (hA : A < 2 ^ 30) (hf : f l d < 2 ^ 30) (hS : ∀ l d, S l d → l < 6 ∧ d ≤ 7) (hl : l < 6) (hd : d ≤ 7) : qst f A (fun x y => S x y ∨ (x = l ∧ y = d)) (if (nI (f l d) < m ∨ (nI (f l d) = m ∧ ¬ b < 0 ∧ ¬ b ≤ nI (8 * l + d))) then nI (8 * l + d) else b) (if (nI (f l d) < m ∨ (nI (f l d) = m ∧ ¬ b < 0 ∧ ¬ b ≤ nI (8 * l + d))) then nI (f l d) else m) := by
  rcases h with ⟨rfl, rfl, h3⟩ | ⟨l0, d0, s1, rfl, rfl, s4, s5⟩
  · by_cases c : f l d < A
    · have : nI (f l d) < nI A := nI_lt c (by omega)
      rw [if_pos (Or.inl this), if_pos (Or.inl this)]
      refine Or.inr ⟨l, d, Or.inr ⟨rfl, rfl⟩, rfl, rfl, c, ?_⟩
      rintro x y (hs | ⟨rfl, rfl⟩)
      · have := h3 x y hs
        left; omega
      · right; exact ⟨rfl, Nat.le_refl _⟩
    · have hn : ¬ (nI (f l d) < nI A ∨ (nI (f l d) = nI A ∧ ¬ (-1 : Int32) < 0 ∧ ¬ (-1) ≤ nI (8 * l + d))) := by
        rintro (x | ⟨-, x, -⟩)
        · exact c ((nI_ltI (by omega) (by omega)).mp x)
        · exact x (by decide)
      rw [if_neg hn, if_neg hn]
      refine Or.inl ⟨rfl, rfl, ?_⟩
      rintro x y (hs | ⟨rfl, rfl⟩)
      · exact h3 x y hs
      · omega
  · obtain ⟨b1, b2⟩ := hS l0 d0 s1
    by_cases c : f l d < f l0 d0 ∨ (f l d = f l0 d0 ∧ 8 * l + d < 8 * l0 + d0)
    · have hy : nI (f l d) < nI (f l0 d0) ∨ (nI (f l d) = nI (f l0 d0) ∧ ¬ nI (8 * l0 + d0) < 0 ∧ ¬ nI (8 * l0 + d0) ≤ nI (8 * l + d)) := by
        rcases c with c | ⟨c1, c2⟩
        · exact Or.inl (nI_lt c (by omega))
        · exact Or.inr ⟨by rw [c1], nI_pos (by omega), nI_ge c2 (by omega)⟩
      rw [if_pos hy, if_pos hy]
      refine Or.inr ⟨l, d, Or.inr ⟨rfl, rfl⟩, rfl, rfl, by omega, ?_⟩
      rintro x y (hs | ⟨rfl, rfl⟩)
      · have := s5 x y hs
        omega
      · right; exact ⟨rfl, Nat.le_refl _⟩
    · have hn : ¬ (nI (f l d) < nI (f l0 d0) ∨ (nI (f l d) = nI (f l0 d0) ∧ ¬ nI (8 * l0 + d0) < 0 ∧ ¬ nI (8 * l0 + d0) ≤ nI (8 * l + d))) := by
        rintro (x | ⟨x, -, y⟩)
        · exact c (Or.inl ((nI_ltI (by omega) (by omega)).mp x))
        · have x1 := (nI_eq (by omega) (by omega)).mp x
          rw [nI_leI (by omega) (by omega)] at y
          exact c (Or.inr ⟨x1, by omega⟩)
      rw [if_neg hn, if_neg hn]
      refine Or.inr ⟨l0, d0, Or.inl s1, rfl, rfl, s4, ?_⟩
      rintro x y (hs | ⟨rfl, rfl⟩)
      · exact s5 x y hs
      · omega
/-- where all that stands there comes first: only less will do -/
theorem qst_next {f : Nat → Nat → Nat} {A : Nat} {S : Nat → Nat → Prop} {b m : Int32} {l d : Nat} (h : qst f A S b m) (hA : A < 2 ^ 30) (hf : f l d < 2 ^ 30) (hS : ∀ x y, S x y → x < 6 ∧ y ≤ 7 ∧ 8 * x + y < 8 * l + d) (hl : l < 6) (hd : d ≤ 7) : qst f A (fun x y => S x y ∨ (x = l ∧ y = d)) (if m ≤ nI (f l d) then b else nI (8 * l + d)) (if m ≤ nI (f l d) then m else nI (f l d)) := by
  have hs := qst_step h hA hf (fun x y hx => ⟨(hS x y hx).1, (hS x y hx).2.1⟩) hl hd
  have e : (nI (f l d) < m ∨ (nI (f l d) = m ∧ ¬ b < 0 ∧ ¬ b ≤ nI (8 * l + d))) ↔ ¬ m ≤ nI (f l d) := by
    rcases h with ⟨rfl, rfl, -⟩ | ⟨l0, d0, s1, rfl, rfl, s4, -⟩
    · rw [nI_leI (by omega) (by omega), nI_ltI (by omega) (by omega)]
      constructor
      · rintro (x | ⟨-, x, -⟩)
        · omega
        · exact absurd (by decide) x
      · intro x; left; omega
    · obtain ⟨b1, b2, b3⟩ := hS l0 d0 s1
      rw [nI_leI (by omega) (by omega), nI_ltI (by omega) (by omega), nI_leI (by omega) (by omega)]
      constructor
      · rintro (x | ⟨-, -, x⟩)
        · omega
        · omega
      · intro x; left; omega
  by_cases c : m ≤ nI (f l d)
  · rw [if_pos c, if_pos c]
    rw [if_neg (fun x => (e.mp x) c), if_neg (fun x => (e.mp x) c)] at hs
    exact hs
  · rw [if_neg c, if_neg c]
    rw [if_pos (e.mpr c), if_pos (e.mpr c)] at hs
    exact hs
/-! the class goes by LIVES, the reference by DAYS -/
theorem cq_days {N : Nat} (hN : 10000 ≤ N) {v17 : VForecast} {v2 : VTown} {v3 v3' : VLaws} {v9 : VLots} {v10 u : VLives} {w : VR} {P L g l A : Nat} {F : Nat → Bool} (h6 : P ≤ 6) (hg : g ≤ 999) (hl : lotsR w v9 P L) (hI : LI P v10) (hl2 : l < P) (hA : A ≤ 265) (hh : heldR P L g v2 v3 v9 v10 (Forecast_held v17) (Forecast_harms v17)) (hF : ∀ p, p < L → Forecast_fitting v17 p = bI (F p)) : ∀ (r d fuel : Nat) (b m : Int32) (ta : Nat → Int32), d + r = 8 → r < fuel → 1 ≤ d → (∀ v, v < 10000 → ta v = 0) → qst (fun x y => mostN F (puN v2 v3 v9 P g v10 x y) L) A (fun x y => (x < l ∧ 1 ≤ y ∧ y ≤ 7) ∨ (x = l ∧ 1 ≤ y ∧ y < d)) b m → Ev (f_Forecast_bestQuestion_L22 N fuel v17 v2 v3' v9 v10 u (nI l) m b (nI d) ta) (fun q => qst (fun x y => mostN F (puN v2 v3 v9 P g v10 x y) L) A (fun x y => x < l + 1 ∧ 1 ≤ y ∧ y ≤ 7) q.2.1 q.1 ∧ ∀ v, v < 10000 → q.2.2 v = 0)
  | _, _, 0, _, _, _, _, h, _, _, _ => absurd h (Nat.not_lt_zero _)
  | 0, d, fuel + 1, b, m, ta, hk, hf, hd1, hta, hq => by
    have hk : d = 8 := hk
    subst hk
    rw [f_Forecast_bestQuestion_L22]
    refine Ev.ifp (by decide) ?_
    exact Ev.ret ⟨qst_set hq (fun x y => by omega), hta⟩
  | r + 1, d, fuel + 1, b, m, ta, hk, hf, hd1, hta, hq => by
    have hL := hl.2.2.1
    have hmb := mostN_le F (puN v2 v3 v9 P g v10 l d) L
    rw [f_Forecast_bestQuestion_L22, show nI d + 1 = nI (d + 1) from nI_1 d, show nI l * 8 + nI d = nI (8 * l + d) by rw [show (8 : Int32) = nI 8 from rfl, pk_mul, nI_add, Nat.mul_comm]]
    refine Ev.ifn (nI_nlt (a := 7) (by omega) (by decide)) ?_
    refine Ev.bnx (mostAlike_ev hN (v17 := Forecast_tally_s v17 ta) (v3 := v3) (v3' := v3') (u := u) h6 hg hl hI hl2 hd1 (show d ≤ 7 by omega) hh hF hta) ?_
    rintro q ⟨q1, q2⟩
    rw [q1]
    have hn := qst_next (l := l) (d := d) hq (by omega) (show mostN F (puN v2 v3 v9 P g v10 l d) L < 2 ^ 30 by omega) (fun x y hx => by omega) (by omega) (by omega)
    exact cq_days hN h6 hg hl hI hl2 hA hh hF r (d + 1) fuel _ _ q.2 (by omega) (by omega) (by omega) q2 (qst_set hn (fun x y => by omega))
theorem cq_lives {N : Nat} (hN : 10000 ≤ N) {v17 : VForecast} {v2 : VTown} {v3 v3' : VLaws} {v9 : VLots} {v10 u : VLives} {w : VR} {P L g A : Nat} {F : Nat → Bool} (hP : tpl v2 P) (hg : g ≤ 999) (hl : lotsR w v9 P L) (hI : LI P v10) (hA : A ≤ 265) (hh : heldR P L g v2 v3 v9 v10 (Forecast_held v17) (Forecast_harms v17)) (hF : ∀ p, p < L → Forecast_fitting v17 p = bI (F p)) : ∀ (r l fuel : Nat) (b m : Int32) (ta : Nat → Int32), l + r = P → r < fuel → (∀ v, v < 10000 → ta v = 0) → qst (fun x y => mostN F (puN v2 v3 v9 P g v10 x y) L) A (fun x y => x < l ∧ 1 ≤ y ∧ y ≤ 7) b m → Ev (f_Forecast_bestQuestion_L7 N fuel v17 v2 v3' v9 v10 u m b (nI l) ta) (fun q => (∃ m', qst (fun x y => mostN F (puN v2 v3 v9 P g v10 x y) L) A (fun x y => x < P ∧ 1 ≤ y ∧ y ≤ 7) q.1 m') ∧ ∀ v, v < 10000 → q.2 v = 0)
  | _, _, 0, _, _, _, _, h, _, _ => absurd h (Nat.not_lt_zero _)
  | 0, l, fuel + 1, b, m, ta, hk, hf, hta, hq => by
    have h6 := hP.2
    have hk : l = P := hk
    subst hk
    rw [f_Forecast_bestQuestion_L7, hP.1]
    refine Ev.ifp (nI_le (by omega) (by omega)) ?_
    exact Ev.ret ⟨⟨m, hq⟩, hta⟩
  | r + 1, l, fuel + 1, b, m, ta, hk, hf, hta, hq => by
    have h6 := hP.2
    rw [f_Forecast_bestQuestion_L7, hP.1, show nI l + 1 = nI (l + 1) from nI_1 l]
    refine Ev.ifn (nI_ge (by omega) (by omega)) ?_
    refine Ev.bnx (cq_days hN (v17 := Forecast_tally_s v17 ta) (v3 := v3) (v3' := v3') (u := u) (A := A) h6 hg hl hI (show l < P by omega) hA hh hF 7 1 N b m ta (by omega) (by omega) (by omega) hta (qst_set hq (fun x y => by omega))) ?_
    rintro q ⟨q1, q2⟩
    exact cq_lives hN hP hg hl hI hA hh hF r (l + 1) fuel _ _ q.2.2 (by omega) (by omega) q2 q1
theorem purse_days {N : Nat} (hN : 10000 ≤ N) {w : VR} {v2 : VTown} {v3 : VLaws} {v9 : VLots} {v10 : VLives} {P L g p D : Nat} {y2 : Int32} (hT : townR w v2 v3 P) (hsg : R_signed w = nI g) (hg : g ≤ 999) (hl : lotsR w v9 P L) (hp : p < L) (hI : LI P v10) (hD : D ≤ 7) : ∀ (r d fuel : Nat) (fa pl st : Nat → Int32), d + r = D → r < fuel → LR P 1584 st (wkV v2 v3 v9 P g v10 p d) → Ev (f_R_findPurses_L30 N fuel w (nI D) y2 (nI d) fa pl st) (fun q => LR P 1584 q.2.2 (wkV v2 v3 v9 P g v10 p D) ∧ Fr 1584 1630 st q.2.2)
  | _, _, 0, _, _, _, _, h, _ => absurd h (Nat.not_lt_zero _)
  | 0, d, fuel + 1, fa, pl, st, hk, hf, hR => by
    have hk : d = D := hk
    subst hk
    rw [f_R_findPurses_L30]
    refine Ev.ifp (nI_le (by omega) (by omega)) ?_
    exact Ev.ret ⟨hR, Fr.refl _ _ _⟩
  | r + 1, d, fuel + 1, fa, pl, st, hk, hf, hR => by
    have h6 := hT.1.2
    have hIw : LI P (wkV v2 v3 v9 P g v10 p d) := LI_week h6 hg hl hp hI (by omega)
    rw [f_R_findPurses_L30, show nI d + 1 = nI (d + 1) from nI_1 _]
    refine Ev.ifn (nI_ge (by omega) (by omega)) ?_
    refine Ev.bnx (passes_v hN (w := R_s_facts_pile_state w fa pl st) (b := 1584) (by omega) hT hIw.2.2.1 hIw.2.1 hIw.1 hsg hg hR) ?_
    rintro ⟨c1, c2, c3⟩ ⟨d1, d2⟩
    have d2 : Fr 1584 1630 st c3 := d2
    have d1 : LR P 1584 c3 (wkV v2 v3 v9 P g v10 p (d + 1)) := by
      unfold wkV
      rw [daysV_succ]
      exact d1
    refine (purse_days hN hT hsg hg hl hp hI hD r (d + 1) fuel c1 c2 c3 (by omega) (by omega) d1).mono ?_
    rintro q ⟨q1, q2⟩
    exact ⟨q1, d2.trans q2⟩
theorem purse_lay {N : Nat} {w : VR} {v2 : VTown} {v3 : VLaws} {V : VLives} {P p : Nat} {y1 : Int32} (hT : townR w v2 v3 P) (hp : p < 265) (hR : LR P 1584 (R_state w) V) : ∀ (r l fuel : Nat) (pu : Nat → Int32), l + r = P → r < fuel → Ev (f_R_findPurses_L50 N fuel w y1 (nI p) (nI l) pu) (fun q => (∀ x, l ≤ x → x < P → q (6 * p + x) = Lives_purse V x) ∧ ∀ j, ¬ (6 * p + l ≤ j ∧ j < 6 * p + P) → q j = pu j)
  | _, _, 0, _, _, h => absurd h (Nat.not_lt_zero _)
  | 0, l, fuel + 1, pu, hk, hf => by
    have h6 := hT.1.2
    rw [f_R_findPurses_L50]
    refine Ev.bnd (people_ok (w := R_purses_s w pu) hT) ?_
    refine Ev.ifp (nI_le (by omega) (by omega)) ?_
    exact Ev.ret ⟨fun x h1 h2 => absurd h2 (by omega), fun j _ => rfl⟩
  | r + 1, l, fuel + 1, pu, hk, hf => by
    have h6 := hT.1.2
    have s1 : R_state w (1588 + l) = Lives_purse V l := (hR.1 l (by omega)).1
    rw [f_R_findPurses_L50, show (1588 : Int32) + nI l = nI (1588 + l) from nI_add 1588 l, show (6 : Int32) * nI p + nI l = nI (6 * p + l) by simp (maxSteps := 2000000) (disch := omega) only [zlit, nI_add, pk_mul, nI_clamp], nI_clamp (n := 1588 + l) (by omega), nI_clamp (n := 6 * p + l) (by omega), s1, show nI l + 1 = nI (l + 1) from nI_1 l]
    refine Ev.bnd (people_ok (w := R_purses_s w pu) hT) ?_
    refine Ev.ifn (nI_ge (by omega) (by omega)) ?_
    refine Ev.ifn (fun x => x.elim (nI_pos (by omega)) (fun y => by omega)) ?_
    refine Ev.ifn (fun x => x.elim (nI_pos (by omega)) (fun y => by omega)) ?_
    refine Ev.letE ?_
    refine (purse_lay hT hp hR r (l + 1) fuel _ (by omega) (by omega)).mono ?_
    rintro q ⟨q1, q2⟩
    refine ⟨fun x h1 h2 => ?_, fun j hj => ?_⟩
    · by_cases e : x = l
      · subst e; rw [q2 _ (by omega), pk_us]
      · exact q1 x (by omega) h2
    · rw [q2 j (by omega), pk_un (by omega)]
theorem purses_loop {N : Nat} (hN : 10000 ≤ N) {w : VR} {v2 : VTown} {v3 : VLaws} {v9 : VLots} {v10 : VLives} {P L g D : Nat} (hT : townR w v2 v3 P) (hsg : R_signed w = nI g) (hg : g ≤ 999) (hl : lotsR w v9 P L) (hI : LI P v10) (hD : D ≤ 7) : ∀ (r k fuel : Nat) (fa pl st pu : Nat → Int32), k + r = L → r < fuel → LR P 0 st v10 → (∀ p x, p < k → x < P → pu (6 * p + x) = nI (puN v2 v3 v9 P g v10 x D p)) → Ev (f_R_findPurses_L2 N fuel w (nI D) (nI k) fa pl st pu) (fun q => (∀ p x, p < L → x < P → q.2.2.2 (6 * p + x) = nI (puN v2 v3 v9 P g v10 x D p)) ∧ Fr 1584 1630 st q.2.2.1)
  | _, _, 0, _, _, _, _, _, h, _, _ => absurd h (Nat.not_lt_zero _)
  | 0, k, fuel + 1, fa, pl, st, pu, hk, hf, hR, hpu => by
    have hL := hl.2.2.1
    have hk : k = L := hk
    subst hk
    rw [f_R_findPurses_L2, hl.1]
    refine Ev.ifp (nI_le (by omega) (by omega)) ?_
    exact Ev.ret ⟨hpu, Fr.refl _ _ _⟩
  | r + 1, k, fuel + 1, fa, pl, st, pu, hk, hf, hR, hpu => by
    have h6 := hT.1.2
    have hL := hl.2.2.1
    have hkL : k < L := by omega
    rw [f_R_findPurses_L2, hl.1, show nI k + 1 = nI (k + 1) from nI_1 k]
    refine Ev.ifn (nI_ge (by omega) (by omega)) ?_
    refine Ev.bnx (start2_ev hN (w := R_s_facts_pile_state_purses w fa pl st pu) (v2 := v2) (v3 := v3) (v9 := v9) h6 hkL hR) ?_
    intro s hs
    refine Ev.bnx (hs _ hT hl rfl) ?_
    rintro s2 ⟨d1, d2⟩
    have d2 : Fr 1584 1630 st s2 := d2
    refine Ev.bnx (purse_days hN (w := R_s_facts_pile_state_purses w fa pl s2 pu) (v10 := v10) (D := D) (y2 := nI k) hT hsg hg hl hkL hI hD D 0 N fa pl s2 (by omega) (by omega) d1) ?_
    rintro ⟨c1, c2, c3⟩ ⟨d3, d4⟩
    have d4 : Fr 1584 1630 s2 c3 := d4
    refine Ev.bnx (purse_lay (w := R_s_facts_pile_state_purses w c1 c2 c3 pu) (p := k) (y1 := nI D) hT (by omega) d3 P 0 N pu (by omega) (by omega)) ?_
    rintro t ⟨t1, t2⟩
    have d5 : Fr 1584 1630 st c3 := d2.trans d4
    have hR2 : LR P 0 c3 v10 := hR.keep h6 (fun j a b => d5 j (by omega))
    refine (purses_loop hN hT hsg hg hl hI hD r (k + 1) fuel c1 c2 c3 t (by omega) (by omega) hR2 (fun p x hp hx => ?_)).mono ?_
    · by_cases e : p = k
      · subst e
        rw [t1 x (by omega) hx]
        exact (puN_ok (v2 := v2) (v3 := v3) h6 hg hl hkL hx hD hI).1
      · rw [t2 _ (by omega)]
        exact hpu p x (by omega) hx
    · rintro q ⟨q1, q2⟩
      exact ⟨q1, d5.trans q2⟩
theorem ralike_in {N : Nat} {w : VR} {v9 : VLots} {P L l p : Nat} {y2 : Int32} {F : Nat → Bool} {X : Nat → Nat} (hl : lotsR w v9 P L) (h6 : l < 6) (hp : p < L) (hF : ∀ p, p < L → R_fits w p = bI (F p)) (hX : ∀ p, p < L → R_purses w (6 * p + l) = nI (X p) ∧ X p ≤ 9999) (hFp : F p = true) : ∀ (r k fuel : Nat), k + r = L → r < fuel → f_R_greatestAlike_L18 N fuel w (nI l) y2 (nI p) (nI (likeN F X (X p) k)) (nI k) = some (nI (likeN F X (X p) L))
  | _, _, 0, _, h => absurd h (Nat.not_lt_zero _)
  | 0, k, fuel + 1, hk, hf => by
    have hL := hl.2.2.1
    have hk : k = L := hk
    subst hk
    rw [f_R_greatestAlike_L18, hl.1]
    exact zifp (nI_le (by omega) (by omega)) rfl
  | r + 1, k, fuel + 1, hk, hf => by
    have hL := hl.2.2.1
    have ih := ralike_in (N := N) (y2 := y2) hl h6 hp hF hX hFp r (k + 1) fuel (by omega) (by omega)
    obtain ⟨x1, x2⟩ := hX k (by omega)
    obtain ⟨x3, x4⟩ := hX p hp
    rw [f_R_greatestAlike_L18, hl.1, nI_clamp (n := p) (by omega), nI_clamp (n := k) (by omega), show (6 : Int32) * nI k + nI l = nI (6 * k + l) by simp (maxSteps := 2000000) (disch := omega) only [zlit, nI_add, pk_mul, nI_clamp], show (6 : Int32) * nI p + nI l = nI (6 * p + l) by simp (maxSteps := 2000000) (disch := omega) only [zlit, nI_add, pk_mul, nI_clamp], nI_clamp (n := 6 * k + l) (by omega), nI_clamp (n := 6 * p + l) (by omega), hF p hp, hF k (by omega), hFp, x1, x3, show nI k + 1 = nI (k + 1) from nI_1 k]
    refine zifn (nI_ge (by omega) (by omega)) ?_
    refine zifn (by first | with_reducible assumption | decide | (simp (disch := omega) only [zlit, nI_add, pk_mul, pk_sub, zsubm, nI_clamp, nI_leI, nI_ltI, nI_eq, zeqF, Nat.reduceEqDiff, zleF, zleT, zltF, zltT, zneg1, zneg1L, zneg2, zneg0, eq_self, or_self, false_or, or_false, Nat.not_lt_zero, not_false_eq_true, not_true_eq_false]; done)) ?_
    refine zifn (by decide) ?_
    refine zifn (by first | with_reducible assumption | decide | (simp (disch := omega) only [zlit, nI_add, pk_mul, pk_sub, zsubm, nI_clamp, nI_leI, nI_ltI, nI_eq, zeqF, Nat.reduceEqDiff, zleF, zleT, zltF, zltT, zneg1, zneg1L, zneg2, zneg0, eq_self, or_self, false_or, or_false, Nat.not_lt_zero, not_false_eq_true, not_true_eq_false]; done)) ?_
    cases hFk : F k with
    | false =>
      refine zifp rfl ?_
      rw [show nI (likeN F X (X p) k) + 0 = nI (likeN F X (X p) (k + 1)) by rw [likeN_unfit hFk]; exact nI_add _ 0]
      exact ih
    | true =>
      refine zifn (by decide) ?_
      refine zifn (fun x => x.elim (nI_pos (by omega)) (fun y => by omega)) ?_
      refine zifn (fun x => x.elim (nI_pos (by omega)) (fun y => by omega)) ?_
      by_cases e : X k = X p
      · refine zletG (y := 1) (if_pos (by rw [e])) ?_
        rw [show nI (likeN F X (X p) k) + 1 = nI (likeN F X (X p) (k + 1)) by rw [nI_1, ← e, likeN_yes hFk]]
        exact ih
      · refine zletG (y := 0) (if_neg (fun x => e ((nI_eq (by omega) (by omega)).mp x))) ?_
        rw [show nI (likeN F X (X p) k) + 0 = nI (likeN F X (X p) (k + 1)) by rw [likeN_other e]; exact nI_add _ 0]
        exact ih
theorem ralike_loop {N : Nat} (hN : 10000 ≤ N) {w : VR} {v9 : VLots} {P L l : Nat} {F : Nat → Bool} {X : Nat → Nat} (hl : lotsR w v9 P L) (h6 : l < 6) (hF : ∀ p, p < L → R_fits w p = bI (F p)) (hX : ∀ p, p < L → R_purses w (6 * p + l) = nI (X p) ∧ X p ≤ 9999) : ∀ (r k fuel : Nat), k + r = L → r < fuel → f_R_greatestAlike_L4 N fuel w (nI l) (nI (greatN F X L k)) (nI k) = some (nI (greatN F X L L))
  | _, _, 0, _, h => absurd h (Nat.not_lt_zero _)
  | 0, k, fuel + 1, hk, hf => by
    have hL := hl.2.2.1
    have hk : k = L := hk
    subst hk
    rw [f_R_greatestAlike_L4, hl.1]
    exact zifp (nI_le (by omega) (by omega)) rfl
  | r + 1, k, fuel + 1, hk, hf => by
    have hL := hl.2.2.1
    have ih := ralike_loop hN hl h6 hF hX r (k + 1) fuel (by omega) (by omega)
    have hgr := greatN_le F X (B := L) (fun p _ _ => likeN_le F X (X p) L) k (by omega)
    have hlk := likeN_le F X (X k) L
    have inn : f_R_greatestAlike_L18 N N w (nI l) (nI (greatN F X L k)) (nI k) 0 0 = some (nI (if F k = true then likeN F X (X k) L else 0)) := by
      cases hFk : F k with
      | false =>
        obtain ⟨M, rfl⟩ : ∃ M, N = M + 1 := ⟨N - 1, by omega⟩
        rw [f_R_greatestAlike_L18, hl.1, nI_clamp (n := k) (by omega), hF k (by omega), hFk]
        refine zifn (fun x => by have := (nI_leI (b := 0) (by omega) (by decide)).mp x; omega) ?_
        refine zifn (by first | with_reducible assumption | decide | (simp (disch := omega) only [zlit, nI_add, pk_mul, pk_sub, zsubm, nI_clamp, nI_leI, nI_ltI, nI_eq, zeqF, Nat.reduceEqDiff, zleF, zleT, zltF, zltT, zneg1, zneg1L, zneg2, zneg0, eq_self, or_self, false_or, or_false, Nat.not_lt_zero, not_false_eq_true, not_true_eq_false]; done)) ?_
        refine zifp rfl ?_
        rfl
      | true =>
        rw [if_pos rfl]
        exact ralike_in (N := N) hl h6 (show k < L by omega) hF hX hFk L 0 N (by omega) (by omega)
    rw [f_R_greatestAlike_L4, hl.1, show nI k + 1 = nI (k + 1) from nI_1 k]
    refine zifn (nI_ge (by omega) (by omega)) ?_
    refine bnd inn ?_
    have e : (if nI (if F k = true then likeN F X (X k) L else 0) ≤ nI (greatN F X L k) then nI (greatN F X L k) else nI (if F k = true then likeN F X (X k) L else 0)) = nI (greatN F X L (k + 1)) := by
      rw [greatN]
      have hb : (if F k = true then likeN F X (X k) L else 0) ≤ 265 := by split <;> omega
      by_cases c : (if F k = true then likeN F X (X k) L else 0) ≤ greatN F X L k
      · rw [if_pos c, if_pos (nI_le c (by omega))]
      · rw [if_neg c, if_neg (fun x => c ((nI_leI (by omega) (by omega)).mp x))]
    rw [e]
    exact ih
theorem ralike_ok {N : Nat} (hN : 10000 ≤ N) {w : VR} {v9 : VLots} {P L l : Nat} {F : Nat → Bool} {X : Nat → Nat} (hl : lotsR w v9 P L) (h6 : l < 6) (hF : ∀ p, p < L → R_fits w p = bI (F p)) (hX : ∀ p, p < L → R_purses w (6 * p + l) = nI (X p) ∧ X p ≤ 9999) : f_R_greatestAlike N w (nI l) = some (nI (mostN F X L)) := by
  have hL := hl.2.2.1
  unfold f_R_greatestAlike
  refine bnd (ralike_loop hN hl h6 hF hX L 0 N (by omega) (by omega)) ?_
  rw [great_most]
theorem rq_lives {N : Nat} (hN : 10000 ≤ N) {w : VR} {v2 : VTown} {v3 : VLaws} {v9 : VLots} {v10 : VLives} {P L g d A : Nat} {F : Nat → Bool} (hT : townR w v2 v3 P) (hg : g ≤ 999) (hl : lotsR w v9 P L) (hI : LI P v10) (hA : A ≤ 265) (hd1 : 1 ≤ d) (hd7 : d ≤ 7) (hF : ∀ p, p < L → R_fits w p = bI (F p)) (hX : ∀ p x, p < L → x < P → R_purses w (6 * p + x) = nI (puN v2 v3 v9 P g v10 x d p)) : ∀ (r l fuel : Nat) (b m : Int32), l + r = P → r < fuel → qst (fun x y => mostN F (puN v2 v3 v9 P g v10 x y) L) A (fun x y => (x < P ∧ 1 ≤ y ∧ y < d) ∨ (x < l ∧ y = d)) b m → Ev (f_R_ask_L32 N fuel w (nI d) b m (nI l)) (fun q => qst (fun x y => mostN F (puN v2 v3 v9 P g v10 x y) L) A (fun x y => x < P ∧ 1 ≤ y ∧ y < d + 1) q.1 q.2)
  | _, _, 0, _, _, _, h, _ => absurd h (Nat.not_lt_zero _)
  | 0, l, fuel + 1, b, m, hk, hf, hq => by
    have h6 := hT.1.2
    have hk : l = P := hk
    subst hk
    rw [f_R_ask_L32]
    refine Ev.bnd (people_ok hT) ?_
    refine Ev.ifp (nI_le (by omega) (by omega)) ?_
    exact Ev.ret (qst_set hq (fun x y => by omega))
  | r + 1, l, fuel + 1, b, m, hk, hf, hq => by
    have h6 := hT.1.2
    have hL := hl.2.2.1
    have hmb := mostN_le F (puN v2 v3 v9 P g v10 l d) L
    rw [f_R_ask_L32, show nI l + 1 = nI (l + 1) from nI_1 l, show (8 : Int32) * nI l + nI d = nI (8 * l + d) by simp (maxSteps := 2000000) (disch := omega) only [zlit, nI_add, pk_mul, nI_clamp]]
    refine Ev.bnd (people_ok hT) ?_
    refine Ev.ifn (nI_ge (by omega) (by omega)) ?_
    refine Ev.bnd (ralike_ok hN (X := puN v2 v3 v9 P g v10 l d) hl (show l < 6 by omega) hF (fun p hp => ⟨hX p l hp (by omega), (puN_ok (v2 := v2) (v3 := v3) h6 hg hl hp (by omega) hd7 hI).2⟩)) ?_
    have hs := qst_step (l := l) (d := d) hq (by omega) (show mostN F (puN v2 v3 v9 P g v10 l d) L < 2 ^ 30 by omega) (fun x y hx => by omega) (by omega) hd7
    have z : (if nI (mostN F (puN v2 v3 v9 P g v10 l d) L) < m then (1 : Int32) else (if nI (mostN F (puN v2 v3 v9 P g v10 l d) L) = m then (if b < 0 then 0 else (if b ≤ nI (8 * l + d) then 0 else 1)) else 0)) = if (nI (mostN F (puN v2 v3 v9 P g v10 l d) L) < m ∨ (nI (mostN F (puN v2 v3 v9 P g v10 l d) L) = m ∧ ¬ b < 0 ∧ ¬ b ≤ nI (8 * l + d))) then 1 else 0 := by
      by_cases c1 : nI (mostN F (puN v2 v3 v9 P g v10 l d) L) < m
      · rw [if_pos c1, if_pos (Or.inl c1)]
      · rw [if_neg c1]
        by_cases c2 : nI (mostN F (puN v2 v3 v9 P g v10 l d) L) = m
        · rw [if_pos c2]
          by_cases c3 : b < 0
          · rw [if_pos c3, if_neg (fun x => x.elim c1 (fun y => y.2.1 c3))]
          · rw [if_neg c3]
            by_cases c4 : b ≤ nI (8 * l + d)
            · rw [if_pos c4, if_neg (fun x => x.elim c1 (fun y => y.2.2 c4))]
            · rw [if_neg c4, if_pos (Or.inr ⟨c2, c3, c4⟩)]
        · rw [if_neg c2, if_neg (fun x => x.elim c1 (fun y => c2 y.1))]
    refine Ev.letG z ?_
    by_cases c : (nI (mostN F (puN v2 v3 v9 P g v10 l d) L) < m ∨ (nI (mostN F (puN v2 v3 v9 P g v10 l d) L) = m ∧ ¬ b < 0 ∧ ¬ b ≤ nI (8 * l + d)))
    · rw [if_pos c, if_neg (by decide : ¬ (1 : Int32) = 0), if_neg (by decide : ¬ (1 : Int32) = 0)]
      rw [if_pos c, if_pos c] at hs
      exact rq_lives hN hT hg hl hI hA hd1 hd7 hF hX r (l + 1) fuel _ _ (by omega) (by omega) (qst_set hs (fun x y => by omega))
    · rw [if_neg c, if_pos rfl, if_pos rfl]
      rw [if_neg c, if_neg c] at hs
      exact rq_lives hN hT hg hl hI hA hd1 hd7 hF hX r (l + 1) fuel _ _ (by omega) (by omega) (qst_set hs (fun x y => by omega))
theorem rq_days {N : Nat} (hN : 10000 ≤ N) {w : VR} {v2 : VTown} {v3 : VLaws} {v9 : VLots} {v10 : VLives} {P L g A : Nat} {F : Nat → Bool} (hT : townR w v2 v3 P) (hsg : R_signed w = nI g) (hg : g ≤ 999) (hl : lotsR w v9 P L) (hI : LI P v10) (hA : A ≤ 265) (hF : ∀ p, p < L → R_fits w p = bI (F p)) : ∀ (r d fuel : Nat) (b m : Int32) (fa pl st pu : Nat → Int32), d + r = 8 → r < fuel → 1 ≤ d → LR P 0 st v10 → qst (fun x y => mostN F (puN v2 v3 v9 P g v10 x y) L) A (fun x y => x < P ∧ 1 ≤ y ∧ y < d) b m → Ev (f_R_ask_L18 N fuel w b m (nI d) fa pl st pu) (fun q => (∃ m', qst (fun x y => mostN F (puN v2 v3 v9 P g v10 x y) L) A (fun x y => x < P ∧ 1 ≤ y ∧ y ≤ 7) q.1 m') ∧ Fr 1584 1630 st q.2.2.2.1)
  | _, _, 0, _, _, _, _, _, _, _, h, _, _, _ => absurd h (Nat.not_lt_zero _)
  | 0, d, fuel + 1, b, m, fa, pl, st, pu, hk, hf, hd1, hR, hq => by
    have hk : d = 8 := hk
    subst hk
    rw [f_R_ask_L18]
    refine Ev.ifp (by decide) ?_
    exact Ev.ret ⟨⟨m, qst_set hq (fun x y => by omega)⟩, Fr.refl _ _ _⟩
  | r + 1, d, fuel + 1, b, m, fa, pl, st, pu, hk, hf, hd1, hR, hq => by
    have h6 := hT.1.2
    have hL := hl.2.2.1
    rw [f_R_ask_L18, show nI d + 1 = nI (d + 1) from nI_1 d]
    refine Ev.ifn (nI_nlt (a := 7) (by omega) (by decide)) ?_
    have hfp : Ev (f_R_findPurses N (R_s_facts_pile_state_purses w fa pl st pu) (nI d)) (fun q => (∀ p x, p < L → x < P → q.2.2.2 (6 * p + x) = nI (puN v2 v3 v9 P g v10 x d p)) ∧ Fr 1584 1630 st q.2.2.1) := by
      unfold f_R_findPurses
      refine Ev.bnx (purses_loop hN (w := R_s_facts_pile_state_purses w fa pl st pu) (D := d) hT hsg hg hl hI (by omega) L 0 N fa pl st pu (by omega) (by omega) hR (fun p x hp => absurd hp (Nat.not_lt_zero _))) ?_
      rintro q ⟨q1, q2⟩
      exact Ev.ret ⟨q1, q2⟩
    refine Ev.bnx hfp ?_
    rintro ⟨c1, c2, c3, c4⟩ ⟨d1, d2⟩
    have d2 : Fr 1584 1630 st c3 := d2
    refine Ev.bnx (rq_lives hN (w := R_s_facts_pile_state_purses w c1 c2 c3 c4) (v10 := v10) (A := A) (F := F) hT hg hl hI hA hd1 (show d ≤ 7 by omega) hF d1 P 0 N b m (by omega) (by omega) (qst_set hq (fun x y => by omega))) ?_
    rintro q hq2
    have hR2 : LR P 0 c3 v10 := hR.keep h6 (fun j a b => d2 j (by omega))
    refine (rq_days hN hT hsg hg hl hI hA hF r (d + 1) fuel _ _ c1 c2 c3 c4 (by omega) (by omega) (by omega) hR2 hq2).mono ?_
    rintro q' ⟨q1, q2⟩
    exact ⟨q1, d2.trans q2⟩
theorem m_ask {N : Nat} (hN : 10000 ≤ N) {v0 : VBl} {v1 : VTape} {v2 : VTown} {v3 : VLaws} {v4 : VReader} {v5 : VTown} {v6 : VLaws} {v7 : VYear} {v8 : VYear} {v9 : VLots} {v10 : VLives} {v11 : VLives} {v13 : VTales} {v17 : VForecast} {v18 : VLives} {v19 : VDeeds} {v20 : VPairs} {und mls : Nat → VLives} {mts : Nat → VTales} {w : VR} {P L g : Nat} (h : RELx P L g v0 v1 v2 v3 v7 v9 v10 v13 v17 und mls mts w) : Ev (f_Bl_ask N v0 v1 v2 v3 v4 v5 v6 v7 v8 v9 v10 v11 v13 v17 v18 v19 v20 und mls mts) (fun r => Ev (f_R_ask N w) (fun q => r.1 = q.1 ∧ q.2.1 = 0 ∧ RELx P L g v0 v1 v2 (Laws_s_facts_stack v3 r.2.1 r.2.2.1) v7 v9 v10 v13 (Forecast_s_ready_held_harms_fitting_tally v17 r.2.2.2.1 r.2.2.2.2.1 r.2.2.2.2.2.1 r.2.2.2.2.2.2.1 r.2.2.2.2.2.2.2.1) und mls mts (R_s_thrown_facts_pile_state_purses_fits_fitting w q.2.1 q.2.2.1 q.2.2.2.1 q.2.2.2.2.1 q.2.2.2.2.2.1 q.2.2.2.2.2.2.1 q.2.2.2.2.2.2.2))) := by
  have hh := h
  obtain ⟨⟨hT, hB, hG, hD, hnm⟩, hl, ⟨hR, hI⟩, b4, ht, b6, b7, hpl, hf⟩ := h
  have h6 := hT.1.2
  have hL := hl.2.2.1
  have hc := cntB_le (fitB v2 v3 v9 P g v10 v13) L
  obtain ⟨c, e1, d1, d2, d3, d4⟩ := countFitting_ev hN (u := v18) hT hG hl hR hI hf ht
  obtain ⟨q, e2, d5, d6, d7⟩ := findFitting_ev hN (w := R_thrown_s w 0) hT hG.2.2.2 hG.1 hl hR hI ht
  have d7 : Fr 1584 1630 (R_state w) q.2.2.1 := d7
  have h0 : qst (fun x y => mostN (fitB v2 v3 v9 P g v10 v13) (puN v2 v3 v9 P g v10 x y) L) (cntB (fitB v2 v3 v9 P g v10 v13) L) (fun x y => x < 0 ∧ 1 ≤ y ∧ y ≤ 7) (-1) (nI (cntB (fitB v2 v3 v9 P g v10 v13) L)) := Or.inl ⟨rfl, rfl, fun x y hx => absurd hx.1 (Nat.not_lt_zero _)⟩
  obtain ⟨r, e3, ⟨m1, d8⟩, d9⟩ := cq_lives hN (v17 := Forecast_s_ready_held_harms_fitting v17 c.2.1 c.2.2.1 c.2.2.2.1 c.2.2.2.2.1) (v2 := v2) (v3 := v3) (v3' := Laws_s_facts_stack v3 c.2.2.2.2.2.1 c.2.2.2.2.2.2.1) (v10 := v10) (u := Lives_s_purse_debt_home_hidden_self_worthThen_homeThen_away_days_homes_harm v18 c.2.2.2.2.2.2.2.1 c.2.2.2.2.2.2.2.2.1 c.2.2.2.2.2.2.2.2.2.1 c.2.2.2.2.2.2.2.2.2.2.1 c.2.2.2.2.2.2.2.2.2.2.2.1 c.2.2.2.2.2.2.2.2.2.2.2.2.1 c.2.2.2.2.2.2.2.2.2.2.2.2.2.1 c.2.2.2.2.2.2.2.2.2.2.2.2.2.2.1 c.2.2.2.2.2.2.2.2.2.2.2.2.2.2.2.1 c.2.2.2.2.2.2.2.2.2.2.2.2.2.2.2.2.1 c.2.2.2.2.2.2.2.2.2.2.2.2.2.2.2.2.2) (F := fitB v2 v3 v9 P g v10 v13) (A := cntB (fitB v2 v3 v9 P g v10 v13) L) hT.1 hG.1 hl hI (by omega) d3 d4 P 0 N _ _ (Forecast_tally v17) (by omega) (by omega) hf.2.2 h0
  have hR2 : LR P 0 q.2.2.1 v10 := hR.keep h6 (fun j a b => d7 j (by omega))
  obtain ⟨y, e4, ⟨m2, d10⟩, d11⟩ := rq_days hN (w := R_s_thrown_facts_pile_state_fits_fitting w 0 q.1 q.2.1 q.2.2.1 q.2.2.2.1 q.2.2.2.2) (F := fitB v2 v3 v9 P g v10 v13) (A := cntB (fitB v2 v3 v9 P g v10 v13) L) hT hG.2.2.2 hG.1 hl hI (by omega) d6 7 1 N _ _ q.1 q.2.1 q.2.2.1 (R_purses w) (by omega) (by omega) (by omega) hR2 (qst_set h0 (fun x y => by omega))
  have e3 : f_Forecast_bestQuestion_L7 N N (Forecast_s_ready_held_harms_fitting v17 c.2.1 c.2.2.1 c.2.2.2.1 c.2.2.2.2.1) v2 (Laws_s_facts_stack v3 c.2.2.2.2.2.1 c.2.2.2.2.2.2.1) v9 v10 (Lives_s_purse_debt_home_hidden_self_worthThen_homeThen_away_days_homes_harm v18 c.2.2.2.2.2.2.2.1 c.2.2.2.2.2.2.2.2.1 c.2.2.2.2.2.2.2.2.2.1 c.2.2.2.2.2.2.2.2.2.2.1 c.2.2.2.2.2.2.2.2.2.2.2.1 c.2.2.2.2.2.2.2.2.2.2.2.2.1 c.2.2.2.2.2.2.2.2.2.2.2.2.2.1 c.2.2.2.2.2.2.2.2.2.2.2.2.2.2.1 c.2.2.2.2.2.2.2.2.2.2.2.2.2.2.2.1 c.2.2.2.2.2.2.2.2.2.2.2.2.2.2.2.2.1 c.2.2.2.2.2.2.2.2.2.2.2.2.2.2.2.2.2) c.1 (-1) 0 (Forecast_tally v17) = some r := by rw [d1]; exact e3
  have e4 : f_R_ask_L18 N N (R_s_thrown_facts_pile_state_fits_fitting w 0 q.1 q.2.1 q.2.2.1 q.2.2.2.1 q.2.2.2.2) (-1) q.2.2.2.2 1 q.1 q.2.1 q.2.2.1 (R_purses w) = some y := by
    have e9 : q.2.2.2.2 = nI (cntB (fitB v2 v3 v9 P g v10 v13) L) := d5
    rw [show f_R_ask_L18 N N (R_s_thrown_facts_pile_state_fits_fitting w 0 q.1 q.2.1 q.2.2.1 q.2.2.2.1 q.2.2.2.2) (-1) q.2.2.2.2 1 q.1 q.2.1 q.2.2.1 (R_purses w) = f_R_ask_L18 N N (R_s_thrown_facts_pile_state_fits_fitting w 0 q.1 q.2.1 q.2.2.1 q.2.2.2.1 q.2.2.2.2) (-1) (nI (cntB (fitB v2 v3 v9 P g v10 v13) L)) 1 q.1 q.2.1 q.2.2.1 (R_purses w) by rw [← e9]]
    exact e4
  unfold f_Bl_ask f_R_ask f_Forecast_bestQuestion
  refine Ev.bnd e1 ?_
  rw [show f_Forecast_bestQuestion_L7 N N (Forecast_s_ready_held_harms_fitting v17 c.2.1 c.2.2.1 c.2.2.2.1 c.2.2.2.2.1) v2 (Laws_s_facts_stack v3 c.2.2.2.2.2.1 c.2.2.2.2.2.2.1) v9 v10 (Lives_s_purse_debt_home_hidden_self_worthThen_homeThen_away_days_homes_harm v18 c.2.2.2.2.2.2.2.1 c.2.2.2.2.2.2.2.2.1 c.2.2.2.2.2.2.2.2.2.1 c.2.2.2.2.2.2.2.2.2.2.1 c.2.2.2.2.2.2.2.2.2.2.2.1 c.2.2.2.2.2.2.2.2.2.2.2.2.1 c.2.2.2.2.2.2.2.2.2.2.2.2.2.1 c.2.2.2.2.2.2.2.2.2.2.2.2.2.2.1 c.2.2.2.2.2.2.2.2.2.2.2.2.2.2.2.1 c.2.2.2.2.2.2.2.2.2.2.2.2.2.2.2.2.1 c.2.2.2.2.2.2.2.2.2.2.2.2.2.2.2.2.2) c.1 (-1) 0 (Forecast_tally (Forecast_s_ready_held_harms_fitting v17 c.2.1 c.2.2.1 c.2.2.2.1 c.2.2.2.2.1)) = some r from e3]
  refine Ev.bnd rfl ?_
  refine Ev.ret ?_
  refine Ev.bnd e2 ?_
  refine Ev.bnd e4 ?_
  refine Ev.ret ⟨qst_unique d8 d10, rfl, ?_⟩
  have d11 : Fr 1584 1630 q.2.2.1 y.2.2.2.1 := d11
  have d12 : Fr 1584 1630 (R_state w) y.2.2.2.1 := d7.trans d11
  exact hh.fore (fi := c.2.2.2.2.1) d2 d3 d9 ⟨rfl, rfl, rfl, rfl, rfl, rfl, rfl, rfl, rfl, rfl, rfl, rfl, rfl⟩ rfl (fun j hj => d12 j (by omega))
