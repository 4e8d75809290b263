/-! ===== the town as always, and the copies ===== -/
theorem stands_zero (N : Nat) {w : VR} {b : Nat} (hb : b ≤ 80) : ∀ (r k fuel : Nat) (tw : Nat → Int32), k + r = 80 → r < fuel → Ev (f_R_standsAsAlways_L2 N fuel w (nI b) (nI k) tw) (fun q => ∀ i, (b + k ≤ i → i < b + 80 → q i = 0) ∧ ((i < b + k ∨ b + 80 ≤ i) → q i = tw i))
  | _, _, 0, _, _, h => absurd h (Nat.not_lt_zero _)
  | 0, k, fuel + 1, tw, hk, _ => by
    rw [f_R_standsAsAlways_L2]
    refine Ev.ifp (by rw [show k = 80 by omega]; decide) ?_
    exact Ev.ret fun i => ⟨fun h1 h2 => absurd h1 (by omega), fun _ => rfl⟩
  | r + 1, k, fuel + 1, tw, hk, hf => by
    rw [f_R_standsAsAlways_L2, nI_add, nI_clamp (n := b + k) (by omega), show nI k + 1 = nI (k + 1) from nI_1 k]
    refine Ev.ifn (ngF (L := 80) (b := 80) rfl (by omega) (by omega)) ?_
    refine Ev.ifn (fun q => q.elim (nI_pos (by omega)) (fun y => by omega)) ?_
    refine Ev.letE ?_
    refine (stands_zero N hb r (k + 1) fuel _ (by omega) (by omega)).mono ?_
    intro q hq i
    refine ⟨fun h1 h2 => ?_, fun h1 => ?_⟩
    · by_cases e : i = b + k
      · rw [(hq i).2 (by omega), e, pk_us]
      · exact (hq i).1 (by omega) h2
    · rw [(hq i).2 (by omega), pk_un (by omega)]
theorem stands_law (N : Nat) {w : VR} {b : Nat} (hb : b ≤ 80) : ∀ (r k fuel : Nat) (tw : Nat → Int32), k + r = 4 → r < fuel → Ev (f_R_standsAsAlways_L35 N fuel w (nI b) (nI k) tw) (fun q => ∀ i, (b + 3 + k ≤ i → i < b + 7 → q i = (-1)) ∧ ((i < b + 3 + k ∨ b + 7 ≤ i) → q i = tw i))
  | _, _, 0, _, _, h => absurd h (Nat.not_lt_zero _)
  | 0, k, fuel + 1, tw, hk, _ => by
    rw [f_R_standsAsAlways_L35]
    refine Ev.ifp (by rw [show k = 4 by omega]; decide) ?_
    exact Ev.ret fun i => ⟨fun h1 h2 => absurd h1 (by omega), fun _ => rfl⟩
  | r + 1, k, fuel + 1, tw, hk, hf => by
    rw [f_R_standsAsAlways_L35, show nI b + 3 = nI (b + 3) from nI_add b 3, nI_add, nI_clamp (n := b + 3 + k) (by omega), show nI k + 1 = nI (k + 1) from nI_1 k]
    refine Ev.ifn (ngF (L := 4) (b := 4) rfl (by omega) (by omega)) ?_
    refine Ev.ifn (fun q => q.elim (nI_pos (by omega)) (fun y => by omega)) ?_
    refine Ev.letE ?_
    refine (stands_law N hb r (k + 1) fuel _ (by omega) (by omega)).mono ?_
    intro q hq i
    refine ⟨fun h1 h2 => ?_, fun h1 => ?_⟩
    · by_cases e : i = b + 3 + k
      · rw [(hq i).2 (by omega), e, pk_us]
      · exact (hq i).1 (by omega) h2
    · rw [(hq i).2 (by omega), pk_un (by omega)]
theorem stands_ev {N : Nat} (hN : 10000 ≤ N) {w : VR} {b : Nat} (hb : b ≤ 80) : Ev (f_R_standsAsAlways N w (nI b)) (fun q => (∀ i, (i < b ∨ b + 80 ≤ i) → q i = R_towns w i) ∧ q (b + 2) = 50 ∧ (∀ k, k < 4 → q (b + 3 + k) = (-1)) ∧ ∀ i, i < 80 → ¬ i = 2 → ¬ (3 ≤ i ∧ i < 7) → q (b + i) = 0) := by
  unfold f_R_standsAsAlways
  refine Ev.bnx (stands_zero N hb 80 0 N (R_towns w) rfl (by omega)) ?_
  intro z hz
  rw [show nI b + 2 = nI (b + 2) from nI_add b 2, nI_clamp (n := b + 2) (by omega)]
  refine Ev.ifn (fun q => q.elim (nI_pos (by omega)) (fun y => by omega)) ?_
  refine Ev.letE ?_
  refine Ev.bnx (stands_law N hb 4 0 N (upd z (b + 2) 50) rfl (by omega)) ?_
  intro q hq
  refine Ev.ret ⟨fun i hi => ?_, ?_, fun k hk => (hq _).1 (by omega) (by omega), fun i h1 h2 h3 => ?_⟩
  · rw [(hq i).2 (by omega), pk_un (by omega), (hz i).2 (by omega)]
  · rw [(hq _).2 (by omega), pk_us]
  · rw [(hq _).2 (by omega), pk_un (by omega), (hz _).1 (by omega) (by omega)]
theorem copyT (N : Nat) {w : VR} : ∀ (r k fuel : Nat) (tw : Nat → Int32), k + r = 80 → r < fuel → Ev (f_R_town_L106 N fuel w (nI k) tw) (fun q => ∀ i, (k ≤ i → i < 80 → q i = tw (80 + i)) ∧ ((i < k ∨ 80 ≤ i) → q i = tw i))
  | _, _, 0, _, _, h => absurd h (Nat.not_lt_zero _)
  | 0, k, fuel + 1, tw, hk, _ => by
    rw [f_R_town_L106]
    refine Ev.ifp (by rw [show k = 80 by omega]; decide) ?_
    exact Ev.ret fun i => ⟨fun h1 h2 => absurd h1 (by omega), fun _ => rfl⟩
  | r + 1, k, fuel + 1, tw, hk, hf => by
    rw [f_R_town_L106, show (80 : Int32) + nI k = nI (80 + k) by rw [show (80 : Int32) = nI 80 from rfl, nI_add], nI_clamp (n := 80 + k) (by omega), nI_clamp (n := k) (by omega), show nI k + 1 = nI (k + 1) from nI_1 k]
    refine Ev.ifn (ngF (L := 80) (b := 80) rfl (by omega) (by omega)) ?_
    refine Ev.ifn (fun q => q.elim (nI_pos (by omega)) (fun y => by omega)) ?_
    refine Ev.ifn (fun q => q.elim (nI_pos (by omega)) (fun y => by omega)) ?_
    refine Ev.letE ?_
    refine (copyT N r (k + 1) fuel _ (by omega) (by omega)).mono ?_
    intro q hq i
    refine ⟨fun h1 h2 => ?_, fun h1 => ?_⟩
    · by_cases e : i = k
      · rw [(hq i).2 (by omega), e, pk_us]
      · rw [(hq i).1 (by omega) h2, pk_un (by omega)]
    · rw [(hq i).2 (by omega), pk_un (by omega)]
theorem copyE (N : Nat) {w : VR} {c : Nat} (hc : c < 1100) (hco : R_codes w = nI c) : ∀ (r k fuel : Nat) (op ar : Nat → Int32), k + r = c → r < fuel → Ev (f_R_town_L135 N fuel w (nI k) op ar) (fun q => ∀ i, (k ≤ i → i < c → q.1 i = op (1100 + i) ∧ q.2 i = ar (1100 + i)) ∧ ((i < k ∨ c ≤ i) → q.1 i = op i ∧ q.2 i = ar i))
  | _, _, 0, _, _, _, h => absurd h (Nat.not_lt_zero _)
  | 0, k, fuel + 1, op, ar, hk, _ => by
    rw [f_R_town_L135, hco]
    refine Ev.ifp (nI_le (by omega) (by omega)) ?_
    exact Ev.ret fun i => ⟨fun h1 h2 => absurd h1 (by omega), fun _ => ⟨rfl, rfl⟩⟩
  | r + 1, k, fuel + 1, op, ar, hk, hf => by
    rw [f_R_town_L135, hco, show (1100 : Int32) + nI k = nI (1100 + k) by rw [show (1100 : Int32) = nI 1100 from rfl, nI_add], nI_clamp (n := 1100 + k) (by omega), nI_clamp (n := k) (by omega), show nI k + 1 = nI (k + 1) from nI_1 k]
    refine Ev.ifn (nI_ge (by omega) (by omega)) ?_
    refine Ev.ifn (fun q => q.elim (nI_pos (by omega)) (fun y => by omega)) ?_
    refine Ev.ifn (fun q => q.elim (nI_pos (by omega)) (fun y => by omega)) ?_
    refine Ev.letE ?_
    refine Ev.ifn (fun q => q.elim (nI_pos (by omega)) (fun y => by omega)) ?_
    refine Ev.ifn (fun q => q.elim (nI_pos (by omega)) (fun y => by omega)) ?_
    refine Ev.letE ?_
    refine (copyE N hc hco r (k + 1) fuel _ _ (by omega) (by omega)).mono ?_
    intro q hq i
    refine ⟨fun h1 h2 => ?_, fun h1 => ?_⟩
    · by_cases e : i = k
      · rw [((hq i).2 (by omega)).1, ((hq i).2 (by omega)).2, e, pk_us, pk_us]
        exact ⟨rfl, rfl⟩
      · rw [((hq i).1 (by omega) h2).1, ((hq i).1 (by omega) h2).2, pk_un (by omega), pk_un (by omega)]
        exact ⟨rfl, rfl⟩
    · rw [((hq i).2 (by omega)).1, ((hq i).2 (by omega)).2, pk_un (by omega), pk_un (by omega)]
      exact ⟨rfl, rfl⟩
theorem copyN (N : Nat) {w : VR} {p : Nat} (hp : p ≤ 6) (hm : R_readMany w = nI p) : ∀ (r k fuel : Nat) (na : Nat → Int64), k + r = p → r < fuel → Ev (f_R_town_L183 N fuel w (nI k) na) (fun q => ∀ i, (k ≤ i → i < p → q i = R_readNames w i) ∧ (i < k → q i = na i))
  | _, _, 0, _, _, h => absurd h (Nat.not_lt_zero _)
  | 0, k, fuel + 1, na, hk, _ => by
    rw [f_R_town_L183, hm]
    refine Ev.ifp (nI_le (by omega) (by omega)) ?_
    exact Ev.ret fun i => ⟨fun h1 h2 => absurd h1 (by omega), fun _ => rfl⟩
  | r + 1, k, fuel + 1, na, hk, hf => by
    rw [f_R_town_L183, hm, nI_clamp (n := k) (by omega), show nI k + 1 = nI (k + 1) from nI_1 k]
    refine Ev.ifn (nI_ge (by omega) (by omega)) ?_
    refine Ev.ifn (fun q => q.elim (nI_pos (by omega)) (fun y => by omega)) ?_
    refine Ev.ifn (fun q => q.elim (nI_pos (by omega)) (fun y => by omega)) ?_
    refine Ev.letE ?_
    refine (copyN N hp hm r (k + 1) fuel _ (by omega) (by omega)).mono ?_
    intro q hq i
    refine ⟨fun h1 h2 => ?_, fun h1 => ?_⟩
    · by_cases e : i = k
      · rw [(hq i).2 (by omega), e, pk_uLs]
      · exact (hq i).1 (by omega) h2
    · rw [(hq i).2 (by omega), pk_uLn (by omega)]
/-- the old town, when only what lies behind it has changed -/
theorem townR.fr {w w' : VR} {v2 : VTown} {v3 : VLaws} {P g : Nat} (hT : townR w v2 v3 P) (hB : barR w v2 P) (hG : signR w v2 g) (h : FrD (R_towns w) (R_op w) (R_arg w) (R_towns w') (R_op w') (R_arg w')) (hs : R_signed w' = R_signed w) : townR w' v2 v3 P ∧ barR w' v2 P ∧ signR w' v2 g := by
  obtain ⟨f1, f2⟩ := h
  obtain ⟨t1, t2, t3, t4⟩ := hT
  have h6 := t1.2
  refine ⟨⟨t1, (f1 0 (by omega)).trans t2, fun l hl => ?_, fun k hk => ?_⟩, ⟨hB.1.trans (f1 1 (by omega)).symm, fun p l hp hl => ?_⟩, ⟨hG.1, hG.2.1, (f1 2 (by omega)).trans hG.2.2.1, hs.trans hG.2.2.2⟩⟩
  · rw [f1 _ (by omega), f1 _ (by omega), f1 _ (by omega), f1 _ (by omega), f1 _ (by omega)]
    exact t3 l hl
  · obtain ⟨a1, a2⟩ := t4 k hk
    refine ⟨a1, ?_⟩
    rcases a2 with ⟨b1, b2⟩ | ⟨f, t, s, b1, b2, b3, b4, b5, b6, b7, b8⟩
    · exact Or.inl ⟨b1, (f1 _ (by omega)).trans b2⟩
    · refine Or.inr ⟨f, t, s, b1, b2, b3, b4, (f1 _ (by omega)).trans b5, b6, fun j hj => ?_, (f2 _ (by omega)).1.trans b8⟩
      rw [(f2 (s + j) (by omega)).1, (f2 (s + j) (by omega)).2]
      exact b7 j hj
  · rw [f1 _ (by omega)]
    exact hB.2 p l hp hl
theorem cpyN {α : Type} (f g : Nat → α) {n l : Nat} (h : l < n) : va_cpy f g 0 0 n l = f l := by
  show (if 0 ≤ l ∧ l < 0 + n then f (0 + (l - 0)) else g l) = f l
  rw [if_pos ⟨Nat.zero_le _, by omega⟩]
  exact congrArg f (by omega)
