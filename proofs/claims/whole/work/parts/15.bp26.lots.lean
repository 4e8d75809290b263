/-! ===== all LOTS ===== -/
theorem nI_or (a b : Nat) : nI a ||| nI b = nI (a ||| b) := by
  apply Int32.toBitVec_inj.mp
  show (nI a).toBitVec ||| (nI b).toBitVec = (nI (a ||| b)).toBitVec
  have h : ∀ n : Nat, (nI n).toBitVec = BitVec.ofNat 32 n := fun n => by
    show (Int32.ofNat n).toBitVec = _
    rfl
  rw [h, h, h]
  exact (BitVec.ofNat_or).symm
theorem sh3 : ∀ k, k < 6 → (((3 * nI k) &&& 31 : Int32).toBitVec.smod 32).toNat = 3 * k := by decide
def valV (a : Nat → Nat) : Nat → Nat
  | 0 => 0
  | k + 1 => valV a k + a k * 8 ^ k
theorem valV_lt {a : Nat → Nat} : ∀ {k}, (∀ i, i < k → a i < 8) → valV a k < 8 ^ k
  | 0, _ => Nat.one_pos
  | k + 1, h => by
    have ih := valV_lt (a := a) (k := k) (fun i hi => h i (by omega))
    have h1 := h k (by omega)
    have h2 : a k * 8 ^ k ≤ 7 * 8 ^ k := Nat.mul_le_mul_right _ (by omega)
    rw [valV, Nat.pow_succ]
    omega
theorem valV_at {a : Nat → Nat} : ∀ {k}, (∀ i, i < k → a i < 8) → ∀ l, l < k → valV a k / 8 ^ l % 8 = a l
  | 0, _, l, hl => absurd hl (Nat.not_lt_zero _)
  | k + 1, h, l, hl => by
    have h0 : 0 < 8 ^ l := Nat.pow_pos (by decide)
    rw [valV]
    by_cases e : l = k
    · subst e
      have hv := valV_lt (a := a) (k := l) (fun i hi => h i (by omega))
      rw [Nat.add_mul_div_right _ _ h0, Nat.div_eq_of_lt hv, Nat.zero_add, Nat.mod_eq_of_lt (h l (by omega))]
    · have ih := valV_at (a := a) (k := k) (fun i hi => h i (by omega)) l (by omega)
      have e1 : a k * 8 ^ k = (a k * 8 ^ (k - 1 - l)) * 8 * 8 ^ l := by
        rw [Nat.mul_assoc, Nat.mul_assoc, ← Nat.pow_succ', ← Nat.pow_add]
        congr 2
        omega
      rw [e1, Nat.add_mul_div_right _ _ h0, Nat.add_mul_mod_self_right]
      exact ih
theorem or_val {v a k : Nat} (hk : k < 6) (hv : v < 8 ^ k) (ha : a < 8) : nI v ||| (nI a <<< ((3 * nI k) &&& 31)) = nI (v + a * 8 ^ k) := by
  have h8 : 2 ^ (3 * k) = 8 ^ k := by rw [Nat.pow_mul]
  have h6 : 8 ^ k ≤ 8 ^ 5 := Nat.pow_le_pow_right (by decide) (by omega)
  have hb : a * 8 ^ k ≤ 7 * 8 ^ 5 := Nat.mul_le_mul (by omega) h6
  have hc : (8 : Nat) ^ 5 = 32768 := by decide
  rw [pk_shlN (n := a) _ (3 * k) (sh3 k hk) (by rw [h8]; omega), nI_or, h8]
  congr 1
  rw [Nat.or_comm, Nat.mul_comm a, ← h8, ← Nat.two_pow_add_eq_or_of_lt (by rw [h8]; exact hv), Nat.add_comm]
theorem read_val {V l : Nat} (hl : l < 6) (hV : V < 2 ^ 31) : (nI V >>> ((3 * nI l) &&& 31)) &&& 7 = nI (V / 8 ^ l % 8) := by
  have h8 : 2 ^ (3 * l) = 8 ^ l := by rw [Nat.pow_mul]
  have h1 : V / 8 ^ l ≤ V := Nat.div_le_self _ _
  rw [pk_shrN hV _ (3 * l) (sh3 l hl), h8, pk_andN (by omega) 3 (by decide)]
def sumK (f : Nat → Nat) : Nat → Nat
  | 0 => 0
  | n + 1 => sumK f n + f n
theorem sumK_mono (f : Nat → Nat) {m : Nat} : ∀ {n}, m ≤ n → sumK f m ≤ sumK f n
  | 0, h => by rw [show m = 0 by omega]; exact Nat.le_refl _
  | n + 1, h => by
    by_cases e : m = n + 1
    · rw [e]; exact Nat.le_refl _
    · have := sumK_mono f (show m ≤ n by omega)
      rw [sumK]
      omega
theorem sumK_le {f h : Nat → Nat} : ∀ {n}, (∀ k, k < n → f k ≤ h k) → sumK f n ≤ sumK h n
  | 0, _ => Nat.le_refl _
  | n + 1, e => by
    have := sumK_le (n := n) (fun k hk => e k (by omega))
    have := e n (by omega)
    rw [sumK, sumK]
    omega
/-- how many LOTS go on from there -/
def lfN (ok : Nat → Nat → Bool) (P : Nat) : Nat → Nat → Nat → Nat
  | 0, _, _ => 1
  | r + 1, l, T => sumK (fun p => if (! T.testBit p && ok p l) = true then lfN ok P r (l + 1) (T ||| 2 ^ p) else 0) P
theorem lfN_le {ok ok' : Nat → Nat → Bool} {P : Nat} (h : ∀ p l, ok p l = true → ok' p l = true) : ∀ (r l T : Nat), lfN ok P r l T ≤ lfN ok' P r l T
  | 0, _, _ => Nat.le_refl _
  | r + 1, l, T => by
    rw [lfN, lfN]
    refine sumK_le (fun p hp => ?_)
    by_cases c : (! T.testBit p && ok p l) = true
    · rw [if_pos c]
      rw [Bool.and_eq_true] at c
      rw [if_pos (by rw [Bool.and_eq_true]; exact ⟨c.1, h p l c.2⟩)]
      exact lfN_le h r (l + 1) _
    · rw [if_neg c]
      exact Nat.zero_le _
theorem lf265 : ∀ P, P < 7 → lfN (fun p l => ! Nat.beq p l) P P 0 0 ≤ 265 := by decide +kernel
def LInv (P : Nat) (sel lr : Nat → Int32) (c : Nat) : Prop := ∀ k, k < c → selfOk P (fun i => sel (k * 6 + i)) ∧ (∀ l m, l < P → m < P → sel (k * 6 + l) = sel (k * 6 + m) → l = m) ∧ (∀ l, l < P → (lr k >>> ((3 * nI l) &&& 31)) &&& 7 = sel (k * 6 + l))
def RowP (P l T : Nat) (row lrow : Nat → Int32) : Prop := ∀ i, i < l → ∃ a, a < P ∧ row i = nI a ∧ lrow i = nI a ∧ T.testBit a = true ∧ ∀ j, j < i → ¬ row j = nI a
abbrev GL : Type := VLots → VTown → VLaws → Int32 → Int32 → Option (Int32 × (Nat → Int32) × (Nat → Int32))
abbrev HL : Type := VR → Int32 → Int32 → Option ((Nat → Int32) × (Nat → Int32) × Int32)
def okL (N : Nat) (v2 : VTown) (v3 : VLaws) (p l : Nat) : Bool := decide (f_Town_allows N v2 v3 (nI p) (nI l) = some 1)
def LStep (G : GL) (H : HL) (N : Nat) (v2 : VTown) (v3 : VLaws) (P l : Nat) : Prop := ∀ (T c : Nat) (v : VLots) (w : VR), T < 64 → townR w v2 v3 P → barR w v2 P → Lots_people v = nI P → Lots_count v = nI c → R_lotsMany w = nI c → c + lfN (okL N v2 v3) P (P - l) l T ≤ 265 → LInv P (Lots_selves v) (R_lotRows w) c → RowP P l T (Lots_row v) (R_lotRow w) → Ev (G v v2 v3 (nI l) (nI T)) (fun a => Ev (H w (nI l) (nI T)) (fun b => a.1 = nI (c + lfN (okL N v2 v3) P (P - l) l T) ∧ b.2.2 = nI (c + lfN (okL N v2 v3) P (P - l) l T) ∧ LInv P a.2.1 b.1 (c + lfN (okL N v2 v3) P (P - l) l T) ∧ ∀ i, i < l → a.2.2 i = Lots_row v i ∧ b.2.1 i = R_lotRow w i))
theorem lot_pack {N : Nat} {rr : HL} {w : VR} {P c : Nat} {a : Nat → Nat} (hP : P ≤ 6) (hc : c < 265) (hm : R_lotsMany w = nI c) (ha : ∀ i, i < P → a i < 8 ∧ R_lotRow w i = nI (a i)) : ∀ (r k fuel : Nat) (lr : Nat → Int32), k + r = P → r < fuel → lr c = nI (valV a k) → Ev (f_R_lotsFrom_L20 rr N fuel w (nI P) (nI k) lr) (fun q => q c = nI (valV a P) ∧ ∀ j, ¬ j = c → q j = lr j)
  | _, _, 0, _, _, h, _ => absurd h (Nat.not_lt_zero _)
  | 0, k, fuel + 1, lr, hk, hf, hv => by
    have hk : k = P := hk
    subst hk
    rw [f_R_lotsFrom_L20]
    refine Ev.ifp (nI_le (by omega) (by omega)) ?_
    exact Ev.ret ⟨hv, fun _ _ => rfl⟩
  | r + 1, k, fuel + 1, lr, hk, hf, hv => by
    have ic : ¬ (nI c < 0 ∨ 265 ≤ c) := fun y => y.elim (nI_pos (by omega)) (fun z => by omega)
    obtain ⟨a1, a2⟩ := ha k (by omega)
    rw [f_R_lotsFrom_L20, hm, nI_clamp (n := c) (by omega), nI_clamp (n := k) (by omega), hv, a2, show nI k + 1 = nI (k + 1) from nI_1 k]
    refine Ev.ifn (nI_ge (by omega) (by omega)) ?_
    refine Ev.ifn ic ?_
    refine Ev.ifn (fun x => x.elim (nI_pos (by omega)) (fun y => by omega)) ?_
    refine Ev.ifn ic ?_
    refine Ev.letE ?_
    rw [or_val (by omega) (valV_lt (fun i hi => (ha i (by omega)).1)) a1]
    refine (lot_pack hP hc hm ha r (k + 1) fuel _ (by omega) (by omega) pk_us).mono ?_
    rintro q ⟨q1, q2⟩
    exact ⟨q1, fun j hj => by rw [q2 j hj, pk_un hj]⟩
theorem lot_leaf {N : Nat} (hN : 10000 ≤ N) {G : GL} {H : HL} {v2 : VTown} {v3 : VLaws} {P : Nat} : LStep (f_Lots_fill_b G N) (f_R_lotsFrom_b H N) N v2 v3 P P := by
  intro T c v w hT64 hT hB hpe hcc hcm hbud hinv hrow
  have h6 := hT.1.2
  have hl1 : lfN (okL N v2 v3) P 0 P T = 1 := rfl
  rw [Nat.sub_self, hl1] at hbud ⊢
  have hz : zcpyD 0 (nI (c * 6)) 6 6 1590 = true := by
    simp only [zcpyD, Bool.and_eq_true, decide_eq_true_eq]
    refine ⟨⟨⟨⟨by decide, nI_pos (by omega)⟩, by decide⟩, by decide⟩, ?_⟩
    rw [nI_clamp (by omega)]
    show c * 6 + 6 ≤ 1590
    omega
  have hkeep : f_Lots_keepRow N v = some (nI (c + 1), va_cpy (Lots_row v) (Lots_selves v) 0 (c * 6) 6) := by
    unfold f_Lots_keepRow
    rw [hcc, show nI c * 6 = nI (c * 6) from pk_mul c 6, nI_clamp (n := c * 6) (by omega), show nI c + 1 = nI (c + 1) from nI_1 c]
    refine zifn (nI_pos (by omega)) ?_
    refine zifn (nI_ge (b := 265) (by omega) (by decide)) ?_
    refine zifp hz ?_
    rfl
  unfold f_Lots_fill_b
  refine Ev.ifn (nI_pos (by omega)) ?_
  refine Ev.ifp (by rw [hpe]; exact nI_le (by omega) (by omega)) ?_
  refine Ev.bnd hkeep ?_
  refine Ev.ret ?_
  unfold f_R_lotsFrom_b
  rw [hcm, nI_clamp (n := c) (by omega), show nI c + 1 = nI (c + 1) from nI_1 c]
  refine Ev.bnd (people_ok hT) ?_
  refine Ev.ifp rfl ?_
  refine Ev.ifn (fun y => y.elim (nI_pos (by omega)) (fun z => by omega)) ?_
  refine Ev.letE ?_
  obtain ⟨a, ha⟩ : ∃ a : Nat → Nat, ∀ i, i < P → a i < 8 ∧ R_lotRow w i = nI (a i) := ⟨fun i => (R_lotRow w i).toNatClampNeg, fun i hi => by
    obtain ⟨x, x1, -, x3, -⟩ := hrow i hi
    show (R_lotRow w i).toNatClampNeg < 8 ∧ R_lotRow w i = nI (R_lotRow w i).toNatClampNeg
    rw [x3, nI_clamp (by omega)]
    exact ⟨by omega, rfl⟩⟩
  obtain ⟨q, e, q1, q2⟩ := lot_pack (N := N) (rr := H) (w := R_lotRows_s w (upd (R_lotRows w) c 0)) h6 (by omega) hcm ha P 0 N (upd (R_lotRows w) c 0) (by omega) (by omega) pk_us
  have e : f_R_lotsFrom_L20 H N N (R_lotRows_s w (upd (R_lotRows w) c 0)) (nI P) 0 (upd (R_lotRows w) c 0) = some q := e
  refine Ev.bnd e ?_
  refine Ev.ret ⟨rfl, rfl, ?_, fun i _ => ⟨rfl, rfl⟩⟩
  show LInv P (va_cpy (Lots_row v) (Lots_selves v) 0 (c * 6) 6) q (c + 1)
  have hin : ∀ i, i < 6 → va_cpy (Lots_row v) (Lots_selves v) 0 (c * 6) 6 (c * 6 + i) = Lots_row v i := fun i hi => by
    rw [pk_cpy_in (by omega) (by omega), show 0 + (c * 6 + i - c * 6) = i by omega]
  have hout : ∀ k i, k < c → i < 6 → va_cpy (Lots_row v) (Lots_selves v) 0 (c * 6) 6 (k * 6 + i) = Lots_selves v (k * 6 + i) := fun k i hk hi => pk_cpy_out (by omega)
  intro k hk
  by_cases ek : k = c
  · subst ek
    refine ⟨fun i hi => ?_, fun l m hl hm he => ?_, fun l hl => ?_⟩
    · obtain ⟨x, x1, x2, -⟩ := hrow i hi
      exact ⟨x, x1, (hin i (by omega)).trans x2⟩
    · rw [hin l (by omega), hin m (by omega)] at he
      obtain ⟨x, x1, x2, -, -, x3⟩ := hrow l hl
      obtain ⟨y, y1, y2, -, -, y3⟩ := hrow m hm
      refine Classical.byContradiction fun hne => ?_
      by_cases hlt : l < m
      · exact y3 l hlt (he.trans y2)
      · exact x3 m (by omega) (he.symm.trans x2)
    · obtain ⟨x, x1, x2, x3, -⟩ := hrow l hl
      have hv := valV_lt (a := a) (k := P) (fun i hi => (ha i hi).1)
      have h8 : 8 ^ P ≤ 8 ^ 6 := Nat.pow_le_pow_right (by decide) h6
      have h86 : (8 : Nat) ^ 6 = 262144 := by decide
      rw [hin l (by omega), q1, read_val (by omega) (by omega), valV_at (fun i hi => (ha i hi).1) l hl, ← (ha l hl).2, x2, x3]
  · obtain ⟨g1, g2, g3⟩ := hinv k (by omega)
    refine ⟨fun i hi => ?_, fun l m hl hm he => ?_, fun l hl => ?_⟩
    · obtain ⟨x, x1, x2⟩ := g1 i hi
      exact ⟨x, x1, (hout k i (by omega) (by omega)).trans x2⟩
    · rw [hout k l (by omega) (by omega), hout k m (by omega) (by omega)] at he
      exact g2 l m hl hm he
    · rw [hout k l (by omega) (by omega), q2 k ek, pk_un ek]
      exact g3 l hl
theorem lot_loop {N : Nat} {G : GL} {H : HL} {v2 : VTown} {v3 : VLaws} {P l T c : Nat} {v : VLots} {w : VR} (ih : LStep G H N v2 v3 P (l + 1)) (hl : l < P) (hT64 : T < 64) (hT : townR w v2 v3 P) (hB : barR w v2 P) (hpe : Lots_people v = nI P) (hbud : c + sumK (fun p => if (! T.testBit p && okL N v2 v3 p l) = true then lfN (okL N v2 v3) P (P - (l + 1)) (l + 1) (T ||| 2 ^ p) else 0) P ≤ 265) : ∀ (r x fuel : Nat) (sel row lr lrow : Nat → Int32), x + r = P → r < fuel → LInv P sel lr (c + sumK (fun p => if (! T.testBit p && okL N v2 v3 p l) = true then lfN (okL N v2 v3) P (P - (l + 1)) (l + 1) (T ||| 2 ^ p) else 0) x) → RowP P l T row lrow → Ev (f_Lots_fill_L26 G N fuel v v2 v3 (nI l) (nI T) (nI x) (nI (c + sumK (fun p => if (! T.testBit p && okL N v2 v3 p l) = true then lfN (okL N v2 v3) P (P - (l + 1)) (l + 1) (T ||| 2 ^ p) else 0) x)) sel row) (fun a => Ev (f_R_lotsFrom_L66 H N fuel w (nI l) (nI T) (nI x) lr lrow (nI (c + sumK (fun p => if (! T.testBit p && okL N v2 v3 p l) = true then lfN (okL N v2 v3) P (P - (l + 1)) (l + 1) (T ||| 2 ^ p) else 0) x))) (fun b => a.1 = nI (c + sumK (fun p => if (! T.testBit p && okL N v2 v3 p l) = true then lfN (okL N v2 v3) P (P - (l + 1)) (l + 1) (T ||| 2 ^ p) else 0) P) ∧ b.2.2 = nI (c + sumK (fun p => if (! T.testBit p && okL N v2 v3 p l) = true then lfN (okL N v2 v3) P (P - (l + 1)) (l + 1) (T ||| 2 ^ p) else 0) P) ∧ LInv P a.2.1 b.1 (c + sumK (fun p => if (! T.testBit p && okL N v2 v3 p l) = true then lfN (okL N v2 v3) P (P - (l + 1)) (l + 1) (T ||| 2 ^ p) else 0) P) ∧ ∀ i, i < l → a.2.2 i = row i ∧ b.2.1 i = lrow i)) := by
  generalize hf : (fun p => if (! T.testBit p && okL N v2 v3 p l) = true then lfN (okL N v2 v3) P (P - (l + 1)) (l + 1) (T ||| 2 ^ p) else 0) = f at hbud ⊢
  have h6 := hT.1.2
  intro r
  induction r with
  | zero =>
    intro x fuel sel row lr lrow hk hfu hinv hrow
    obtain ⟨fuel, rfl⟩ : ∃ m, fuel = m + 1 := ⟨fuel - 1, by omega⟩
    have hk : x = P := hk
    subst hk
    rw [f_Lots_fill_L26, f_R_lotsFrom_L66, hpe]
    refine Ev.ifp (nI_le (by omega) (by omega)) ?_
    refine Ev.ret ?_
    refine Ev.bnd (people_ok (w := R_s_lotRows_lotRow_lotsMany w lr lrow (nI (c + sumK f x))) hT) ?_
    refine Ev.ifp (nI_le (by omega) (by omega)) ?_
    exact Ev.ret ⟨rfl, rfl, hinv, fun _ _ => ⟨rfl, rfl⟩⟩
  | succ r ihr =>
    intro x fuel sel row lr lrow hk hfu hinv hrow
    obtain ⟨fuel, rfl⟩ : ∃ m, fuel = m + 1 := ⟨fuel - 1, by omega⟩
    have hxP : x < P := by omega
    have htx := bit6 T hT64 x (by omega)
    have hm1 := sumK_mono f (show x + 1 ≤ P by omega)
    have hfx : f x = if (! T.testBit x && okL N v2 v3 x l) = true then lfN (okL N v2 v3) P (P - (l + 1)) (l + 1) (T ||| 2 ^ x) else 0 := by rw [← hf]
    have hs1 : sumK f (x + 1) = sumK f x + f x := rfl
    rw [f_Lots_fill_L26, f_R_lotsFrom_L66, hpe, show nI x + 1 = nI (x + 1) from nI_1 x]
    refine Ev.ifn (nI_ge (by omega) (by omega)) ?_
    by_cases c1 : T.testBit x = true
    · have hz : f x = 0 := by rw [hfx, c1]; rfl
      have e0 : sumK f x = sumK f (x + 1) := by rw [hs1, hz]; rfl
      refine Ev.ifn (fun q => by have := htx.mp q; rw [c1] at this; exact absurd this (by decide)) ?_
      rw [e0] at hinv ⊢
      refine (ihr (x + 1) fuel sel row lr lrow (by omega) (by omega) hinv hrow).mono ?_
      intro a ha
      refine Ev.bnd (people_ok (w := R_s_lotRows_lotRow_lotsMany w lr lrow (nI (c + sumK f (x + 1)))) hT) ?_
      refine Ev.ifn (nI_ge (by omega) (by omega)) ?_
      refine Ev.ifn (fun q => by have := htx.mp q; rw [c1] at this; exact absurd this (by decide)) ?_
      exact ha
    · have c2 : T.testBit x = false := Bool.eq_false_iff.mpr c1
      obtain ⟨rr, r1, r2, r3⟩ := mayBe_ok (N := N) (v3 := v3) (w := R_s_lotRows_lotRow_lotsMany w lr lrow (nI (c + sumK f x))) hT hB hxP hl
      refine Ev.ifp (htx.mpr c2) ?_
      refine Ev.bnd r2 ?_
      rcases r3 with rfl | rfl
      · have hok : okL N v2 v3 x l = false := decide_eq_false (by rw [r2]; decide)
        have hz : f x = 0 := by rw [hfx, hok, Bool.and_false]; rfl
        have e0 : sumK f x = sumK f (x + 1) := by rw [hs1, hz]; rfl
        refine Ev.ifp rfl ?_
        rw [e0] at hinv r1 ⊢
        refine (ihr (x + 1) fuel sel row lr lrow (by omega) (by omega) hinv hrow).mono ?_
        intro a ha
        refine Ev.bnd (people_ok (w := R_s_lotRows_lotRow_lotsMany w lr lrow (nI (c + sumK f (x + 1)))) hT) ?_
        refine Ev.ifn (nI_ge (by omega) (by omega)) ?_
        refine Ev.ifp (htx.mpr c2) ?_
        refine Ev.bnd r1 ?_
        refine Ev.ifp rfl ?_
        exact ha
      · have hok : okL N v2 v3 x l = true := decide_eq_true r2
        have hy : f x = lfN (okL N v2 v3) P (P - (l + 1)) (l + 1) (T ||| 2 ^ x) := by rw [hfx, hok, c2]; rfl
        have il : ¬ (nI l < 0 ∨ 6 ≤ l) := fun y => y.elim (nI_pos (by omega)) (fun z => by omega)
        obtain ⟨o1, o2⟩ := or6 T hT64 x (by omega)
        refine Ev.ifn (by decide) ?_
        rw [nI_clamp (n := l) (by omega), o1, show nI l + 1 = nI (l + 1) from nI_1 l]
        refine Ev.ifn il ?_
        obtain ⟨a, e1, b, e2, d1, d2, d3, d4⟩ := ih (T ||| 2 ^ x) (c + sumK f x) (Lots_s_count_selves_row v (nI (c + sumK f x)) sel (upd row l (nI x))) (R_s_lotRows_lotRow_lotsMany w lr (upd lrow l (nI x)) (nI (c + sumK f x))) o2 hT hB hpe rfl rfl (by rw [← hy]; omega) hinv (fun i hi => by
          show ∃ a, a < P ∧ upd row l (nI x) i = nI a ∧ upd lrow l (nI x) i = nI a ∧ (T ||| 2 ^ x).testBit a = true ∧ ∀ j, j < i → ¬ upd row l (nI x) j = nI a
          by_cases e : i = l
          · subst e
            refine ⟨x, hxP, pk_us, pk_us, ?_, fun j hj hh => ?_⟩
            · rw [orb6 T hT64 x (by omega) x (by omega), decide_eq_true (rfl : x = x), Bool.or_true]
            · rw [pk_un (by omega)] at hh
              obtain ⟨y, y1, y2, -, y4, -⟩ := hrow j hj
              rw [y2] at hh
              have := (nI_eq (by omega) (by omega)).mp hh
              subst this
              rw [c2] at y4
              exact absurd y4 (by decide)
          · obtain ⟨y, y1, y2, y3, y4, y5⟩ := hrow i (by omega)
            refine ⟨y, y1, by rw [pk_un e]; exact y2, by rw [pk_un e]; exact y3, ?_, fun j hj => ?_⟩
            · rw [orb6 T hT64 x (by omega) y (by omega), y4]; rfl
            · rw [pk_un (by omega)]; exact y5 j hj)
        rw [← hy, Nat.add_assoc, ← hs1] at d1 d2 d3
        refine Ev.bnd e1 ?_
        rw [d1]
        have d4 : ∀ i, i < l + 1 → a.2.2 i = upd row l (nI x) i ∧ b.2.1 i = upd lrow l (nI x) i := d4
        have hrow2 : RowP P l T a.2.2 b.2.1 := fun i hi => by
          obtain ⟨y, y1, y2, y3, y4, y5⟩ := hrow i hi
          obtain ⟨z1, z2⟩ := d4 i (by omega)
          rw [pk_un (by omega)] at z1 z2
          refine ⟨y, y1, z1.trans y2, z2.trans y3, y4, fun j hj => ?_⟩
          obtain ⟨z3, -⟩ := d4 j (by omega)
          rw [pk_un (by omega)] at z3
          rw [z3]
          exact y5 j hj
        refine (ihr (x + 1) fuel a.2.1 a.2.2 b.1 b.2.1 (by omega) (by omega) d3 hrow2).mono ?_
        rintro a' ⟨b', f1, f2, f3, f4, f5⟩
        refine Ev.bnd (people_ok (w := R_s_lotRows_lotRow_lotsMany w lr lrow (nI (c + sumK f x))) hT) ?_
        refine Ev.ifn (nI_ge (by omega) (by omega)) ?_
        refine Ev.ifp (htx.mpr c2) ?_
        refine Ev.bnd r1 ?_
        refine Ev.ifn (by decide) ?_
        refine Ev.ifn il ?_
        refine Ev.letE ?_
        refine Ev.bnd e2 ?_
        rw [d2]
        refine Ev.of f1 ⟨f2, f3, f4, fun i hi => ?_⟩
        obtain ⟨z1, z2⟩ := d4 i (by omega)
        rw [pk_un (by omega)] at z1 z2
        obtain ⟨z3, z4⟩ := f5 i hi
        exact ⟨z3.trans z1, z4.trans z2⟩
theorem lot_step {N : Nat} (hN : 10000 ≤ N) {G : GL} {H : HL} {v2 : VTown} {v3 : VLaws} {P l : Nat} (ih : LStep G H N v2 v3 P (l + 1)) (hl : l < P) : LStep (f_Lots_fill_b G N) (f_R_lotsFrom_b H N) N v2 v3 P l := by
  intro T c v w hT64 hT hB hpe hcc hcm hbud hinv hrow
  have h6 := hT.1.2
  have e0 : lfN (okL N v2 v3) P (P - l) l T = sumK (fun p => if (! T.testBit p && okL N v2 v3 p l) = true then lfN (okL N v2 v3) P (P - (l + 1)) (l + 1) (T ||| 2 ^ p) else 0) P := by
    rw [show P - l = (P - (l + 1)) + 1 by omega, lfN]
  rw [e0] at hbud ⊢
  obtain ⟨a, e1, b, e2, d1, d2, d3, d4⟩ := lot_loop ih hl hT64 hT hB hpe hbud P 0 N (Lots_selves v) (Lots_row v) (R_lotRows w) (R_lotRow w) (by omega) (by omega) hinv hrow
  have e1 : f_Lots_fill_L26 G N N v v2 v3 (nI l) (nI T) 0 (nI c) (Lots_selves v) (Lots_row v) = some a := e1
  have e2 : f_R_lotsFrom_L66 H N N w (nI l) (nI T) 0 (R_lotRows w) (R_lotRow w) (nI c) = some b := e2
  unfold f_Lots_fill_b
  rw [hcc]
  refine Ev.ifn (nI_pos (by omega)) ?_
  refine Ev.ifn (by rw [hpe]; exact nI_ge hl (by omega)) ?_
  refine Ev.ifp (nI_lt (b := 6) (by omega) (by decide)) ?_
  refine Ev.bnd e1 ?_
  refine Ev.ret ?_
  unfold f_R_lotsFrom_b
  rw [hcm]
  refine Ev.bnd (people_ok hT) ?_
  refine Ev.ifn (fun q => by have := (nI_eq (by omega) (by omega)).mp q; omega) ?_
  refine Ev.bnd e2 ?_
  exact Ev.ret ⟨d1, d2, d3, d4⟩
theorem lot_all {N : Nat} (hN : 10000 ≤ N) {v2 : VTown} {v3 : VLaws} {P : Nat} : ∀ (r l e : Nat), l + r = P → LStep (g_Lots_fill N (r + 1 + e)) (g_R_lotsFrom N (r + 1 + e)) N v2 v3 P l
  | 0, l, e, h => by
    have h : l = P := h
    subst h
    rw [show 0 + 1 + e = e + 1 by omega, g_Lots_fill, g_R_lotsFrom]
    exact lot_leaf hN
  | r + 1, l, e, h => by
    rw [show r + 1 + 1 + e = (r + 1 + e) + 1 by omega, g_Lots_fill, g_R_lotsFrom]
    exact lot_step hN (lot_all hN r (l + 1) e (by omega)) (by omega)
/-- both write down all LOTS -/
theorem lots_both {N : Nat} (hN : 10000 ≤ N) {v9 : VLots} {v2 : VTown} {v3 : VLaws} {w : VR} {P : Nat} (hT : townR w v2 v3 P) (hB : barR w v2 P) : Ev (f_Lots_findAll N v9 v2 v3) (fun a => Ev (f_R_findLots N w) (fun b => ∃ L, lotsR (R_s_lotRows_lotRow_lotsMany w b.1 b.2.1 b.2.2) (a.1, a.2.1, a.2.2.1, a.2.2.2) P L)) := by
  have h6 := hT.1.2
  unfold f_Lots_findAll
  rw [hT.1.1]
  by_cases hz : P = 0
  · subst hz
    refine Ev.ifp (by decide) ?_
    refine Ev.ret ?_
    unfold f_R_findLots
    refine Ev.bnd (people_ok (w := R_lotsMany_s w 0) hT) ?_
    refine Ev.ifp (by decide) ?_
    exact Ev.ret ⟨0, rfl, rfl, by omega, fun k hk => absurd hk (Nat.not_lt_zero _)⟩
  · have h0 : 0 < P := by omega
    have hle : lfN (okL N v2 v3) P P 0 0 ≤ 265 := Nat.le_trans (lfN_le (fun p l h => by
      show (! Nat.beq p l) = true
      cases hb : Nat.beq p l with
      | false => rfl
      | true =>
        exfalso
        have e := Nat.eq_of_beq_eq_true hb
        subst e
        have h := of_decide_eq_true h
        unfold f_Town_allows at h
        have : ∀ x : Int32, (x = 0 ∨ ∃ y : Int32, True) := fun x => Or.inr ⟨0, trivial⟩
        revert h
        cases f_Town_has N v2 v3 (nI p) with
        | none => intro h; exact absurd h (by simp)
        | some q =>
          intro h
          simp only [Option.bind_some] at h
          by_cases c : q = 0
          · rw [if_pos c] at h; exact absurd h (by decide)
          · rw [if_neg c, if_neg c] at h
            simp only [if_true, ite_true] at h
            exact absurd h (by decide)) P 0 0) (lf265 P (by omega))
    have st := lot_all hN (v2 := v2) (v3 := v3) (P := P) P 0 (63 - P) (by omega)
    rw [show P + 1 + (63 - P) = 64 by omega] at st
    obtain ⟨a, e1, b, e2, d1, d2, d3, -⟩ := st 0 0 (Lots_s_people_count v9 (nI P) 0) (R_lotsMany_s w 0) (by decide) hT hB rfl rfl rfl (by rw [Nat.sub_zero, Nat.zero_add]; exact hle) (fun k hk => absurd hk (Nat.not_lt_zero _)) (fun i hi => absurd hi (Nat.not_lt_zero _))
    have e1 : f_Lots_fill 64 N (Lots_s_people_count v9 (nI P) 0) v2 v3 0 0 = some a := e1
    have e2 : f_R_lotsFrom 64 N (R_lotsMany_s w 0) 0 0 = some b := e2
    rw [Nat.zero_add, Nat.sub_zero] at d1 d2 d3
    refine Ev.ifn (nI_nle h0 (by omega)) ?_
    refine Ev.bnd e1 ?_
    refine Ev.ret ?_
    unfold f_R_findLots
    refine Ev.bnd (people_ok (w := R_lotsMany_s w 0) hT) ?_
    refine Ev.ifn (nI_nle h0 (by omega)) ?_
    refine Ev.bnd e2 ?_
    exact Ev.ret ⟨lfN (okL N v2 v3) P P 0 0, d2, d1, hle, d3⟩
