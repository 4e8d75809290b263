/-! ===== words, numbers, signs ===== -/
def cls (c : Nat) : Nat := if c = 10 ∨ c = 32 then 0 else if 97 ≤ c ∧ c ≤ 122 then 1 else if 48 ≤ c ∧ c ≤ 57 then 2 else 3
theorem sortOf_c0 : ∀ c, c < 127 → f_Tape_sortOf 0 (nI c) = some (nI (cls c)) := by decide +kernel
theorem sortOf_c {N c : Nat} (h : c < 127) : f_Tape_sortOf N (nI c) = some (nI (cls c)) := sortOf_c0 c h
theorem letter_c0 : ∀ c, c < 127 → f_R_isLetter 0 (nI c) = some (if cls c = 1 then 1 else 0) := by decide +kernel
theorem letter_c {N c : Nat} (h : c < 127) : f_R_isLetter N (nI c) = some (if cls c = 1 then 1 else 0) := letter_c0 c h
theorem digit_c0 : ∀ c, c < 127 → f_R_isDigit 0 (nI c) = some (if cls c = 2 then 1 else 0) := by decide +kernel
theorem digit_c {N c : Nat} (h : c < 127) : f_R_isDigit N (nI c) = some (if cls c = 2 then 1 else 0) := digit_c0 c h
theorem rank_c0 : ∀ c, c < 127 → cls c = 1 → f_R_rank 0 (nI c) = some (nI (c - 96)) := by decide +kernel
theorem rank_c {N c : Nat} (h : c < 127) (h2 : cls c = 1) : f_R_rank N (nI c) = some (nI (c - 96)) := rank_c0 c h h2
def isSg (c : Nat) : Bool := Nat.beq c 40 || Nat.beq c 41 || Nat.beq c 59 || Nat.beq c 61 || Nat.beq c 60 || Nat.beq c 43 || Nat.beq c 45 || Nat.beq c 42
theorem sign_c0 : ∀ c, c < 127 → f_R_isSignOf 0 (nI c) = some (if isSg c = true then 1 else 0) ∧ (zidx (nI c) < 0 ↔ isSg c = false) := by decide +kernel
theorem sign_c {N c : Nat} (h : c < 127) : f_R_isSignOf N (nI c) = some (if isSg c = true then 1 else 0) ∧ (zidx (nI c) < 0 ↔ isSg c = false) := sign_c0 c h
theorem cls_1 {c : Nat} (h : cls c = 1) : 97 ≤ c ∧ c ≤ 122 := by
  unfold cls at h
  split at h
  · omega
  · split at h
    · assumption
    · split at h <;> omega
theorem cls_2 {c : Nat} (h : cls c = 2) : 48 ≤ c ∧ c ≤ 57 := by
  unfold cls at h
  split at h
  · omega
  · split at h
    · omega
    · split at h
      · assumption
      · omega
theorem cls_0 {c : Nat} (h : cls c = 0) : c = 10 ∨ c = 32 := by
  unfold cls at h
  split at h
  · assumption
  · split at h
    · omega
    · split at h <;> omega
theorem cls_le (c : Nat) : cls c ≤ 3 := by
  unfold cls
  split
  · omega
  · split
    · omega
    · split <;> omega
theorem cls_n0 {c : Nat} (h : ¬ cls c = 0) : ¬ c = 10 ∧ ¬ c = 32 := by
  unfold cls at h
  by_cases e : c = 10 ∨ c = 32
  · rw [if_pos e] at h; exact absurd rfl h
  · exact not_or.mp e
def zKW : List (List Nat) := [[16, 5, 18, 19, 15, 14], [19, 11, 9, 12, 12], [16, 21, 18, 19, 5], [4, 5, 2, 20], [8, 15, 13, 5], [2, 1, 18], [19, 9, 7, 14], [19, 16, 5, 14, 4, 19], [13, 5, 14, 4, 19], [7, 15, 15, 4], [23, 9, 19, 8], [8, 9, 4, 5], [12, 15, 20], [19, 23, 1, 16], [4, 1, 25], [16, 12, 1, 9, 14], [13, 9, 19, 5, 18], [20, 8, 9, 5, 6], [13, 1, 25, 15, 18], [14, 15, 20], [1, 14, 4], [15, 18], [13, 15, 14, 5, 25], [15, 23, 5, 4], [14, 5, 1, 20], [1, 2, 12, 5], [20, 18, 1, 4, 5]]
theorem zKW_len : ∀ w, w < 27 → (zKW.getD w []).length ≤ 8 := by decide +kernel
theorem zKW_dig : ∀ w, w < 27 → ∀ d, d ∈ zKW.getD w [] → 1 ≤ d ∧ d ≤ 26 := by decide +kernel
theorem zKW_37 : ∀ w, w < 27 → zWords.getD w 0 = nB 37 (zKW.getD w []) 0 := by decide +kernel
theorem zKW_ne : ∀ i, i < 27 → ∀ j, j < 27 → zKW.getD i [] = zKW.getD j [] → i = j := by decide +kernel
def padW (ls : List Nat) (i : Nat) : Nat := match ls[i]? with
  | some d => 96 + d
  | none => 32
theorem zsch_c : ∀ w, w < 27 → ∀ i, i < 8 → zsch 1 (nI (8 * w + i)) = nI (padW (zKW.getD w []) i) := by decide +kernel
theorem pad_inj {a b : List Nat} (ha : a.length ≤ 8) (hb : b.length ≤ 8) (h : ∀ i, i < 8 → padW a i = padW b i) : a = b := by
  apply List.ext_getElem?
  intro i
  by_cases c : i < 8
  · have := h i c
    unfold padW at this
    cases h1 : a[i]? with
    | none =>
      cases h2 : b[i]? with
      | none => rfl
      | some y => rw [h1, h2] at this; simp only at this; omega
    | some x =>
      cases h2 : b[i]? with
      | none => rw [h1, h2] at this; simp only at this; omega
      | some y =>
        rw [h1, h2] at this
        simp only at this
        congr 1
        omega
  · rw [List.getElem?_eq_none (by omega), List.getElem?_eq_none (by omega)]
def kwN (ls : List Nat) : Nat → Int32
  | 0 => 1
  | k + 1 => if zKW.getD k [] = ls then nI (128 + k) else kwN ls k
def kwOf (ls : List Nat) : Int32 := kwN ls 27
theorem kwN_rng (ls : List Nat) : ∀ k, k ≤ 27 → (kwN ls k = 1 ∧ ∀ j, j < k → ¬ zKW.getD j [] = ls) ∨ ∃ j, j < k ∧ kwN ls k = nI (128 + j) ∧ zKW.getD j [] = ls
  | 0, _ => Or.inl ⟨rfl, fun j hj => absurd hj (Nat.not_lt_zero _)⟩
  | k + 1, hk => by
    rw [kwN]
    by_cases c : zKW.getD k [] = ls
    · rw [if_pos c]
      exact Or.inr ⟨k, by omega, rfl, c⟩
    · rw [if_neg c]
      rcases kwN_rng ls k (by omega) with ⟨h1, h2⟩ | ⟨j, h1, h2, h3⟩
      · refine Or.inl ⟨h1, fun j hj => ?_⟩
        by_cases e : j = k
        · subst e; exact c
        · exact h2 j (by omega)
      · exact Or.inr ⟨j, by omega, h2, h3⟩
theorem kw_iff {ls : List Nat} {w : Nat} (hw : w < 27) : kwOf ls = nI (128 + w) ↔ zKW.getD w [] = ls := by
  unfold kwOf
  rcases kwN_rng ls 27 (Nat.le_refl _) with ⟨h1, h2⟩ | ⟨j, h1, h2, h3⟩
  · rw [h1]
    constructor
    · intro h
      have := (nI_eq (a := 1) (by decide) (by omega)).mp h
      omega
    · intro h
      exact absurd h (h2 w hw)
  · rw [h2]
    constructor
    · intro h
      have := (nI_eq (by omega) (by omega)).mp h
      have e : j = w := by omega
      subst e
      exact h3
    · intro h
      have e := zKW_ne j h1 w hw (h3.trans h.symm)
      rw [e]
theorem nB_app (B : Nat) : ∀ (l : List Nat) (d a : Nat), nB B (l ++ [d]) a = nB B l a * B + d
  | [], _, _ => rfl
  | x :: l, d, a => nB_app B l d (a * B + x)
theorem nB_inj {B : Nat} (hB : B = 27 ∨ B = 37) : ∀ (n : Nat) (a b : List Nat), a.length = n → (∀ d, d ∈ a → 1 ≤ d ∧ d ≤ 26) → (∀ d, d ∈ b → 1 ≤ d ∧ d ≤ 26) → nB B a 0 = nB B b 0 → a = b
  | n, a, b, hn, ha, hb, h => by
    rcases List.eq_nil_or_concat a with rfl | ⟨l, d, rfl⟩
    · rcases List.eq_nil_or_concat b with rfl | ⟨l', d', rfl⟩
      · rfl
      · rw [List.concat_eq_append] at hb h
        rw [nB_app] at h
        have h1 := hb d' (by simp)
        have h2 : nB B [] 0 = 0 := rfl
        rw [h2] at h
        omega
    · rw [List.concat_eq_append] at ha h ⊢
      rcases List.eq_nil_or_concat b with rfl | ⟨l', d', rfl⟩
      · rw [nB_app] at h
        have h1 := ha d (by simp)
        have h2 : nB B [] 0 = 0 := rfl
        rw [h2] at h
        omega
      · rw [List.concat_eq_append] at hb h ⊢
        rw [nB_app, nB_app] at h
        have h1 := ha d (by simp)
        have h2 := hb d' (by simp)
        have e : nB B l 0 = nB B l' 0 ∧ d = d' := by
          rcases hB with rfl | rfl <;> omega
        obtain ⟨e1, rfl⟩ := e
        have hl : l.length < n := by rw [← hn]; simp
        rw [nB_inj hB l.length l l' rfl (fun x hx => ha x (by simp [hx])) (fun x hx => hb x (by simp [hx])) e1]
  termination_by n => n
theorem nB_lt {B : Nat} (hB : 27 ≤ B) : ∀ (l : List Nat) (a : Nat), (∀ d, d ∈ l → d ≤ 26) → nB B l a < (a + 1) * B ^ l.length
  | [], a, _ => by
    show a < (a + 1) * 1
    omega
  | x :: l, a, h => by
    have ih := nB_lt hB l (a * B + x) (fun d hd => h d (by simp [hd]))
    have hx := h x (by simp)
    have h1 : (a * B + x + 1) * B ^ l.length ≤ ((a + 1) * B) * B ^ l.length := by
      apply Nat.mul_le_mul_right
      rw [Nat.add_mul, Nat.one_mul]
      omega
    have h2 : ((a + 1) * B) * B ^ l.length = (a + 1) * B ^ (x :: l).length := by
      rw [List.length_cons, Nat.pow_succ, Nat.mul_assoc, Nat.mul_comm B]
    rw [← h2]
    exact Nat.lt_of_lt_of_le ih h1
theorem nB_63 {B : Nat} (hB : B = 27 ∨ B = 37) {l : List Nat} (h : wordOk l) : nB B l 0 < 2 ^ 63 := by
  have h1 := nB_lt (B := B) (by omega) l 0 (fun d hd => (h.2.2 d hd).2)
  have h2 : B ^ l.length ≤ 37 ^ 8 := by
    rcases hB with rfl | rfl
    · exact Nat.le_trans (Nat.pow_le_pow_right (by decide) h.2.1) (by decide)
    · exact Nat.pow_le_pow_right (by decide) h.2.1
  have h3 : (37 : Nat) ^ 8 < 2 ^ 63 := by decide
  omega
theorem word_eq {B : Nat} (hB : B = 27 ∨ B = 37) {a b : List Nat} (ha : wordOk a) (hb : wordOk b) : lN (nB B a 0) = lN (nB B b 0) ↔ a = b := by
  rw [pk_lEQ (nB_63 hB ha) (nB_63 hB hb)]
  exact ⟨fun h => nB_inj hB _ a b rfl ha.2.2 hb.2.2 h, fun h => by rw [h]⟩
theorem zKW_ok {w : Nat} (hw : w < 27) : wordOk (zKW.getD w []) := by
  have h : ∀ w, w < 27 → 1 ≤ (zKW.getD w []).length := by decide +kernel
  exact ⟨h w hw, zKW_len w hw, zKW_dig w hw⟩
/-- one token, as the class and as the reference have it -/
def tokOne (tk : Int32) (va : Int64) (so : Int32) (vr : Int64) : Prop := (∃ ls, wordOk ls ∧ so = 1 ∧ vr = lN (nB 37 ls 0) ∧ va = lN (nB 27 ls 0) ∧ tk = kwOf ls) ∨ (∃ n, n ≤ 9999 ∧ so = 2 ∧ vr = lN n ∧ va = lN n ∧ tk = 2) ∨ (∃ c, c < 127 ∧ isSg c = true ∧ so = 3 ∧ vr = lN c ∧ tk = nI c) ∨ (so = 4 ∧ tk = 3)
def TokInv (n m : Nat) (tk pl : Nat → Int32) (va : Nat → Int64) (so pr : Nat → Int32) (vr : Nat → Int64) : Prop := ∀ i, i < m → (∃ p, p ≤ n ∧ pl i = nI p ∧ pr i = nI p) ∧ tokOne (tk i) (va i) (so i) (vr i)
theorem TokInv.add {n m k : Nat} {tk pl so pr : Nat → Int32} {va vr : Nat → Int64} {T S : Int32} {V V' : Int64} (h : TokInv n m tk pl va so pr vr) (hk : k ≤ n) (h1 : tokOne T V S V') : TokInv n (m + 1) (upd tk m T) (upd pl m (nI k)) (vp_updL va m V) (upd so m S) (upd pr m (nI k)) (vp_updL vr m V') := fun i hi => by
  by_cases e : i = m
  · subst e
    rw [pk_us, pk_us, pk_uLs, pk_us, pk_us, pk_uLs]
    exact ⟨⟨k, hk, rfl, rfl⟩, h1⟩
  · rw [pk_un e, pk_un e, pk_uLn e, pk_un e, pk_un e, pk_uLn e]
    exact h i (by omega)
def CHr (c : Nat → Nat) (n : Nat) (s t : Nat → Int32) : Prop := ∀ k, k < n → s k = nI (c k) ∧ t k = nI (c k) ∧ c k < 127
theorem CHr_of {n : Nat} {s t : Nat → Int32} (h : tpR n s t) : ∃ c, CHr c n s t := ⟨fun k => (s k).toNatClampNeg, fun k hk => by
  obtain ⟨x, x1, x2, x3⟩ := h k hk
  have e : (s k).toNatClampNeg = x := by rw [x2, nI_clamp (by omega)]
  show s k = nI (s k).toNatClampNeg ∧ t k = nI (s k).toNatClampNeg ∧ (s k).toNatClampNeg < 127
  rw [e]
  exact ⟨x2, x3, by omega⟩⟩
def isRun (c : Nat → Nat) (n q k e : Nat) : Prop := k ≤ e ∧ e ≤ n ∧ (∀ j, k ≤ j → j < e → cls (c j) = q) ∧ (e = n ∨ ¬ cls (c e) = q)
theorem run_ex (c : Nat → Nat) (q : Nat) {n : Nat} : ∀ (r k : Nat), k + r = n → ∃ e, isRun c n q k e
  | 0, k, h => ⟨k, Nat.le_refl _, by omega, fun j h1 h2 => absurd h2 (by omega), Or.inl h⟩
  | r + 1, k, h => by
    by_cases hc : cls (c k) = q
    · obtain ⟨e, h1, h2, h3, h4⟩ := run_ex c q (n := n) r (k + 1) (by omega)
      refine ⟨e, by omega, h2, fun j h5 h6 => ?_, h4⟩
      by_cases e : j = k
      · subst e; exact hc
      · exact h3 j (by omega) h6
    · exact ⟨k, Nat.le_refl _, by omega, fun j h1 h2 => absurd h2 (by omega), Or.inr hc⟩
theorem isRun.next {c : Nat → Nat} {n q k e : Nat} (h : isRun c n q k e) (hk : k < e) : isRun c n q (k + 1) e := ⟨hk, h.2.1, fun j h1 h2 => h.2.2.1 j (by omega) h2, h.2.2.2⟩
theorem scan_run (N : Nat) {c : Nat → Nat} {n q e : Nat} {v : VTape} {t : Nat → Int32} {y1 : Int32} (hn : n ≤ 1000) (hq : q ≤ 3) (hl : Tape_length v = nI n) (hch : CHr c n (Tape_signs v) t) : ∀ (r k fuel : Nat), k + r = e → r < fuel → isRun c n q k e → f_Tape_scanToken_L4 N fuel v y1 (nI q) (nI k) = some (nI e)
  | _, _, 0, _, h, _ => absurd h (Nat.not_lt_zero _)
  | 0, k, fuel + 1, hk, hf, hr => by
    have hk : k = e := hk
    subst hk
    rw [f_Tape_scanToken_L4, hl, nI_clamp (n := k) (by have := hr.2.1; omega)]
    rcases hr.2.2.2 with h | h
    · exact zifp (nI_le (by omega) (by omega)) rfl
    · have hkn := hr.2.1
      by_cases e : k = n
      · exact zifp (nI_le (by omega) (by omega)) rfl
      · obtain ⟨h1, -, h3⟩ := hch k (by omega)
        have hc := cls_le (c k)
        rw [h1]
        refine zifn (nI_ge (by omega) (by omega)) ?_
        refine zifn (fun x => x.elim (nI_pos (by omega)) (fun y => by omega)) ?_
        refine bnd (sortOf_c h3) ?_
        exact zifn (fun x => h ((nI_eq (by omega) (by omega)).mp x)) rfl
  | r + 1, k, fuel + 1, hk, hf, hr => by
    have hkn := hr.2.1
    obtain ⟨h1, -, h3⟩ := hch k (by omega)
    rw [f_Tape_scanToken_L4, hl, nI_clamp (n := k) (by omega), h1, show nI k + 1 = nI (k + 1) from nI_1 k]
    refine zifn (nI_ge (by omega) (by omega)) ?_
    refine zifn (fun x => x.elim (nI_pos (by omega)) (fun y => by omega)) ?_
    refine bnd (sortOf_c h3) ?_
    refine zifp (by rw [hr.2.2.1 k (Nat.le_refl _) (by omega)]) ?_
    exact scan_run N hn hq hl hch r (k + 1) fuel (by omega) (by omega) (hr.next (by omega))
/-- the letters, the digits, of a run -/
def lts (c : Nat → Nat) (b : Nat) : Nat → Nat → List Nat
  | 0, _ => []
  | r + 1, k => (c k - b) :: lts c b r (k + 1)
theorem lts_len (c : Nat → Nat) (b : Nat) : ∀ r k, (lts c b r k).length = r
  | 0, _ => rfl
  | r + 1, k => by rw [lts, List.length_cons, lts_len c b r]
theorem lts_at (c : Nat → Nat) (b : Nat) : ∀ r k i, i < r → (lts c b r k)[i]? = some (c (k + i) - b)
  | 0, _, _, h => absurd h (Nat.not_lt_zero _)
  | r + 1, k, 0, _ => rfl
  | r + 1, k, i + 1, h => by
    rw [lts, List.getElem?_cons_succ, lts_at c b r (k + 1) i (by omega), show k + 1 + i = k + (i + 1) by omega]
theorem lts_ok {c : Nat → Nat} {k r : Nat} (h1 : 1 ≤ r) (h8 : r ≤ 8) (h : ∀ j, k ≤ j → j < k + r → cls (c j) = 1) : wordOk (lts c 96 r k) := by
  refine ⟨by rw [lts_len]; exact h1, by rw [lts_len]; exact h8, fun d hd => ?_⟩
  obtain ⟨i, hi, e⟩ := List.mem_iff_getElem.mp hd
  have hi2 : i < r := by rw [lts_len] at hi; exact hi
  have h3 := lts_at c 96 r k i hi2
  rw [List.getElem?_eq_getElem hi, e] at h3
  have h4 := cls_1 (h (k + i) (by omega) (by omega))
  have h5 := Option.some.inj h3
  omega
theorem word27 (N : Nat) {c : Nat → Nat} {n e : Nat} {v : VTape} {t : Nat → Int32} {y1 : Int32} (hn : n ≤ 1000) (hch : CHr c n (Tape_signs v) t) (he : e ≤ n) : ∀ (r k fuel a : Nat), k + r = e → r < fuel → (∀ j, k ≤ j → j < e → cls (c j) = 1) → f_Tape_scanWord_L21 N fuel v y1 (nI e) (lN a) (nI k) = some (lN (nB 27 (lts c 96 r k) a))
  | _, _, 0, _, _, h, _ => absurd h (Nat.not_lt_zero _)
  | 0, k, fuel + 1, a, hk, hf, hr => by
    rw [f_Tape_scanWord_L21]
    exact zifp (nI_le (by omega) (by omega)) rfl
  | r + 1, k, fuel + 1, a, hk, hf, hr => by
    obtain ⟨h1, -, h3⟩ := hch k (by omega)
    have h4 := cls_1 (hr k (Nat.le_refl _) (by omega))
    have e1 : lN a * 27 + Int32.toInt64 ((nI (c k) - 97) + 1) = lN (a * 27 + (c k - 96)) := by
      rw [show (97 : Int32) = nI 97 from rfl, pk_sub (by omega), show nI (c k - 97) + 1 = nI (c k - 97 + 1) from nI_1 _, nI_l (by omega), show (27 : Int64) = lN 27 from rfl, lN_mul, lN_add]
      congr 1
      omega
    rw [f_Tape_scanWord_L21, nI_clamp (n := k) (by omega), h1, e1, show nI k + 1 = nI (k + 1) from nI_1 k]
    refine zifn (nI_ge (by omega) (by omega)) ?_
    refine zifn (fun x => x.elim (nI_pos (by omega)) (fun y => by omega)) ?_
    exact word27 N hn hch he r (k + 1) fuel _ (by omega) (by omega) (fun j g1 g2 => hr j (by omega) g2)
theorem num10 (N : Nat) {c : Nat → Nat} {n e : Nat} {v : VTape} {t : Nat → Int32} {y1 : Int32} (hn : n ≤ 1000) (hch : CHr c n (Tape_signs v) t) (he : e ≤ n) : ∀ (r k fuel a : Nat), k + r = e → r < fuel → (∀ j, k ≤ j → j < e → cls (c j) = 2) → f_Tape_scanNumber_L20 N fuel v y1 (nI e) (nI a) (nI k) = some (nI (nB 10 (lts c 48 r k) a))
  | _, _, 0, _, _, h, _ => absurd h (Nat.not_lt_zero _)
  | 0, k, fuel + 1, a, hk, hf, hr => by
    rw [f_Tape_scanNumber_L20]
    exact zifp (nI_le (by omega) (by omega)) rfl
  | r + 1, k, fuel + 1, a, hk, hf, hr => by
    obtain ⟨h1, -, h3⟩ := hch k (by omega)
    have h4 := cls_2 (hr k (Nat.le_refl _) (by omega))
    have e1 : nI a * 10 + (nI (c k) - 48) = nI (a * 10 + (c k - 48)) := by
      rw [show (48 : Int32) = nI 48 from rfl, pk_sub (by omega), show (10 : Int32) = nI 10 from rfl, pk_mul, nI_add]
    rw [f_Tape_scanNumber_L20, nI_clamp (n := k) (by omega), h1, e1, show nI k + 1 = nI (k + 1) from nI_1 k]
    refine zifn (nI_ge (by omega) (by omega)) ?_
    refine zifn (fun x => x.elim (nI_pos (by omega)) (fun y => by omega)) ?_
    exact num10 N hn hch he r (k + 1) fuel _ (by omega) (by omega) (fun j g1 g2 => hr j (by omega) g2)
theorem dig4 {c : Nat → Nat} : ∀ (r k a : Nat), (∀ j, k ≤ j → j < k + r → cls (c j) = 2) → nB 10 (lts c 48 r k) a < (a + 1) * 10 ^ r
  | 0, k, a, _ => by
    show a < (a + 1) * 1
    omega
  | r + 1, k, a, h => by
    have h4 := cls_2 (h k (Nat.le_refl _) (by omega))
    have ih := dig4 r (k + 1) (a * 10 + (c k - 48)) (fun j g1 g2 => h j (by omega) (by omega))
    have h1 : (a * 10 + (c k - 48) + 1) * 10 ^ r ≤ ((a + 1) * 10) * 10 ^ r := Nat.mul_le_mul_right _ (by omega)
    have h2 : ((a + 1) * 10) * 10 ^ r = (a + 1) * 10 ^ (r + 1) := by rw [Nat.pow_succ, Nat.mul_assoc, Nat.mul_comm 10]
    rw [← h2]
    exact Nat.lt_of_lt_of_le ih h1
theorem word37 (N : Nat) {c : Nat → Nat} {n e k0 : Nat} {w : VR} {s : Nat → Int32} {y1 : Int32} (hn : n ≤ 1000) (hsz : R_size w = nI n) (hch : CHr c n s (R_tape w)) : ∀ (r k fuel a : Nat), k + r = e → r < fuel → k0 ≤ k → isRun c n 1 k e → Ev (f_R_cutAll_L70 N fuel w y1 (nI k0) (nI k) (lN a)) (fun q => q.1 = nI e ∧ (e - k0 ≤ 8 → q.2 = lN (nB 37 (lts c 96 r k) a)))
  | _, _, 0, _, _, h, _, _ => absurd h (Nat.not_lt_zero _)
  | 0, k, fuel + 1, a, hk, hf, hk0, hr => by
    have hk : k = e := hk
    subst hk
    have hkn := hr.2.1
    rw [f_R_cutAll_L70, hsz, nI_clamp (n := k) (by omega)]
    by_cases e : k = n
    · refine Ev.ifp (nI_le (by omega) (by omega)) ?_
      exact Ev.ret ⟨rfl, fun _ => rfl⟩
    · obtain ⟨-, h2, h3⟩ := hch k (by omega)
      have h4 := hr.2.2.2.resolve_left e
      rw [h2]
      refine Ev.ifn (nI_ge (by omega) (by omega)) ?_
      refine Ev.ifn (fun x => x.elim (nI_pos (by omega)) (fun y => by omega)) ?_
      refine Ev.bnd (letter_c h3) ?_
      refine Ev.ifp (if_neg h4) ?_
      exact Ev.ret ⟨rfl, fun _ => rfl⟩
  | r + 1, k, fuel + 1, a, hk, hf, hk0, hr => by
    have hkn := hr.2.1
    obtain ⟨-, h2, h3⟩ := hch k (by omega)
    have h4 := hr.2.2.1 k (Nat.le_refl _) (by omega)
    have hin : ¬ (nI k < 0 ∨ 1000 ≤ k) := fun x => x.elim (nI_pos (by omega)) (fun y => by omega)
    rw [f_R_cutAll_L70, hsz, nI_clamp (n := k) (by omega), h2, show nI k - nI k0 = nI (k - k0) from pk_sub hk0, show nI k + 1 = nI (k + 1) from nI_1 k]
    refine Ev.ifn (nI_ge (by omega) (by omega)) ?_
    refine Ev.ifn hin ?_
    refine Ev.bnd (letter_c h3) ?_
    refine Ev.ifn (by rw [if_pos h4]; decide) ?_
    by_cases c8 : 8 ≤ k - k0
    · refine Ev.ifp (nI_le (a := 8) c8 (by omega)) ?_
      refine (word37 N hn hsz hch r (k + 1) fuel a (by omega) (by omega) (by omega) (hr.next (by omega))).mono ?_
      rintro q ⟨q1, -⟩
      exact ⟨q1, fun h => by omega⟩
    · refine Ev.ifn (nI_ge (b := 8) (by omega) (by decide)) ?_
      refine Ev.ifn hin ?_
      refine Ev.bnd (rank_c h3 h4) ?_
      have h5 := cls_1 h4
      have e1 : 37 * lN a + Int32.toInt64 (nI (c k - 96)) = lN (a * 37 + (c k - 96)) := by
        rw [nI_l (by omega), show (37 : Int64) = lN 37 from rfl, lN_mul, lN_add, Nat.mul_comm]
      rw [e1]
      exact word37 N hn hsz hch r (k + 1) fuel _ (by omega) (by omega) (by omega) (hr.next (by omega))
theorem numR (N : Nat) {c : Nat → Nat} {n e k0 : Nat} {w : VR} {s : Nat → Int32} {y1 : Int32} (hn : n ≤ 1000) (hsz : R_size w = nI n) (hch : CHr c n s (R_tape w)) : ∀ (r k fuel a : Nat), k + r = e → r < fuel → k0 ≤ k → isRun c n 2 k e → Ev (f_R_cutAll_L159 N fuel w y1 (nI k0) (nI k) (lN a)) (fun q => q.1 = nI e ∧ (e - k0 ≤ 4 → q.2 = lN (nB 10 (lts c 48 r k) a)))
  | _, _, 0, _, _, h, _, _ => absurd h (Nat.not_lt_zero _)
  | 0, k, fuel + 1, a, hk, hf, hk0, hr => by
    have hk : k = e := hk
    subst hk
    have hkn := hr.2.1
    rw [f_R_cutAll_L159, hsz, nI_clamp (n := k) (by omega)]
    by_cases e : k = n
    · refine Ev.ifp (nI_le (by omega) (by omega)) ?_
      exact Ev.ret ⟨rfl, fun _ => rfl⟩
    · obtain ⟨-, h2, h3⟩ := hch k (by omega)
      have h4 := hr.2.2.2.resolve_left e
      rw [h2]
      refine Ev.ifn (nI_ge (by omega) (by omega)) ?_
      refine Ev.ifn (fun x => x.elim (nI_pos (by omega)) (fun y => by omega)) ?_
      refine Ev.bnd (digit_c h3) ?_
      refine Ev.ifp (if_neg h4) ?_
      exact Ev.ret ⟨rfl, fun _ => rfl⟩
  | r + 1, k, fuel + 1, a, hk, hf, hk0, hr => by
    have hkn := hr.2.1
    obtain ⟨-, h2, h3⟩ := hch k (by omega)
    have h4 := hr.2.2.1 k (Nat.le_refl _) (by omega)
    have hin : ¬ (nI k < 0 ∨ 1000 ≤ k) := fun x => x.elim (nI_pos (by omega)) (fun y => by omega)
    rw [f_R_cutAll_L159, hsz, nI_clamp (n := k) (by omega), h2, show nI k - nI k0 = nI (k - k0) from pk_sub hk0, show nI k + 1 = nI (k + 1) from nI_1 k]
    refine Ev.ifn (nI_ge (by omega) (by omega)) ?_
    refine Ev.ifn hin ?_
    refine Ev.bnd (digit_c h3) ?_
    refine Ev.ifn (by rw [if_pos h4]; decide) ?_
    by_cases c8 : 4 ≤ k - k0
    · refine Ev.ifp (nI_le (a := 4) c8 (by omega)) ?_
      refine (numR N hn hsz hch r (k + 1) fuel a (by omega) (by omega) (by omega) (hr.next (by omega))).mono ?_
      rintro q ⟨q1, -⟩
      exact ⟨q1, fun h => by omega⟩
    · refine Ev.ifn (nI_ge (b := 4) (by omega) (by decide)) ?_
      refine Ev.ifn hin ?_
      have h5 := cls_2 h4
      have e1 : (10 * lN a + Int32.toInt64 (nI (c k))) - 48 = lN (a * 10 + (c k - 48)) := by
        rw [nI_l (by omega), show (10 : Int64) = lN 10 from rfl, show (48 : Int64) = lN 48 from rfl, lN_mul, lN_add, lN_sub (by omega)]
        congr 1
        omega
      rw [e1]
      exact numR N hn hsz hch r (k + 1) fuel _ (by omega) (by omega) (by omega) (hr.next (by omega))
/-! is it one of the words -/
theorem stands_loop (N : Nat) {c : Nat → Nat} {n k e f : Nat} {v : VTape} {t : Nat → Int32} (hn : n ≤ 1000) (hch : CHr c n (Tape_signs v) t) (hk : k ≤ e) (he : e ≤ n) (hf : f < 27) (hr : ∀ j, k ≤ j → j < e → cls (c j) = 1) : ∀ (r i fuel : Nat), i + r = 8 → r < fuel → f_Tape_standsIn_L3 N fuel v (nI (8 * f)) (nI k) (nI e) (nI i) = some (if allF (fun i => decide (padW (zKW.getD f []) i = padW (lts c 96 (e - k) k) i)) r i = true then Sum.inr () else Sum.inl ())
  | _, _, 0, _, h => absurd h (Nat.not_lt_zero _)
  | 0, i, fuel + 1, hi, hfu => by
    have hi : i = 8 := hi
    subst hi
    rw [f_Tape_standsIn_L3]
    exact zifp (by decide) rfl
  | r + 1, i, fuel + 1, hi, hfu => by
    have ih := stands_loop N hn hch hk he hf hr r (i + 1) fuel (by omega) (by omega)
    have hz := zsch_c f hf i (by omega)
    have hpb : padW (zKW.getD f []) i < 127 := by
      unfold padW
      split
      · next d hd =>
        have := zKW_dig f hf d (List.mem_of_getElem? hd)
        omega
      · omega
    rw [f_Tape_standsIn_L3, nI_add, nI_add, hz, show nI i + 1 = nI (i + 1) from nI_1 i, ih]
    refine zifn (nI_ge (b := 8) (by omega) (by decide)) ?_
    refine zifn (nI_ge (b := 216) (by omega) (by decide)) ?_
    have h216 : ¬ (nI (8 * f + i) < 0 ∨ 216 ≤ nI (8 * f + i)) := fun x => x.elim (nI_pos (by omega)) (nI_ge (b := 216) (by omega) (by decide))
    show _ = some (if (decide (padW (zKW.getD f []) i = padW (lts c 96 (e - k) k) i) && allF (fun i => decide (padW (zKW.getD f []) i = padW (lts c 96 (e - k) k) i)) r (i + 1)) = true then Sum.inr () else Sum.inl ())
    by_cases h1 : e ≤ k + i
    · have hp : padW (lts c 96 (e - k) k) i = 32 := by
        unfold padW
        rw [List.getElem?_eq_none (by rw [lts_len]; omega)]
      rw [hp]
      refine zifp (nI_le h1 (by omega)) ?_
      refine zifn h216 ?_
      by_cases h2 : padW (zKW.getD f []) i = 32
      · refine zifp (by rw [h2]; rfl) ?_
        rw [decide_eq_true h2, Bool.true_and]
      · refine zifn (fun q => h2 ((nI_eq (b := 32) (by omega) (by decide)).mp q)) ?_
        rw [decide_eq_false h2, Bool.false_and]
        rfl
    · obtain ⟨g1, -, g3⟩ := hch (k + i) (by omega)
      have g4 := cls_1 (hr (k + i) (by omega) (by omega))
      have hp : padW (lts c 96 (e - k) k) i = c (k + i) := by
        unfold padW
        rw [lts_at c 96 (e - k) k i (by omega)]
        show 96 + (c (k + i) - 96) = c (k + i)
        omega
      rw [hp, nI_clamp (n := k + i) (by omega), g1]
      refine zifn (nI_ge (by omega) (by omega)) ?_
      refine zifn (fun x => x.elim (nI_pos (by omega)) (fun y => by omega)) ?_
      refine zifn h216 ?_
      by_cases h2 : padW (zKW.getD f []) i = c (k + i)
      · refine zifp (by rw [h2]) ?_
        rw [decide_eq_true h2, Bool.true_and]
      · refine zifn (fun q => h2 ((nI_eq (by omega) (by omega)).mp q)) ?_
        rw [decide_eq_false h2, Bool.false_and]
        rfl
theorem stands_ok {N : Nat} (hN : 10000 ≤ N) {c : Nat → Nat} {n k e f : Nat} {v : VTape} {t : Nat → Int32} (hn : n ≤ 1000) (hch : CHr c n (Tape_signs v) t) (hk : k ≤ e) (he : e ≤ n) (he8 : e - k ≤ 8) (hf : f < 27) (hr : ∀ j, k ≤ j → j < e → cls (c j) = 1) : f_Tape_standsIn N v (nI (8 * f)) (nI k) (nI e) = some (bI (decide (zKW.getD f [] = lts c 96 (e - k) k))) := by
  have h := stands_loop N hn hch hk he hf hr 8 0 N (by omega) (by omega)
  have h : f_Tape_standsIn_L3 N N v (nI (8 * f)) (nI k) (nI e) 0 = _ := h
  have e1 : allF (fun i => decide (padW (zKW.getD f []) i = padW (lts c 96 (e - k) k) i)) 8 0 = decide (zKW.getD f [] = lts c 96 (e - k) k) := by
    rw [Bool.eq_iff_iff, allF_iff, decide_eq_true_iff]
    constructor
    · intro h
      exact pad_inj (zKW_len f hf) (by rw [lts_len]; exact he8) (fun i hi => of_decide_eq_true (h i (Nat.zero_le _) (by omega)))
    · intro h i _ _
      rw [h]
      exact decide_eq_true rfl
  unfold f_Tape_standsIn
  rw [h, e1]
  cases decide (zKW.getD f [] = lts c 96 (e - k) k) <;> rfl
theorem kw_loop {N : Nat} (hN : 10000 ≤ N) {c : Nat → Nat} {n k e : Nat} {v : VTape} {t : Nat → Int32} {y3 : Int64} (hn : n ≤ 1000) (hch : CHr c n (Tape_signs v) t) (hk : k ≤ e) (he : e ≤ n) (he8 : e - k ≤ 8) (hr : ∀ j, k ≤ j → j < e → cls (c j) = 1) : ∀ (r f fuel : Nat), f + r = 27 → r < fuel → f_Tape_scanWord_L59 N fuel v (nI k) (nI e) y3 (kwN (lts c 96 (e - k) k) f) (nI (8 * f)) = some (kwOf (lts c 96 (e - k) k))
  | _, _, 0, _, h => absurd h (Nat.not_lt_zero _)
  | 0, f, fuel + 1, hf, hfu => by
    have hf : f = 27 := hf
    subst hf
    rw [f_Tape_scanWord_L59]
    exact zifp (by decide) rfl
  | r + 1, f, fuel + 1, hf, hfu => by
    have ih := kw_loop hN (y3 := y3) hn hch hk he he8 hr r (f + 1) fuel (by omega) (by omega)
    rw [kwN] at ih
    rw [f_Tape_scanWord_L59, show nI (8 * f) + 8 = nI (8 * (f + 1)) by rw [show (8 : Int32) = nI 8 from rfl, nI_add]; congr 1, show (128 : Int32) + nI (8 * f) / 8 = nI (128 + f) by rw [show (8 : Int32) = nI 8 from rfl, pk_div (by omega) (by decide) (by decide), show (128 : Int32) = nI 128 from rfl, nI_add]; congr 1; omega]
    refine zifn (nI_ge (b := 216) (by omega) (by decide)) ?_
    refine bnd (stands_ok hN hn hch hk he he8 (by omega) hr) ?_
    by_cases h : zKW.getD f [] = lts c 96 (e - k) k
    · rw [if_pos h] at ih
      rw [decide_eq_true h, if_neg (show ¬ bI true = 0 by decide)]
      exact ih
    · rw [if_neg h] at ih
      rw [decide_eq_false h, if_pos (show bI false = 0 from rfl)]
      exact ih
theorem addToken_ok {N m : Nat} {v : VTape} {T k : Int32} {V : Int64} (hm : m < 1001) (hc : Tape_tokenCount v = nI m) : f_Tape_addToken N v T k V = some (upd (Tape_tokens v) m T, upd (Tape_places v) m k, vp_updL (Tape_values v) m V, nI (m + 1)) := by
  have i1 : ¬ (nI m < 0 ∨ 1001 ≤ m) := fun x => x.elim (nI_pos (by omega)) (fun y => by omega)
  unfold f_Tape_addToken
  rw [hc, nI_clamp (n := m) (by omega), show nI m + 1 = nI (m + 1) from nI_1 m]
  refine zifn (nI_ge (b := 1001) (by omega) (by decide)) ?_
  refine zifn i1 ?_
  refine zifn i1 ?_
  exact zifn i1 rfl
/-! the class at a place: it goes on, or it begins a token -/
def goesOn (c : Nat → Nat) (k : Nat) : Prop := cls (c k) = 0 ∨ (0 < k ∧ ¬ cls (c k) = 3 ∧ cls (c (k - 1)) = cls (c k))
theorem take_skip {N fuel n k : Nat} {c : Nat → Nat} {v : VTape} {t : Nat → Int32} {tk pl : Nat → Int32} {va : Nat → Int64} {m : Int32} (hn : n ≤ 1000) (hl : Tape_length v = nI n) (hch : CHr c n (Tape_signs v) t) (hk : k < n) (hg : goesOn c k) : f_Tape_takeAll_L17 N (fuel + 1) v (nI k) tk pl va m = f_Tape_takeAll_L17 N fuel v (nI (k + 1)) tk pl va m := by
  obtain ⟨h1, -, h3⟩ := hch k hk
  have hc := cls_le (c k)
  rw [f_Tape_takeAll_L17, hl, nI_clamp (n := k) (by omega), h1, show nI k + 1 = nI (k + 1) from nI_1 k]
  refine zifn (nI_ge (by omega) (by omega)) ?_
  refine zifn (fun x => x.elim (nI_pos (by omega)) (fun y => by omega)) ?_
  refine bnd (sortOf_c h3) ?_
  have three : ¬ cls (c k) = 3 → ¬ nI (cls (c k)) = 3 := fun h q => h ((nI_eq (b := 3) (by omega) (by decide)).mp q)
  by_cases c0 : k = 0
  · subst c0
    rcases hg with hg | ⟨hg, -⟩
    · refine zifp (by decide) ?_
      exact zifp (by rw [hg]; rfl) rfl
    · exact absurd hg (Nat.lt_irrefl _)
  · obtain ⟨p, rfl⟩ : ∃ p, k = p + 1 := ⟨k - 1, by omega⟩
    obtain ⟨g1, -, g3⟩ := hch p (by omega)
    have hcp := cls_le (c p)
    refine zifn (nI_nle (by omega) (by omega)) ?_
    rw [nI_pred p, nI_clamp (n := p) (by omega), g1]
    rcases hg with hg | ⟨-, hg2, hg3⟩
    · refine zifn (three (by omega)) ?_
      refine zifn (fun x => x.elim (nI_pos (by omega)) (fun y => by omega)) ?_
      refine bnd (sortOf_c g3) ?_
      exact zifp (by rw [hg]; rfl) rfl
    · rw [Nat.add_sub_cancel] at hg3
      refine zifn (three hg2) ?_
      refine zifn (fun x => x.elim (nI_pos (by omega)) (fun y => by omega)) ?_
      refine bnd (sortOf_c g3) ?_
      by_cases c1 : cls (c (p + 1)) = 0
      · exact zifp (by rw [c1]; rfl) rfl
      · refine zifn (fun q => c1 ((nI_eq (b := 0) (by omega) (by decide)).mp q)) ?_
        rw [hg3, if_pos rfl]
        exact zifn (by decide) rfl
theorem take_scan {N fuel n k : Nat} {c : Nat → Nat} {v : VTape} {t : Nat → Int32} {tk pl : Nat → Int32} {va : Nat → Int64} {m : Int32} (hn : n ≤ 1000) (hl : Tape_length v = nI n) (hch : CHr c n (Tape_signs v) t) (hk : k < n) (hg : ¬ goesOn c k) : f_Tape_takeAll_L17 N (fuel + 1) v (nI k) tk pl va m = (f_Tape_scanToken N (Tape_s_tokens_places_values_tokenCount v tk pl va m) (nI k) (nI (cls (c k)))).bind (fun q => f_Tape_takeAll_L17 N fuel v (nI (k + 1)) q.1 q.2.1 q.2.2.1 q.2.2.2) := by
  obtain ⟨h1, -, h3⟩ := hch k hk
  have hc := cls_le (c k)
  obtain ⟨n0, n1⟩ := not_or.mp hg
  have nz : ¬ nI (cls (c k)) = 0 := fun q => n0 ((nI_eq (b := 0) (by omega) (by decide)).mp q)
  rw [f_Tape_takeAll_L17, hl, nI_clamp (n := k) (by omega), h1, show nI k + 1 = nI (k + 1) from nI_1 k]
  refine zifn (nI_ge (by omega) (by omega)) ?_
  refine zifn (fun x => x.elim (nI_pos (by omega)) (fun y => by omega)) ?_
  refine bnd (sortOf_c h3) ?_
  by_cases c0 : k = 0
  · subst c0
    refine zifp (by decide) ?_
    exact zifn nz rfl
  · obtain ⟨p, rfl⟩ : ∃ p, k = p + 1 := ⟨k - 1, by omega⟩
    obtain ⟨g1, -, g3⟩ := hch p (by omega)
    have hcp := cls_le (c p)
    refine zifn (nI_nle (by omega) (by omega)) ?_
    by_cases c3 : cls (c (p + 1)) = 3
    · refine zifp (by rw [c3]; rfl) ?_
      exact zifn nz rfl
    · refine zifn (fun q => c3 ((nI_eq (b := 3) (by omega) (by decide)).mp q)) ?_
      rw [nI_pred p, nI_clamp (n := p) (by omega), g1]
      refine zifn (fun x => x.elim (nI_pos (by omega)) (fun y => by omega)) ?_
      refine bnd (sortOf_c g3) ?_
      refine zifn nz ?_
      have hne : ¬ nI (cls (c p)) = nI (cls (c (p + 1))) := fun q => n1 ⟨by omega, c3, by
        rw [Nat.add_sub_cancel]
        exact (nI_eq (by omega) (by omega)).mp q⟩
      rw [if_neg hne]
      exact zifp rfl rfl
theorem take_to {N n e : Nat} {c : Nat → Nat} {v : VTape} {t : Nat → Int32} {tk pl : Nat → Int32} {va : Nat → Int64} {m : Int32} (hn : n ≤ 1000) (hl : Tape_length v = nI n) (hch : CHr c n (Tape_signs v) t) (he : e ≤ n) : ∀ (r k fuel : Nat), k + r = e → (∀ j, k ≤ j → j < e → goesOn c j) → f_Tape_takeAll_L17 N (fuel + r) v (nI k) tk pl va m = f_Tape_takeAll_L17 N fuel v (nI e) tk pl va m
  | 0, k, fuel, hk, _ => by
    have hk : k = e := hk
    subst hk
    rfl
  | r + 1, k, fuel, hk, h => by
    rw [show fuel + (r + 1) = (fuel + r) + 1 by omega, take_skip hn hl hch (by omega) (h k (Nat.le_refl _) (by omega))]
    exact take_to hn hl hch he r (k + 1) fuel (by omega) (fun j h1 h2 => h j (by omega) h2)
theorem run_goes {c : Nat → Nat} {n q k e : Nat} (hq : q = 1 ∨ q = 2) (h : isRun c n q k e) (hk : cls (c k) = q) : ∀ j, k + 1 ≤ j → j < e → goesOn c j := fun j h1 h2 => by
  have hj := h.2.2.1 j (by omega) h2
  have hj1 := h.2.2.1 (j - 1) (by omega) (by omega)
  exact Or.inr ⟨by omega, by omega, by rw [hj, hj1]⟩
/-! what is begun at a place -/
theorem scan_ev {N : Nat} (hN : 10000 ≤ N) {n k m : Nat} {c : Nat → Nat} {v : VTape} {t : Nat → Int32} (hn : n ≤ 1000) (hl : Tape_length v = nI n) (hch : CHr c n (Tape_signs v) t) (hk : k < n) (hm : m < 1001) (hc : Tape_tokenCount v = nI m) : (∀ e, cls (c k) = 1 → isRun c n 1 k e → ∃ T V, f_Tape_scanToken N v (nI k) (nI (cls (c k))) = some (upd (Tape_tokens v) m T, upd (Tape_places v) m (nI k), vp_updL (Tape_values v) m V, nI (m + 1)) ∧ ((e - k ≤ 8 ∧ T = kwOf (lts c 96 (e - k) k) ∧ V = lN (nB 27 (lts c 96 (e - k) k) 0)) ∨ (8 < e - k ∧ T = 3))) ∧ (∀ e, cls (c k) = 2 → isRun c n 2 k e → ∃ T V, f_Tape_scanToken N v (nI k) (nI (cls (c k))) = some (upd (Tape_tokens v) m T, upd (Tape_places v) m (nI k), vp_updL (Tape_values v) m V, nI (m + 1)) ∧ ((e - k ≤ 4 ∧ T = 2 ∧ V = lN (nB 10 (lts c 48 (e - k) k) 0)) ∨ (4 < e - k ∧ T = 3))) ∧ (cls (c k) = 3 → ∃ T V, f_Tape_scanToken N v (nI k) (nI (cls (c k))) = some (upd (Tape_tokens v) m T, upd (Tape_places v) m (nI k), vp_updL (Tape_values v) m V, nI (m + 1)) ∧ ((isSg (c k) = true ∧ T = nI (c k)) ∨ (isSg (c k) = false ∧ T = 3))) := by
  obtain ⟨h1, -, h3⟩ := hch k hk
  refine ⟨fun e hq hr => ?_, fun e hq hr => ?_, fun hq => ?_⟩
  · have he := hr.2.1
    have hke : k < e := by
      rcases Nat.lt_or_ge k e with h | h
      · exact h
      · have : k = e := by have := hr.1; omega
        subst this
        exact absurd hq (hr.2.2.2.resolve_left (by omega))
    have hs := scan_run N (y1 := nI k) hn (by decide) hl hch (e - (k + 1)) (k + 1) N (by omega) (by omega) (hr.next hke)
    unfold f_Tape_scanToken f_Tape_scanWord
    rw [hq, show nI k + 1 = nI (k + 1) from nI_1 k, hs]
    by_cases c8 : e - k ≤ 8
    · refine ⟨_, _, ?_, Or.inl ⟨c8, rfl, rfl⟩⟩
      have hw := word27 N (y1 := nI k) hn hch he (e - k) k N 0 (by omega) (by omega) hr.2.2.1
      have hkw := kw_loop hN (y3 := lN (nB 27 (lts c 96 (e - k) k) 0)) hn hch (by omega) he c8 hr.2.2.1 27 0 N (by omega) (by omega)
      have hw : f_Tape_scanWord_L21 N N v (nI k) (nI e) 0 (nI k) = _ := hw
      have hkw : f_Tape_scanWord_L59 N N v (nI k) (nI e) (lN (nB 27 (lts c 96 (e - k) k) 0)) 1 0 = _ := hkw
      refine bnd rfl ?_
      refine zifp rfl ?_
      refine bnd (a := (upd (Tape_tokens v) m (kwOf (lts c 96 (e - k) k)), upd (Tape_places v) m (nI k), vp_updL (Tape_values v) m (lN (nB 27 (lts c 96 (e - k) k) 0)), nI (m + 1))) ?_ rfl
      refine zifp (by rw [pk_sub (by omega)]; exact nI_le (b := 8) c8 (by decide)) ?_
      refine bnd hw ?_
      refine bnd hkw ?_
      exact bnd (addToken_ok hm hc) rfl
    · refine ⟨3, 0, ?_, Or.inr ⟨by omega, rfl⟩⟩
      refine bnd rfl ?_
      refine zifp rfl ?_
      refine bnd (a := (upd (Tape_tokens v) m (3), upd (Tape_places v) m (nI k), vp_updL (Tape_values v) m (0), nI (m + 1))) ?_ rfl
      refine zifn (by rw [pk_sub (by omega)]; exact nI_ge (a := 8) (by omega) (by omega)) ?_
      exact bnd (addToken_ok hm hc) rfl
  · have he := hr.2.1
    have hke : k < e := by
      rcases Nat.lt_or_ge k e with h | h
      · exact h
      · have : k = e := by have := hr.1; omega
        subst this
        exact absurd hq (hr.2.2.2.resolve_left (by omega))
    have hs := scan_run N (y1 := nI k) hn (by decide) hl hch (e - (k + 1)) (k + 1) N (by omega) (by omega) (hr.next hke)
    unfold f_Tape_scanToken f_Tape_scanNumber
    rw [hq, show nI k + 1 = nI (k + 1) from nI_1 k, hs]
    by_cases c8 : e - k ≤ 4
    · have hd := dig4 (c := c) (e - k) k 0 (fun j g1 g2 => hr.2.2.1 j g1 (by omega))
      have hp : 10 ^ (e - k) ≤ 10 ^ 4 := Nat.pow_le_pow_right (by decide) c8
      have h104 : (10 : Nat) ^ 4 = 10000 := by decide
      refine ⟨_, _, ?_, Or.inl ⟨c8, rfl, rfl⟩⟩
      have hw := num10 N (y1 := nI k) hn hch he (e - k) k N 0 (by omega) (by omega) hr.2.2.1
      have hw : f_Tape_scanNumber_L20 N N v (nI k) (nI e) 0 (nI k) = _ := hw
      refine bnd rfl ?_
      refine zifn (by decide) ?_
      refine zifp rfl ?_
      refine bnd (a := (upd (Tape_tokens v) m (2), upd (Tape_places v) m (nI k), vp_updL (Tape_values v) m (lN (nB 10 (lts c 48 (e - k) k) 0)), nI (m + 1))) ?_ rfl
      refine zifp (by rw [pk_sub (by omega)]; exact nI_le (b := 4) c8 (by decide)) ?_
      refine bnd hw ?_
      rw [nI_l (by omega)]
      exact bnd (addToken_ok hm hc) rfl
    · refine ⟨3, 0, ?_, Or.inr ⟨by omega, rfl⟩⟩
      refine bnd rfl ?_
      refine zifn (by decide) ?_
      refine zifp rfl ?_
      refine bnd (a := (upd (Tape_tokens v) m (3), upd (Tape_places v) m (nI k), vp_updL (Tape_values v) m (0), nI (m + 1))) ?_ rfl
      refine zifn (by rw [pk_sub (by omega)]; exact nI_ge (a := 4) (by omega) (by omega)) ?_
      exact bnd (addToken_ok hm hc) rfl
  · obtain ⟨e, hr⟩ := run_ex c 3 (n := n) (n - (k + 1)) (k + 1) (by omega)
    have hs := scan_run N (y1 := nI k) hn (by decide) hl hch (e - (k + 1)) (k + 1) N (by have := hr.1; omega) (by have := hr.2.1; omega) hr
    have hin : ¬ (nI k < 0 ∨ 1000 ≤ k) := fun x => x.elim (nI_pos (by omega)) (fun y => by omega)
    obtain ⟨-, g2⟩ := sign_c (N := N) h3
    unfold f_Tape_scanToken
    rw [hq, show nI k + 1 = nI (k + 1) from nI_1 k, hs, nI_clamp (n := k) (by omega), h1]
    cases hsg : isSg (c k) with
    | false =>
      refine ⟨3, 0, ?_, Or.inr ⟨rfl, rfl⟩⟩
      refine bnd rfl ?_
      refine zifn (by decide) ?_
      refine zifn (by decide) ?_
      refine zifn hin ?_
      refine zifp (g2.mpr hsg) ?_
      exact bnd (addToken_ok hm hc) rfl
    | true =>
      refine ⟨nI (c k), 0, ?_, Or.inl ⟨rfl, rfl⟩⟩
      refine bnd rfl ?_
      refine zifn (by decide) ?_
      refine zifn (by decide) ?_
      refine zifn hin ?_
      refine zifn (fun x => by have := g2.mp x; rw [hsg] at this; exact absurd this (by decide)) ?_
      refine zifn hin ?_
      exact bnd (addToken_ok hm hc) rfl
/-! both go through the tape -/
def bnds (c : Nat → Nat) (n k : Nat) : Prop := k < n → cls (c k) = 0 ∨ ¬ goesOn c k
theorem lex_loop {N : Nat} (hN : 10000 ≤ N) {n : Nat} {c : Nat → Nat} {v : VTape} {w : VR} (hn : n ≤ 1000) (hl : Tape_length v = nI n) (hsz : R_size w = nI n) (hch : CHr c n (Tape_signs v) (R_tape w)) : ∀ (r k fc fr m : Nat) (tk pl : Nat → Int32) (va : Nat → Int64) (so pr : Nat → Int32) (vr : Nat → Int64), k + r = n → r < fc → r < fr → bnds c n k → m ≤ k → TokInv n m tk pl va so pr vr → Ev (f_Tape_takeAll_L17 N fc v (nI k) tk pl va (nI m)) (fun a => Ev (f_R_cutAll_L17 N fr w (nI m) (nI k) so pr vr) (fun b => ∃ m', m' ≤ n ∧ a.2.2.2 = nI m' ∧ b.1 = nI m' ∧ TokInv n m' a.1 a.2.1 a.2.2.1 b.2.1 b.2.2.1 b.2.2.2))
  | r, k, 0, _, _, _, _, _, _, _, _, _, h, _, _, _, _ => absurd h (Nat.not_lt_zero _)
  | r, k, _ + 1, 0, _, _, _, _, _, _, _, _, _, h, _, _, _ => absurd h (Nat.not_lt_zero _)
  | 0, k, fc + 1, fr + 1, m, tk, pl, va, so, pr, vr, hk, hfc, hfr, hb, hm, hi => by
    have hk : k = n := hk
    subst hk
    rw [f_Tape_takeAll_L17, f_R_cutAll_L17, hl, hsz]
    refine Ev.ifp (nI_le (by omega) (by omega)) ?_
    refine Ev.ret ?_
    refine Ev.ifp (nI_le (by omega) (by omega)) ?_
    exact Ev.ret ⟨m, by omega, rfl, rfl, hi⟩
  | r + 1, k, fc + 1, fr + 1, m, tk, pl, va, so, pr, vr, hk, hfc, hfr, hb, hm, hi => by
    have hkn : k < n := by omega
    obtain ⟨h1, h2, h3⟩ := hch k hkn
    have hin : ¬ (nI k < 0 ∨ 1000 ≤ k) := fun x => x.elim (nI_pos (by omega)) (fun y => by omega)
    have him : ¬ (nI m < 0 ∨ 1002 ≤ m) := fun x => x.elim (nI_pos (by omega)) (fun y => by omega)
    obtain ⟨sc1, sc2, sc3⟩ := scan_ev hN (v := Tape_s_tokens_places_values_tokenCount v tk pl va (nI m)) (m := m) hn hl hch hkn (by omega) rfl
    have hbn : ∀ e, k < e → e ≤ n → (cls (c k) = 3 → e = k + 1) → (cls (c k) = 0 → e = k + 1) → (cls (c k) = 1 ∨ cls (c k) = 2 → isRun c n (cls (c k)) k e) → bnds c n e := fun e e1 e2 e3 e0 e4 he => by
      by_cases c0 : cls (c e) = 0
      · exact Or.inl c0
      · refine Or.inr fun hg => ?_
        rcases hg with hg | ⟨-, g2, g3⟩
        · exact c0 hg
        · have hc := cls_le (c k)
          have h4 : cls (c k) = 0 ∨ cls (c k) = 3 ∨ cls (c k) = 1 ∨ cls (c k) = 2 := by omega
          rcases h4 with h4 | h4 | h4
          · have := e0 h4
            subst this
            rw [Nat.add_sub_cancel, h4] at g3
            exact c0 g3.symm
          · have := e3 h4
            subst this
            rw [Nat.add_sub_cancel, h4] at g3
            exact g2 g3.symm
          · have hrun := e4 h4
            have := hrun.2.2.1 (e - 1) (by omega) (by omega)
            rw [this] at g3
            exact hrun.2.2.2.elim (fun x => by omega) (fun x => x g3.symm)
    by_cases c0 : cls (c k) = 0
    · rw [take_skip hn hl hch hkn (Or.inl c0)]
      have h10 := cls_0 c0
      refine (lex_loop hN hn hl hsz hch r (k + 1) fc fr m tk pl va so pr vr (by omega) (by omega) (by omega) (hbn (k + 1) (by omega) (by omega) (fun _ => rfl) (fun _ => rfl) (fun x => by omega)) (by omega) hi).mono ?_
      intro a ha
      rw [f_R_cutAll_L17, hsz, nI_clamp (n := k) (by omega), h2, show nI k + 1 = nI (k + 1) from nI_1 k]
      refine Ev.ifn (nI_ge (by omega) (by omega)) ?_
      refine Ev.ifn hin ?_
      rcases h10 with e | e
      · refine Ev.ifp (by rw [e]; rfl) ?_
        exact ha
      · refine Ev.ifn (by rw [e]; decide) ?_
        refine Ev.ifp (by rw [e]; rfl) ?_
        exact ha
    · have hgo := (hb hkn).resolve_left c0
      obtain ⟨n10, n32⟩ := cls_n0 c0
      have r10 : ¬ nI (c k) = 10 := fun q => n10 ((nI_eq (b := 10) (by omega) (by decide)).mp q)
      have r32 : ¬ nI (c k) = 32 := fun q => n32 ((nI_eq (b := 32) (by omega) (by decide)).mp q)
      rw [take_scan hn hl hch hkn hgo]
      have hc := cls_le (c k)
      have h4 : cls (c k) = 1 ∨ cls (c k) = 2 ∨ cls (c k) = 3 := by omega
      rcases h4 with h4 | h4 | h4
      · obtain ⟨e, hr⟩ := run_ex c 1 (n := n) (r + 1) k (by omega)
        have he := hr.2.1
        have hke : k < e := by
          rcases Nat.lt_or_ge k e with h | h
          · exact h
          · have : k = e := by have := hr.1; omega
            subst this
            exact absurd h4 (hr.2.2.2.resolve_left (by omega))
        obtain ⟨T, V, s1, s2⟩ := sc1 e h4 hr
        refine Ev.bnd s1 ?_
        obtain ⟨fc2, hfc2⟩ : ∃ fc2, fc = fc2 + (e - (k + 1)) := ⟨fc - (e - (k + 1)), by omega⟩
        subst hfc2
        show Ev (f_Tape_takeAll_L17 N (fc2 + (e - (k + 1))) v (nI (k + 1)) (upd tk m T) (upd pl m (nI k)) (vp_updL va m V) (nI (m + 1))) _
        rw [take_to hn hl hch he (e - (k + 1)) (k + 1) fc2 (by omega) (run_goes (Or.inl rfl) hr h4)]
        obtain ⟨q, f1, f2, f3⟩ := word37 N (w := R_s_sort_place_value w so (upd pr m (nI k)) vr) (y1 := nI m) hn hsz hch (e - k) k N 0 (by omega) (by omega) (Nat.le_refl _) hr
        have f1 : f_R_cutAll_L70 N N (R_s_sort_place_value w so (upd pr m (nI k)) vr) (nI m) (nI k) (nI k) 0 = some q := f1
        have htok : tokOne T V (if nI e - nI k ≤ 8 then 1 else 4) q.2 := by
          rw [pk_sub (by omega)]
          rcases s2 with ⟨c8, rfl, rfl⟩ | ⟨c8, rfl⟩
          · rw [if_pos (leR (b := 8) (L := 8) rfl c8 (by decide)), f3 c8]
            exact Or.inl ⟨lts c 96 (e - k) k, lts_ok (by omega) c8 (fun j g1 g2 => hr.2.2.1 j g1 (by omega)), rfl, rfl, rfl, rfl⟩
          · rw [if_neg (ngR (a := 8) (L := 8) rfl c8 (by omega))]
            exact Or.inr (Or.inr (Or.inr ⟨rfl, rfl⟩))
        have hi2 := hi.add (k := k) (by omega) htok
        refine (lex_loop hN hn hl hsz hch (n - e) e fc2 fr (m + 1) _ _ _ _ _ _ (by omega) (by omega) (by omega) (hbn e hke he (fun x => by omega) (fun x => by omega) (fun _ => by rw [h4]; exact hr)) (by omega) hi2).mono ?_
        intro a ha
        rw [f_R_cutAll_L17, hsz, nI_clamp (n := k) (by omega), nI_clamp (n := m) (by omega), h2, show nI m + 1 = nI (m + 1) from nI_1 m]
        refine Ev.ifn (nI_ge (by omega) (by omega)) ?_
        refine Ev.ifn hin ?_
        refine Ev.ifn r10 ?_
        refine Ev.ifn r32 ?_
        refine Ev.ifn him ?_
        refine Ev.letE ?_
        refine Ev.bnd (letter_c h3) ?_
        refine Ev.ifn (by rw [if_pos h4]; decide) ?_
        refine Ev.bnd f1 ?_
        rw [f2]
        refine Ev.ifn him ?_
        refine Ev.letE ?_
        refine Ev.ifn him ?_
        refine Ev.letE ?_
        exact ha
      · obtain ⟨e, hr⟩ := run_ex c 2 (n := n) (r + 1) k (by omega)
        have he := hr.2.1
        have hke : k < e := by
          rcases Nat.lt_or_ge k e with h | h
          · exact h
          · have : k = e := by have := hr.1; omega
            subst this
            exact absurd h4 (hr.2.2.2.resolve_left (by omega))
        obtain ⟨T, V, s1, s2⟩ := sc2 e h4 hr
        refine Ev.bnd s1 ?_
        obtain ⟨fc2, hfc2⟩ : ∃ fc2, fc = fc2 + (e - (k + 1)) := ⟨fc - (e - (k + 1)), by omega⟩
        subst hfc2
        show Ev (f_Tape_takeAll_L17 N (fc2 + (e - (k + 1))) v (nI (k + 1)) (upd tk m T) (upd pl m (nI k)) (vp_updL va m V) (nI (m + 1))) _
        rw [take_to hn hl hch he (e - (k + 1)) (k + 1) fc2 (by omega) (run_goes (Or.inr rfl) hr h4)]
        obtain ⟨q, f1, f2, f3⟩ := numR N (w := R_s_sort_place_value w so (upd pr m (nI k)) vr) (y1 := nI m) hn hsz hch (e - k) k N 0 (by omega) (by omega) (Nat.le_refl _) hr
        have f1 : f_R_cutAll_L159 N N (R_s_sort_place_value w so (upd pr m (nI k)) vr) (nI m) (nI k) (nI k) 0 = some q := f1
        have hd := dig4 (c := c) (e - k) k 0 (fun j g1 g2 => hr.2.2.1 j g1 (by omega))
        have htok : tokOne T V (if nI e - nI k ≤ 4 then 2 else 4) q.2 := by
          rw [pk_sub (by omega)]
          rcases s2 with ⟨c8, rfl, rfl⟩ | ⟨c8, rfl⟩
          · have hp : 10 ^ (e - k) ≤ 10 ^ 4 := Nat.pow_le_pow_right (by decide) c8
            have h104 : (10 : Nat) ^ 4 = 10000 := by decide
            rw [if_pos (leR (b := 4) (L := 4) rfl c8 (by decide)), f3 c8]
            exact Or.inr (Or.inl ⟨nB 10 (lts c 48 (e - k) k) 0, by omega, rfl, rfl, rfl, rfl⟩)
          · rw [if_neg (ngR (a := 4) (L := 4) rfl c8 (by omega))]
            exact Or.inr (Or.inr (Or.inr ⟨rfl, rfl⟩))
        have hi2 := hi.add (k := k) (by omega) htok
        refine (lex_loop hN hn hl hsz hch (n - e) e fc2 fr (m + 1) _ _ _ _ _ _ (by omega) (by omega) (by omega) (hbn e hke he (fun x => by omega) (fun x => by omega) (fun _ => by rw [h4]; exact hr)) (by omega) hi2).mono ?_
        intro a ha
        rw [f_R_cutAll_L17, hsz, nI_clamp (n := k) (by omega), nI_clamp (n := m) (by omega), h2, show nI m + 1 = nI (m + 1) from nI_1 m]
        refine Ev.ifn (nI_ge (by omega) (by omega)) ?_
        refine Ev.ifn hin ?_
        refine Ev.ifn r10 ?_
        refine Ev.ifn r32 ?_
        refine Ev.ifn him ?_
        refine Ev.letE ?_
        refine Ev.bnd (letter_c h3) ?_
        refine Ev.ifp (if_neg (by omega)) ?_
        refine Ev.bnd (digit_c h3) ?_
        refine Ev.ifn (by rw [if_pos h4]; decide) ?_
        refine Ev.bnd f1 ?_
        rw [f2]
        refine Ev.ifn him ?_
        refine Ev.letE ?_
        refine Ev.ifn him ?_
        refine Ev.letE ?_
        exact ha
      · obtain ⟨T, V, s1, s2⟩ := sc3 h4
        refine Ev.bnd s1 ?_
        obtain ⟨g1, -⟩ := sign_c (N := N) h3
        have htok : tokOne T V (if (if isSg (c k) = true then (1 : Int32) else 0) = 0 then 4 else 3) (Int32.toInt64 (nI (c k))) := by
          rw [nI_l (by omega)]
          rcases s2 with ⟨c8, rfl⟩ | ⟨c8, rfl⟩
          · rw [if_pos c8, if_neg (by decide)]
            exact Or.inr (Or.inr (Or.inl ⟨c k, h3, c8, rfl, rfl, rfl⟩))
          · rw [c8]
            exact Or.inr (Or.inr (Or.inr ⟨rfl, rfl⟩))
        have hi2 := hi.add (k := k) (by omega) htok
        refine (lex_loop hN hn hl hsz hch r (k + 1) fc fr (m + 1) _ _ _ _ _ _ (by omega) (by omega) (by omega) (hbn (k + 1) (by omega) (by omega) (fun _ => rfl) (fun _ => rfl) (fun x => by omega)) (by omega) hi2).mono ?_
        intro a ha
        rw [f_R_cutAll_L17, hsz, nI_clamp (n := k) (by omega), nI_clamp (n := m) (by omega), h2, show nI k + 1 = nI (k + 1) from nI_1 k, show nI m + 1 = nI (m + 1) from nI_1 m]
        refine Ev.ifn (nI_ge (by omega) (by omega)) ?_
        refine Ev.ifn hin ?_
        refine Ev.ifn r10 ?_
        refine Ev.ifn r32 ?_
        refine Ev.ifn him ?_
        refine Ev.letE ?_
        refine Ev.bnd (letter_c h3) ?_
        refine Ev.ifp (if_neg (by omega)) ?_
        refine Ev.bnd (digit_c h3) ?_
        refine Ev.ifp (if_neg (by omega)) ?_
        refine Ev.bnd g1 ?_
        refine Ev.ifn him ?_
        refine Ev.letE ?_
        refine Ev.ifn him ?_
        refine Ev.letE ?_
        exact ha
  termination_by r => r
/-- all tokens, the end behind them -/
def LexR (n m : Nat) (tk pl : Nat → Int32) (va : Nat → Int64) (so pr : Nat → Int32) (vr : Nat → Int64) : Prop := m ≤ n ∧ n ≤ 1000 ∧ TokInv n m tk pl va so pr vr ∧ tk m = 0 ∧ so m = 0 ∧ pl m = nI n ∧ pr m = nI n
theorem lex_both {N : Nat} (hN : 10000 ≤ N) {v : VTape} {w : VR} (h : tapeR w v) : Ev (f_Tape_takeAll N v) (fun a => Ev (f_R_cutAll N w) (fun b => ∃ n m, LexR n m a.2.1 a.2.2.1 a.2.2.2.1 b.2.2.1 b.2.2.2.1 b.2.2.2.2.1 ∧ a.1 = 0 ∧ a.2.2.2.2.1 = nI (m + 1) ∧ a.2.2.2.2.2.1 = 0 ∧ a.2.2.2.2.2.2 = 0 ∧ b.1 = 0 ∧ b.2.2.2.2.2.1 = 0 ∧ b.2.2.2.2.2.2 = 0)) := by
  obtain ⟨n, hn, h1, h2, h3⟩ := h
  obtain ⟨c, hch⟩ := CHr_of h3
  obtain ⟨a, e1, b, e2, m, hm, d1, d2, d3⟩ := lex_loop hN (v := Tape_s_tokenCount_at_fault v 0 0 0) (w := R_s_taped_size w 0 (R_taped w)) hn h1 h2 hch n 0 N N 0 (Tape_tokens v) (Tape_places v) (Tape_values v) (R_sort w) (R_place w) (R_value w) (by omega) (by omega) (by omega) (fun _ => by
    by_cases c0 : cls (c 0) = 0
    · exact Or.inl c0
    · exact Or.inr (fun g => g.elim c0 (fun x => absurd x.1 (Nat.lt_irrefl _)))) (Nat.le_refl _) (fun i hi => absurd hi (Nat.not_lt_zero _))
  have e1 : f_Tape_takeAll_L17 N N (Tape_s_tokenCount_at_fault v 0 0 0) 0 (Tape_tokens v) (Tape_places v) (Tape_values v) 0 = some a := e1
  have e2 : f_R_cutAll_L17 N N (R_s_taped_size w 0 (R_taped w)) 0 0 (R_sort w) (R_place w) (R_value w) = some b := e2
  unfold f_Tape_takeAll
  refine Ev.bnd e1 ?_
  refine Ev.bnd (addToken_ok (v := Tape_s_tokens_places_values_tokenCount_at_fault v a.1 a.2.1 a.2.2.1 a.2.2.2 0 0) (m := m) (by omega) d1) ?_
  refine Ev.ret ?_
  have him : ¬ (nI m < 0 ∨ 1002 ≤ m) := fun x => x.elim (nI_pos (by omega)) (fun y => by omega)
  unfold f_R_cutAll
  refine Ev.bnd e2 ?_
  rw [d2, nI_clamp (n := m) (by omega)]
  refine Ev.ifn him ?_
  refine Ev.letE ?_
  refine Ev.ifn him ?_
  refine Ev.letE ?_
  refine Ev.ret ⟨n, m, ⟨hm, hn, fun i hi => ?_, pk_us, pk_us, pk_us.trans h1, pk_us.trans h2⟩, rfl, rfl, rfl, rfl, rfl, rfl, rfl⟩
  show (∃ p, p ≤ n ∧ upd a.2.1 m (Tape_length v) i = nI p ∧ upd b.2.2.1 m (R_taped w) i = nI p) ∧ tokOne (upd a.1 m 0 i) (vp_updL a.2.2.1 m 0 i) (upd b.2.1 m 0 i) (b.2.2.2 i)
  rw [pk_un (by omega), pk_un (by omega), pk_un (by omega), pk_uLn (by omega), pk_un (by omega)]
  exact d3 i hi
