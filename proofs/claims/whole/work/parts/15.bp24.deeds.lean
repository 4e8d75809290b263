/-! ===== DEEDS ===== -/
theorem ltR {a b : Nat} {L : Int32} (hL : L = nI b) (h : a < b) (hb : b < 2 ^ 31) : nI a < L := by rw [hL]; exact nI_lt h hb
theorem ltF {a b : Nat} {L : Int32} (hL : L = nI a) (h : a < b) (hb : b < 2 ^ 31) : L < nI b := by rw [hL]; exact nI_lt h hb
theorem nltR {a b : Nat} {L : Int32} (hL : L = nI b) (h : b ≤ a) (hb : a < 2 ^ 31) : ¬ nI a < L := by rw [hL]; exact nI_nlt h hb
theorem nltF {a b : Nat} {L : Int32} (hL : L = nI a) (h : b ≤ a) (hb : a < 2 ^ 31) : ¬ L < nI b := by rw [hL]; exact nI_nlt h hb
theorem leR {a b : Nat} {L : Int32} (hL : L = nI b) (h : a ≤ b) (hb : b < 2 ^ 31) : nI a ≤ L := by rw [hL]; exact nI_le h hb
theorem leF {a b : Nat} {L : Int32} (hL : L = nI a) (h : a ≤ b) (hb : b < 2 ^ 31) : L ≤ nI b := by rw [hL]; exact nI_le h hb
theorem ngR {a b : Nat} {L : Int32} (hL : L = nI a) (h : a < b) (hb : b < 2 ^ 31) : ¬ nI b ≤ L := by rw [hL]; exact nI_ge h hb
theorem ngF {a b : Nat} {L : Int32} (hL : L = nI b) (h : a < b) (hb : b < 2 ^ 31) : ¬ L ≤ nI a := by rw [hL]; exact nI_ge h hb
abbrev D3 : Type := Int32 × Int32 × Int32
def dpay (s : D3) : Int32 := if (if s.1 < s.2.1 then s.1 else s.2.1) < 10 then (if s.1 < s.2.1 then s.1 else s.2.1) else 10
def dstep (ab k : Int32) (s : D3) : D3 := if k = 0 then ((if s.1 + ab < 9999 then s.1 + ab else 9999), s.2.1, s.2.2) else if k = 1 then (s.1 - dpay s, s.2.1 - dpay s, s.2.2) else (s.1, s.2.1, if ab ≤ 4 then (if s.2.2 + 1 < 9 then s.2.2 + 1 else 9) else (if s.2.2 + 2 < 9 then s.2.2 + 2 else 9))
def runD (ab : Int32) (s0 : D3) : Nat → Nat → D3
  | 0, _ => s0
  | n + 1, row => dstep ab (nI (row % 3)) (runD ab s0 n (row / 3))
def dOk (s : D3) : Prop := ∃ p d h : Nat, p ≤ 9999 ∧ d ≤ 999 ∧ h ≤ 9 ∧ s.1 = nI p ∧ s.2.1 = nI d ∧ s.2.2 = nI h
theorem dpay_ok {p d : Nat} {s : D3} (h1 : s.1 = nI p) (h2 : s.2.1 = nI d) (hp : p ≤ 9999) (hd : d ≤ 999) : dpay s = nI (min 10 (min p d)) := by
  unfold dpay
  rw [h1, h2]
  by_cases c : p < d
  · rw [if_pos (nI_lt c (by omega))]
    by_cases c2 : p < 10
    · rw [if_pos (ltR (b := 10) (L := 10) rfl c2 (by decide))]
      congr 1; omega
    · rw [if_neg (nltR (b := 10) (L := 10) rfl (by omega) (by omega)), show (10 : Int32) = nI 10 from rfl]
      congr 1; omega
  · rw [if_neg (nI_nlt (by omega) (by omega))]
    by_cases c2 : d < 10
    · rw [if_pos (ltR (b := 10) (L := 10) rfl c2 (by decide))]
      congr 1; omega
    · rw [if_neg (nltR (b := 10) (L := 10) rfl (by omega) (by omega)), show (10 : Int32) = nI 10 from rfl]
      congr 1; omega
theorem dpay_r {p d : Nat} {s : D3} (h1 : s.1 = nI p) (h2 : s.2.1 = nI d) (hp : p ≤ 9999) (hd : d ≤ 999) : (if (if (10 : Int32) ≤ s.2.1 then 10 else s.2.1) ≤ s.1 then (if (10 : Int32) ≤ s.2.1 then 10 else s.2.1) else s.1) = dpay s := by
  rw [dpay_ok h1 h2 hp hd, h1, h2]
  by_cases c : 10 ≤ d
  · rw [if_pos (leF (a := 10) (L := 10) rfl c (by omega)), show (10 : Int32) = nI 10 from rfl]
    by_cases c2 : 10 ≤ p
    · rw [if_pos (nI_le c2 (by omega))]
      congr 1; omega
    · rw [if_neg (nI_ge (by omega) (by decide))]
      congr 1; omega
  · rw [if_neg (ngF (b := 10) (L := 10) rfl (by omega) (by decide))]
    by_cases c2 : d ≤ p
    · rw [if_pos (nI_le c2 (by omega))]
      congr 1; omega
    · rw [if_neg (nI_ge (by omega) (by omega))]
      congr 1; omega
theorem dstep_ok {a : Nat} {k : Int32} {s : D3} (ha : a ≤ 9) (h : dOk s) : dOk (dstep (nI a) k s) := by
  obtain ⟨p, d, x, hp, hd, hx, h1, h2, h3⟩ := h
  unfold dstep
  by_cases k0 : k = 0
  · rw [if_pos k0]
    by_cases c : p + a < 9999
    · exact ⟨p + a, d, x, by omega, hd, hx, by show (if s.1 + nI a < 9999 then _ else _) = _; rw [h1, nI_add, if_pos (ltR (b := 9999) (L := 9999) rfl c (by decide))], h2, h3⟩
    · exact ⟨9999, d, x, by omega, hd, hx, by show (if s.1 + nI a < 9999 then _ else _) = _; rw [h1, nI_add, if_neg (nltR (b := 9999) (L := 9999) rfl (by omega) (by omega))]; rfl, h2, h3⟩
  · rw [if_neg k0]
    by_cases k1 : k = 1
    · rw [if_pos k1]
      refine ⟨p - min 10 (min p d), d - min 10 (min p d), x, by omega, by omega, hx, ?_, ?_, h3⟩
      · show s.1 - dpay s = _
        rw [dpay_ok h1 h2 hp hd, h1, pk_sub (by omega)]
      · show s.2.1 - dpay s = _
        rw [dpay_ok h1 h2 hp hd, h2, pk_sub (by omega)]
    · rw [if_neg k1]
      refine ⟨p, d, min 9 (x + (if a ≤ 4 then 1 else 2)), hp, hd, by omega, h1, h2, ?_⟩
      show (if nI a ≤ 4 then _ else _) = _
      rw [h3]
      by_cases c : a ≤ 4
      · rw [if_pos (leR (b := 4) (L := 4) rfl c (by decide)), if_pos c, show nI x + 1 = nI (x + 1) from nI_1 x]
        by_cases c2 : x + 1 < 9
        · rw [if_pos (ltR (b := 9) (L := 9) rfl c2 (by decide))]; congr 1; omega
        · rw [if_neg (nltR (b := 9) (L := 9) rfl (by omega) (by omega)), show (9 : Int32) = nI 9 from rfl]; congr 1; omega
      · rw [if_neg (ngR (a := 4) (L := 4) rfl (by omega) (by omega)), if_neg c, show nI x + 2 = nI (x + 2) from nI_add x 2]
        by_cases c2 : x + 2 < 9
        · rw [if_pos (ltR (b := 9) (L := 9) rfl c2 (by decide))]; congr 1; omega
        · rw [if_neg (nltR (b := 9) (L := 9) rfl (by omega) (by omega)), show (9 : Int32) = nI 9 from rfl]; congr 1; omega
theorem runD_ok {a : Nat} {s0 : D3} (ha : a ≤ 9) (h : dOk s0) : ∀ n row, dOk (runD (nI a) s0 n row)
  | 0, _ => h
  | n + 1, row => dstep_ok ha (runD_ok ha h n (row / 3))
/-- what it comes to -/
def gvD (v3 : VLaws) (hd : Int32) (s : D3) : Int32 := lawS v3 2 (fx5 (if 0 < s.1 - hd then s.1 - hd else 0) s.2.1 s.2.2 0 0)
def valD (v3 : VLaws) (hd ab : Int32) (s0 : D3) (D row : Nat) : Int32 := gvD v3 hd (runD ab s0 D row)
def bestR (f : Nat → Int32) : Nat → Nat
  | 0 => 0
  | n + 1 => if f (n + 1) ≤ f (bestR f n) then bestR f n else n + 1
theorem bestR_le (f : Nat → Int32) : ∀ n, bestR f n ≤ n
  | 0 => Nat.le_refl _
  | n + 1 => by
    have := bestR_le f n
    rw [bestR]
    split <;> omega
theorem rowsOf_loop (N : Nat) {D : Nat} (hD : D ≤ 7) : ∀ (r k fuel : Nat), k + r = D → r < fuel → f_Deeds_rowsOf_L4 N fuel (nI D) (nI (3 ^ k)) (nI k) = some (nI (3 ^ D))
  | _, _, 0, _, h => absurd h (Nat.not_lt_zero _)
  | 0, k, fuel + 1, hk, hf => by
    have hk : k = D := hk
    subst hk
    rw [f_Deeds_rowsOf_L4]
    exact zifp (nI_le (by omega) (by omega)) rfl
  | r + 1, k, fuel + 1, hk, hf => by
    rw [f_Deeds_rowsOf_L4, show nI (3 ^ k) * 3 = nI (3 ^ (k + 1)) by rw [show (3 : Int32) = nI 3 from rfl, pk_mul, Nat.pow_succ], show nI k + 1 = nI (k + 1) from nI_1 k]
    refine zifn (nI_ge (by omega) (by omega)) ?_
    refine zifn (ngF (b := 7) (L := 7) rfl (by omega) (by decide)) ?_
    exact rowsOf_loop N hD r (k + 1) fuel (by omega) (by omega)
theorem rowsOf_ok {N D : Nat} (hN : 10000 ≤ N) (hD : D ≤ 7) : f_Deeds_rowsOf N (nI D) = some (nI (3 ^ D)) := by
  unfold f_Deeds_rowsOf
  exact bnd (rowsOf_loop N hD D 0 N (by omega) (by omega)) rfl
theorem pow3 {n m : Nat} (h : n ≤ m) : 3 ^ n ≤ 3 ^ m := Nat.pow_le_pow_right (by decide) h
theorem pow3_7 {n : Nat} (h : n ≤ 7) : 3 ^ n ≤ 2187 := pow3 h
theorem pow3_0 (n : Nat) : 0 < 3 ^ n := Nat.pow_pos (by decide)
theorem deedIn_ok {N D row i : Nat} (hN : 10000 ≤ N) (hD : D ≤ 7) (hr : row ≤ 2187) (hi : i < D) : f_Deeds_deedIn N (nI row) (nI D) (nI i) = some (nI (row / 3 ^ (D - 1 - i) % 3)) := by
  have h1 := pow3_7 (show D - 1 - i ≤ 7 by omega)
  have h0 := pow3_0 (D - 1 - i)
  unfold f_Deeds_deedIn
  rw [show (nI D - 1) - nI i = nI (D - 1 - i) by rw [show (1 : Int32) = nI 1 from rfl, pk_sub (by omega), pk_sub (by omega)]]
  refine bnd (rowsOf_ok hN (by omega)) ?_
  refine zifn (nI_nle h0 (by omega)) ?_
  refine zifn (nI_ne0 h0 (by omega)) ?_
  have h2 : row / 3 ^ (D - 1 - i) ≤ row := Nat.div_le_self _ _
  rw [pk_div (by omega) h0 (by omega), show (3 : Int32) = nI 3 from rfl, pk_rem (by omega) (by decide) (by decide)]
theorem div3 {row D i : Nat} (hi : i < D) : row / 3 ^ (D - i) = row / 3 ^ (D - 1 - i) / 3 := by
  rw [Nat.div_div_eq_div_mul, ← Nat.pow_succ]
  congr 2
  omega
theorem dk3 (x : Nat) : nI (x % 3) = 0 ∨ nI (x % 3) = 1 ∨ nI (x % 3) = 2 := by
  have : x % 3 = 0 ∨ x % 3 = 1 ∨ x % 3 = 2 := by omega
  rcases this with h | h | h
  · rw [h]; exact Or.inl rfl
  · rw [h]; exact Or.inr (Or.inl rfl)
  · rw [h]; exact Or.inr (Or.inr rfl)
theorem goodBy_loop {N : Nat} (hN : 10000 ≤ N) {v10 : VLives} {v2 : VTown} {v3 : VLaws} {D row : Nat} {y2 y3 ab : Int32} {s0 : D3} (hD : D ≤ 7) (hr : row ≤ 2187) : ∀ (r i fuel : Nat), i + r = D → r < fuel → f_Deeds_goodBy_L52 N fuel v10 v2 v3 (nI row) y2 y3 (nI D) ab (runD ab s0 i (row / 3 ^ (D - i))).1 (runD ab s0 i (row / 3 ^ (D - i))).2.1 (runD ab s0 i (row / 3 ^ (D - i))).2.2 (nI i) = some (runD ab s0 D row)
  | _, _, 0, _, h => absurd h (Nat.not_lt_zero _)
  | 0, i, fuel + 1, hk, hf => by
    have hk : i = D := hk
    subst hk
    rw [f_Deeds_goodBy_L52, Nat.sub_self, Nat.pow_zero, Nat.div_one]
    exact zifp (nI_le (by omega) (by omega)) rfl
  | r + 1, i, fuel + 1, hk, hf => by
    have hi : i < D := by omega
    have ih := goodBy_loop hN (v10 := v10) (v2 := v2) (v3 := v3) (y2 := y2) (y3 := y3) (ab := ab) (s0 := s0) hD hr r (i + 1) fuel (by omega) (by omega)
    have e1 : runD ab s0 (i + 1) (row / 3 ^ (D - (i + 1))) = dstep ab (nI (row / 3 ^ (D - 1 - i) % 3)) (runD ab s0 i (row / 3 ^ (D - i))) := by
      rw [div3 hi, show D - (i + 1) = D - 1 - i by omega]
      rfl
    rw [e1] at ih
    rw [f_Deeds_goodBy_L52, show nI i + 1 = nI (i + 1) from nI_1 i]
    refine zifn (nI_ge (by omega) (by omega)) ?_
    refine bnd (deedIn_ok hN hD hr hi) ?_
    generalize runD ab s0 i (row / 3 ^ (D - i)) = s at ih ⊢
    generalize hd : nI (row / 3 ^ (D - 1 - i) % 3) = d at ih ⊢
    have hd3 : d = 0 ∨ d = 1 ∨ d = 2 := by rw [← hd]; exact dk3 _
    refine zletG (y := (dstep ab d s).1) ?_ ?_
    · unfold dstep dpay
      rcases hd3 with rfl | rfl | rfl <;> rfl
    · refine zletG (y := (dstep ab d s).2.1) ?_ ?_
      · unfold dstep dpay
        rcases hd3 with rfl | rfl | rfl <;> rfl
      · refine zletG (y := (dstep ab d s).2.2) ?_ ?_
        · unfold dstep
          rcases hd3 with rfl | rfl | rfl <;> rfl
        · exact ih
theorem goodBy_ev {N : Nat} (hN : 10000 ≤ N) {v10 : VLives} {v2 : VTown} {v3 : VLaws} {P D row p l : Nat} {fa sk : Nat → Int32} (hP : tpl v2 P) (h2 : lawOk v3 2) (hp : p < P) (hl : l < P) (hD : D ≤ 7) (hr : row ≤ 2187) : Ev (f_Deeds_goodBy N v10 v2 (Laws_s_facts_stack v3 fa sk) (nI row) (nI p) (nI l) (nI D)) (fun q => q.1 = valD v3 (Lives_hidden v10 l) (Town_skills v2 p) (Lives_purse v10 l, Lives_debt v10 l, Lives_home v10 l) D row) := by
  have h6 := hP.2
  have hi : ¬ (nI l < 0 ∨ 6 ≤ l) := fun x => x.elim (nI_pos (by omega)) (fun y => by omega)
  have hlp := goodBy_loop hN (v10 := v10) (v2 := v2) (v3 := Laws_s_facts_stack v3 fa sk) (y2 := nI p) (y3 := nI l) (ab := Town_skills v2 p) (s0 := (Lives_purse v10 l, Lives_debt v10 l, Lives_home v10 l)) hD hr D 0 N (by omega) (by omega)
  have hlp : f_Deeds_goodBy_L52 N N v10 v2 (Laws_s_facts_stack v3 fa sk) (nI row) (nI p) (nI l) (nI D) (Town_skills v2 p) (Lives_purse v10 l) (Lives_debt v10 l) (Lives_home v10 l) 0 = some (runD (Town_skills v2 p) (Lives_purse v10 l, Lives_debt v10 l, Lives_home v10 l) D row) := hlp
  unfold f_Deeds_goodBy valD gvD
  rw [nI_clamp (n := l) (by omega)]
  refine Ev.bnd (has_ok hP hl) ?_
  refine Ev.ifn (by decide) ?_
  refine Ev.bnd (skillOf_ok hP hp) ?_
  refine Ev.ifn hi ?_
  refine Ev.ifn hi ?_
  refine Ev.ifn hi ?_
  refine Ev.bnd hlp ?_
  refine Ev.ifn hi ?_
  refine Ev.bnd (kindOf_ok hP hp) ?_
  generalize runD (Town_skills v2 p) (Lives_purse v10 l, Lives_debt v10 l, Lives_home v10 l) D row = s
  refine Ev.letE ?_
  refine Ev.bnd setFacts_ok ?_
  obtain ⟨k, hv⟩ := valueF hN (v := Laws_s_facts_stack v3 fa sk) (k := 2) (by decide) h2 (Laws_facts (Laws_s_facts_stack v3 fa sk)) (if 0 < s.1 - Lives_hidden v10 l then s.1 - Lives_hidden v10 l else 0) s.2.1 s.2.2 (Town_skills v2 p) (Town_kinds v2 p)
  refine Ev.bnd hv ?_
  refine Ev.ret ?_
  have e2 : lawS (Laws_s_facts_stack v3 fa sk) 2 = lawS v3 2 := rfl
  show lawS (Laws_s_facts_stack v3 fa sk) 2 _ = _
  rw [e2]
  refine lawS_cong h2 (fun j hj => ?_) (by decide)
  have hj : j < 3 := hj
  have : j = 0 ∨ j = 1 ∨ j = 2 := by omega
  rcases this with rfl | rfl | rfl <;> rfl
theorem seek_deeds {N : Nat} (hN : 10000 ≤ N) {v19 : VDeeds} {v10 : VLives} {v2 : VTown} {v3 : VLaws} {P D p l : Nat} {f : Nat → Int32} (hf0 : f = valD v3 (Lives_hidden v10 l) (Town_skills v2 p) (Lives_purse v10 l, Lives_debt v10 l, Lives_home v10 l) D) (hP : tpl v2 P) (h2 : lawOk v3 2) (hp : p < P) (hl : l < P) (hD : D ≤ 7) : ∀ (r k fuel : Nat) (g0 r0 : Int32) (fa sk : Nat → Int32), k + r = 3 ^ D → r < fuel → (k = 0 ∨ ∃ j, k = j + 1 ∧ g0 = f (bestR f j) ∧ r0 = nI (bestR f j)) → Ev (f_Deeds_seek_L10 N fuel v19 v10 v2 v3 (nI p) (nI l) (nI D) (nI (3 ^ D)) (nI k) g0 r0 fa sk) (fun q => q.1 = f (bestR f (3 ^ D - 1)) ∧ q.2.1 = nI (bestR f (3 ^ D - 1)))
  | _, _, 0, _, _, _, _, _, h, _ => absurd h (Nat.not_lt_zero _)
  | 0, k, fuel + 1, g0, r0, fa, sk, hk, hf, hx => by
    have h7 := pow3_7 hD
    have h0 := pow3_0 D
    obtain ⟨j, rfl, rfl, rfl⟩ := hx.resolve_left (by omega)
    have e : 3 ^ D - 1 = j := by omega
    rw [f_Deeds_seek_L10, e]
    refine Ev.ifp (nI_le (by omega) (by omega)) ?_
    exact Ev.ret ⟨rfl, rfl⟩
  | r + 1, k, fuel + 1, g0, r0, fa, sk, hk, hf, hx => by
    have h7 := pow3_7 hD
    rw [f_Deeds_seek_L10, show nI k + 1 = nI (k + 1) from nI_1 k]
    refine Ev.ifn (nI_ge (by omega) (by omega)) ?_
    refine Ev.bnx (goodBy_ev hN (fa := fa) (sk := sk) hP h2 hp hl hD (show k ≤ 2187 by omega)) ?_
    intro q hq
    rw [← hf0] at hq
    rw [hq]
    refine Ev.letE ?_
    refine Ev.letE ?_
    refine seek_deeds hN hf0 hP h2 hp hl hD r (k + 1) fuel _ _ q.2.1 q.2.2 (by omega) (by omega) (Or.inr ⟨k, rfl, ?_⟩)
    rcases hx with rfl | ⟨j, rfl, rfl, rfl⟩
    · have h00 : nI 0 = (0 : Int32) := rfl
      rw [if_pos h00, if_pos h00]
      exact ⟨rfl, rfl⟩
    · have hne : ¬ nI (j + 1) = 0 := nI_ne0 (by omega) (by omega)
      rw [if_neg hne, if_neg hne, bestR]
      by_cases c : f (j + 1) ≤ f (bestR f j)
      · rw [if_pos c, if_pos c, if_pos c]
        exact ⟨rfl, rfl⟩
      · rw [if_neg c, if_neg c, if_neg c]
        exact ⟨rfl, rfl⟩
theorem seekDeeds_ev {N : Nat} (hN : 10000 ≤ N) {v19 : VDeeds} {v10 : VLives} {v2 : VTown} {v3 : VLaws} {P D p l : Nat} (hP : tpl v2 P) (h2 : lawOk v3 2) (hp : p < P) (hl : l < P) (hD : D ≤ 7) : Ev (f_Deeds_seek N v19 v10 v2 v3 (nI p) (nI l) (nI D)) (fun q => q.1 = valD v3 (Lives_hidden v10 l) (Town_skills v2 p) (Lives_purse v10 l, Lives_debt v10 l, Lives_home v10 l) D (bestR (valD v3 (Lives_hidden v10 l) (Town_skills v2 p) (Lives_purse v10 l, Lives_debt v10 l, Lives_home v10 l) D) (3 ^ D - 1)) ∧ q.2.1 = nI (bestR (valD v3 (Lives_hidden v10 l) (Town_skills v2 p) (Lives_purse v10 l, Lives_debt v10 l, Lives_home v10 l) D) (3 ^ D - 1))) := by
  have h7 := pow3_7 hD
  unfold f_Deeds_seek
  refine Ev.bnd (rowsOf_ok hN hD) ?_
  obtain ⟨q, e, q1, q2⟩ := seek_deeds hN (v19 := v19) rfl hP h2 hp hl hD (3 ^ D) 0 N (Deeds_bestGood v19) (Deeds_bestRow v19) (Laws_facts v3) (Laws_stack v3) (by omega) (by omega) (Or.inl rfl)
  have e : f_Deeds_seek_L10 N N v19 v10 v2 v3 (nI p) (nI l) (nI D) (nI (3 ^ D)) 0 (Deeds_bestGood v19) (Deeds_bestRow v19) (Laws_facts v3) (Laws_stack v3) = some q := e
  refine Ev.bnd e ?_
  exact Ev.ret ⟨q1, q2⟩
/-! the reference -/
def FD (D : Nat) (f : Nat → Int32) (fo mg : Int32) (bd : Nat → Int32) (m : Nat) : Prop := (m = 0 ∧ fo = 0) ∨ (0 < m ∧ fo = 1 ∧ mg = f (bestR f (m - 1)) ∧ ∀ i, i < D → bd i = nI (bestR f (m - 1) / 3 ^ (D - 1 - i) % 3))
theorem rgood_ev {N : Nat} (hN : 10000 ≤ N) {w : VR} {v2 : VTown} {v3 : VLaws} {P : Nat} {m o n : Int32} (hT : townR w v2 v3 P) : Ev (f_R_goodOf N w m o n) (fun q => q.1 = lawS v3 2 (fx5 m o n 0 0)) := by
  have hlr := hT.2.2.2 2 (by decide)
  unfold f_R_goodOf
  refine Ev.letE ?_
  refine Ev.letE ?_
  refine Ev.letE ?_
  by_cases c : 0 ≤ R_towns w (3 + 2)
  · refine Ev.ifp c ?_
    obtain ⟨pl, e⟩ := worthAt_ok hN (w := R_facts_s w (upd (upd (upd (R_facts w) 0 m) 1 o) 2 n)) hlr c (fx := fx5 m o n 0 0) (fun j hj => by
      have hj : j < 3 := hj
      have : j = 0 ∨ j = 1 ∨ j = 2 := by omega
      rcases this with rfl | rfl | rfl <;> rfl)
    refine Ev.bnd e ?_
    exact Ev.ret rfl
  · refine Ev.ifn c ?_
    refine Ev.ret ?_
    rw [untold_ok hlr c]
    rfl
theorem deed_copy {N : Nat} {rr : VR → Int32 → Int32 → Int32 → Int32 → Int32 → Int32 → Option ((Nat → Int32) × (Nat → Int32) × (Nat → Int32) × (Nat → Int32) × Int32 × Int32)} {w : VR} {D : Nat} (hD : D ≤ 7) : ∀ (r k fuel : Nat) (bd : Nat → Int32), k + r = D → r < fuel → Ev (f_R_deedsFrom_L62 rr N fuel w (nI D) (nI k) bd) (fun q => (∀ i, k ≤ i → i < D → q i = R_deed w i) ∧ ∀ i, i < k → q i = bd i)
  | _, _, 0, _, _, h => absurd h (Nat.not_lt_zero _)
  | 0, k, fuel + 1, bd, hk, hf => by
    rw [f_R_deedsFrom_L62]
    refine Ev.ifp (nI_le (by omega) (by omega)) ?_
    exact Ev.ret ⟨fun i h1 h2 => absurd h2 (by omega), fun i _ => rfl⟩
  | r + 1, k, fuel + 1, bd, hk, hf => by
    rw [f_R_deedsFrom_L62, nI_clamp (n := k) (by omega), show nI k + 1 = nI (k + 1) from nI_1 k]
    refine Ev.ifn (nI_ge (by omega) (by omega)) ?_
    refine Ev.ifn (fun x => x.elim (nI_pos (by omega)) (fun y => by omega)) ?_
    refine Ev.ifn (fun x => x.elim (nI_pos (by omega)) (fun y => by omega)) ?_
    refine Ev.letE ?_
    refine (deed_copy hD r (k + 1) fuel _ (by omega) (by omega)).mono ?_
    rintro q ⟨q1, q2⟩
    refine ⟨fun i h1 h2 => ?_, fun i h1 => ?_⟩
    · by_cases e : i = k
      · subst e; rw [q2 i (by omega), pk_us]
      · exact q1 i (by omega) h2
    · rw [q2 i (by omega), pk_un (by omega)]
theorem money_r {p h : Nat} (hp : p ≤ 9999) (hh : h ≤ 9999) : (if nI h ≤ nI p then nI p - nI h else 0) = (if 0 < nI p - nI h then nI p - nI h else 0) := by
  by_cases c : h ≤ p
  · rw [if_pos (nI_le c (by omega)), pk_sub c]
    by_cases c2 : 0 < p - h
    · rw [if_pos (ltF (a := 0) (L := 0) rfl c2 (by omega))]
    · rw [if_neg (nltF (a := 0) (L := 0) rfl (by omega) (by omega)), show p - h = 0 by omega]
      rfl
  · have hs := pk_sneg (a := p) (b := h) (by omega) (by omega)
    rw [if_neg (nI_ge (by omega) (by omega)), if_neg (show ¬ 0 < nI p - nI h by grind)]
theorem dig_child {c k n i : Nat} (hk : k < 3) (hi : i < n) : (3 * c + k) / 3 ^ (n + 1 - 1 - i) % 3 = c / 3 ^ (n - 1 - i) % 3 := by
  rw [show n + 1 - 1 - i = (n - 1 - i) + 1 by omega, Nat.pow_succ, Nat.mul_comm (3 ^ (n - 1 - i)) 3, ← Nat.div_div_eq_div_mul, show (3 * c + k) / 3 = c by omega]
theorem three (c t : Nat) : c * (t * 3) = 3 * c * t := by rw [Nat.mul_comm t 3, ← Nat.mul_assoc, Nat.mul_comm c 3]
theorem FD_step {D : Nat} {f : Nat → Int32} {fo mg : Int32} {bd : Nat → Int32} {m : Nat} (h : FD D f fo mg bd m) : (fo = 0 ∨ (¬ fo = 0 ∧ ¬ f m ≤ mg) → ∀ bd', (∀ i, i < D → bd' i = nI (m / 3 ^ (D - 1 - i) % 3)) → FD D f 1 (f m) bd' (m + 1)) ∧ (¬ fo = 0 → f m ≤ mg → FD D f fo mg bd (m + 1)) := by
  refine ⟨fun hc bd' hb => ?_, fun h1 h2 => ?_⟩
  · rcases h with ⟨rfl, -⟩ | ⟨h1, h2, h3, h4⟩
    · exact Or.inr ⟨by omega, rfl, rfl, hb⟩
    · obtain ⟨j, rfl⟩ : ∃ j, m = j + 1 := ⟨m - 1, by omega⟩
      have hn : ¬ f (j + 1) ≤ mg := by
        rcases hc with hc | hc
        · rw [h2] at hc; exact absurd hc (by decide)
        · exact hc.2
      have e : bestR f (j + 1 + 1 - 1) = j + 1 := by
        show bestR f (j + 1) = j + 1
        rw [bestR, if_neg (by rw [h3] at hn; exact hn)]
      exact Or.inr ⟨by omega, rfl, by rw [e], by rw [e]; exact hb⟩
  · rcases h with ⟨-, h0⟩ | ⟨g1, g2, g3, g4⟩
    · exact absurd h0 h1
    · obtain ⟨j, rfl⟩ : ∃ j, m = j + 1 := ⟨m - 1, by omega⟩
      have e : bestR f (j + 1 + 1 - 1) = bestR f (j + 1 - 1) := by
        show bestR f (j + 1) = bestR f j
        rw [bestR, if_pos (by rw [g3] at h2; exact h2)]
      exact Or.inr ⟨by omega, g2, by rw [e]; exact g3, by rw [e]; exact g4⟩
theorem deeds_rec {N : Nat} (hN : 10000 ≤ N) {v2 : VTown} {v3 : VLaws} {P D a hd : Nat} {s0 : D3} {f : Nat → Int32} (hD : D ≤ 7) (ha : a ≤ 9) (hhd : hd ≤ 9999) (hs0 : dOk s0) (hf : f = valD v3 (nI hd) (nI a) s0 D) : ∀ (r n c e : Nat) (w : VR), n + r = D → c < 3 ^ n → townR w v2 v3 P → R_deedsMany w = nI D → FD D f (R_isFound w) (R_mostGood w) (R_bestDeeds w) (c * 3 ^ r) → (∀ i, i < n → R_deed w i = nI (c / 3 ^ (n - 1 - i) % 3)) → Ev (g_R_deedsFrom N (r + 1 + e) w (nI n) (nI a) (runD (nI a) s0 n c).1 (nI hd) (runD (nI a) s0 n c).2.1 (runD (nI a) s0 n c).2.2) (fun q => FD D f q.2.2.2.2.2 q.2.2.2.2.1 q.2.2.2.1 ((c + 1) * 3 ^ r) ∧ ∀ i, i < n → q.2.2.1 i = nI (c / 3 ^ (n - 1 - i) % 3))
  | 0, n, c, e, w, hn, hc, hT, hDm, hFD, hde => by
    have hn : n = D := hn
    subst hn
    have hc2 := pow3_7 hD
    rw [show (0 : Nat) + 1 + e = e + 1 by omega, g_R_deedsFrom]
    unfold f_R_deedsFrom_b
    obtain ⟨p, d, x, hp, hd9, hx, h1, h2, h3⟩ := runD_ok ha hs0 n c
    refine Ev.ifp hDm.symm ?_
    refine Ev.bnx (rgood_ev hN hT) ?_
    intro q hq
    have hv : q.1 = f c := by
      rw [hq, h1, money_r hp hhd, ← h1, hf]
      rfl
    rw [Nat.pow_zero, Nat.mul_one] at hFD ⊢
    obtain ⟨g1, g2⟩ := FD_step hFD
    by_cases c0 : R_isFound w = 0
    · refine Ev.ifp c0 ?_
      obtain ⟨b, e1, b1, -⟩ := deed_copy (N := N) (rr := g_R_deedsFrom N e) (w := R_s_facts_pile_mostGood_isFound w q.2.1 q.2.2 q.1 1) hD n 0 N (R_bestDeeds w) (by omega) (by omega)
      have e1 : f_R_deedsFrom_L62 (g_R_deedsFrom N e) N N (R_s_facts_pile_mostGood_isFound w q.2.1 q.2.2 q.1 1) (nI n) 0 (R_bestDeeds w) = some b := e1
      refine Ev.bnd e1 ?_
      refine Ev.ret ⟨?_, hde⟩
      show FD n f 1 q.1 b (c + 1)
      rw [hv]
      exact g1 (Or.inl c0) b (fun i hi => (b1 i (Nat.zero_le _) hi).trans (hde i hi))
    · refine Ev.ifn c0 ?_
      by_cases c1 : q.1 ≤ R_mostGood w
      · refine Ev.ifp c1 ?_
        refine Ev.ret ⟨?_, hde⟩
        rw [hv] at c1
        exact g2 c0 c1
      · refine Ev.ifn c1 ?_
        obtain ⟨b, e1, b1, -⟩ := deed_copy (N := N) (rr := g_R_deedsFrom N e) (w := R_s_facts_pile_mostGood_isFound w q.2.1 q.2.2 q.1 1) hD n 0 N (R_bestDeeds w) (by omega) (by omega)
        have e1 : f_R_deedsFrom_L62 (g_R_deedsFrom N e) N N (R_s_facts_pile_mostGood_isFound w q.2.1 q.2.2 q.1 1) (nI n) 0 (R_bestDeeds w) = some b := e1
        refine Ev.bnd e1 ?_
        refine Ev.ret ⟨?_, hde⟩
        show FD n f 1 q.1 b (c + 1)
        rw [hv] at c1 ⊢
        exact g1 (Or.inr ⟨c0, c1⟩) b (fun i hi => (b1 i (Nat.zero_le _) hi).trans (hde i hi))
  | r + 1, n, c, e, w, hn, hc, hT, hDm, hFD, hde => by
    obtain ⟨p, d, x, hp, hd9, hx, h1, h2, h3⟩ := runD_ok ha hs0 n c
    have hch : ∀ k, k < 3 → 3 * c + k < 3 ^ (n + 1) := fun k hk => by
      rw [Nat.pow_succ]; omega
    have hrun : ∀ k, k < 3 → runD (nI a) s0 (n + 1) (3 * c + k) = dstep (nI a) (nI k) (runD (nI a) s0 n c) := fun k hk => by
      rw [runD, show (3 * c + k) % 3 = k by omega, show (3 * c + k) / 3 = c by omega]
    have hdg : ∀ (k : Nat) (g : Nat → Int32), k < 3 → (∀ i, i < n → g i = nI (c / 3 ^ (n - 1 - i) % 3)) → ∀ i, i < n + 1 → upd g n (nI k) i = nI ((3 * c + k) / 3 ^ (n + 1 - 1 - i) % 3) := fun k g hk hg i hi => by
      by_cases e : i = n
      · subst e
        rw [pk_us, show i + 1 - 1 - i = 0 by omega, Nat.pow_zero, Nat.div_one]
        congr 1; omega
      · rw [pk_un e, dig_child hk (by omega)]
        exact hg i (by omega)
    have hgd : ∀ (k : Nat) (g : Nat → Int32), k < 3 → (∀ i, i < n + 1 → g i = nI ((3 * c + k) / 3 ^ (n + 1 - 1 - i) % 3)) → ∀ i, i < n → g i = nI (c / 3 ^ (n - 1 - i) % 3) := fun k g hk hg i hi => by
      rw [hg i (by omega), dig_child hk hi]
    have hFD : FD D f (R_isFound w) (R_mostGood w) (R_bestDeeds w) ((3 * c + 0) * 3 ^ r) := by
      rw [Nat.pow_succ, three] at hFD
      exact hFD
    have i1 : ¬ (nI n < 0 ∨ 7 ≤ n) := fun x => x.elim (nI_pos (by omega)) (fun y => by omega)
    rw [show r + 1 + 1 + e = (r + 1 + e) + 1 by omega, g_R_deedsFrom]
    unfold f_R_deedsFrom_b
    rw [nI_clamp (n := n) (by omega), show nI n + 1 = nI (n + 1) from nI_1 n]
    refine Ev.ifn (fun q => by rw [hDm] at q; have := (nI_eq (by omega) (by omega)).mp q; omega) ?_
    refine Ev.letG (dpay_r h1 h2 hp hd9) ?_
    refine Ev.ifn i1 ?_
    refine Ev.letE ?_
    -- save
    obtain ⟨q, e1, q1, q2⟩ := deeds_rec hN hD ha hhd hs0 hf r (n + 1) (3 * c + 0) e (R_deed_s w (upd (R_deed w) n 0)) (by omega) (hch 0 (by decide)) hT hDm hFD (hdg 0 _ (by decide) hde)
    rw [hrun 0 (by decide)] at e1
    have x0 : dstep (nI a) (nI 0) (runD (nI a) s0 n c) = ((if (runD (nI a) s0 n c).1 + nI a ≤ 9999 then (runD (nI a) s0 n c).1 + nI a else 9999), (runD (nI a) s0 n c).2.1, (runD (nI a) s0 n c).2.2) := by
      have h00 : nI 0 = (0 : Int32) := rfl
      unfold dstep
      rw [if_pos h00, h1, nI_add]
      by_cases c9 : p + a < 9999
      · rw [if_pos (ltR (b := 9999) (L := 9999) rfl c9 (by decide)), if_pos (leR (b := 9999) (L := 9999) rfl (by omega) (by decide))]
      · rw [if_neg (nltR (b := 9999) (L := 9999) rfl (by omega) (by omega))]
        by_cases c8 : p + a = 9999
        · rw [c8]; rfl
        · rw [if_neg (ngR (a := 9999) (L := 9999) rfl (by omega) (by omega))]
    rw [x0] at e1
    refine Ev.bnd e1 ?_
    refine Ev.ifn i1 ?_
    refine Ev.letE ?_
    -- pay
    obtain ⟨q', e2, q3, q4⟩ := deeds_rec hN hD ha hhd hs0 hf r (n + 1) (3 * c + 1) e (R_s_facts_pile_deed_bestDeeds_mostGood_isFound w q.1 q.2.1 (upd q.2.2.1 n 1) q.2.2.2.1 q.2.2.2.2.1 q.2.2.2.2.2) (by omega) (hch 1 (by decide)) hT hDm q1 (hdg 1 _ (by decide) (hgd 0 _ (by decide) q2))
    rw [hrun 1 (by decide)] at e2
    have x1 : dstep (nI a) (nI 1) (runD (nI a) s0 n c) = ((runD (nI a) s0 n c).1 - dpay (runD (nI a) s0 n c), (runD (nI a) s0 n c).2.1 - dpay (runD (nI a) s0 n c), (runD (nI a) s0 n c).2.2) := by
      have h11 : nI 1 = (1 : Int32) := rfl
      unfold dstep
      rw [if_neg (by decide), if_pos h11]
    rw [x1] at e2
    refine Ev.bnd e2 ?_
    refine Ev.ifn i1 ?_
    refine Ev.letE ?_
    -- mend
    obtain ⟨q'', e3, q5, q6⟩ := deeds_rec hN hD ha hhd hs0 hf r (n + 1) (3 * c + 2) e (R_s_facts_pile_deed_bestDeeds_mostGood_isFound w q'.1 q'.2.1 (upd q'.2.2.1 n 2) q'.2.2.2.1 q'.2.2.2.2.1 q'.2.2.2.2.2) (by omega) (hch 2 (by decide)) hT hDm q3 (hdg 2 _ (by decide) (hgd 1 _ (by decide) q4))
    rw [hrun 2 (by decide)] at e3
    have x2 : dstep (nI a) (nI 2) (runD (nI a) s0 n c) = ((runD (nI a) s0 n c).1, (runD (nI a) s0 n c).2.1, (if (runD (nI a) s0 n c).2.2 + (if nI a ≤ 4 then (1 : Int32) else 2) ≤ 9 then (runD (nI a) s0 n c).2.2 + (if nI a ≤ 4 then (1 : Int32) else 2) else 9)) := by
      unfold dstep
      rw [if_neg (by decide), if_neg (by decide), h3]
      by_cases c4 : nI a ≤ 4
      · rw [if_pos c4, if_pos c4, show nI x + 1 = nI (x + 1) from nI_1 x]
        by_cases c9 : x + 1 < 9
        · rw [if_pos (ltR (b := 9) (L := 9) rfl c9 (by decide)), if_pos (leR (b := 9) (L := 9) rfl (by omega) (by decide))]
        · rw [if_neg (nltR (b := 9) (L := 9) rfl (by omega) (by omega))]
          by_cases c8 : x + 1 = 9
          · rw [c8]; rfl
          · rw [if_neg (ngR (a := 9) (L := 9) rfl (by omega) (by omega))]
      · rw [if_neg c4, if_neg c4, show nI x + 2 = nI (x + 2) from nI_add x 2]
        by_cases c9 : x + 2 < 9
        · rw [if_pos (ltR (b := 9) (L := 9) rfl c9 (by decide)), if_pos (leR (b := 9) (L := 9) rfl (by omega) (by decide))]
        · rw [if_neg (nltR (b := 9) (L := 9) rfl (by omega) (by omega))]
          by_cases c8 : x + 2 = 9
          · rw [c8]; rfl
          · rw [if_neg (ngR (a := 9) (L := 9) rfl (by omega) (by omega))]
    rw [x2] at e3
    refine Ev.letE ?_
    refine Ev.bnd e3 ?_
    refine Ev.ret ⟨?_, hgd 2 _ (by decide) q6⟩
    show FD D f q''.2.2.2.2.2 q''.2.2.2.2.1 q''.2.2.2.1 ((c + 1) * 3 ^ (r + 1))
    rw [Nat.pow_succ, three, show 3 * (c + 1) = 3 * c + 2 + 1 by omega]
    exact q5
