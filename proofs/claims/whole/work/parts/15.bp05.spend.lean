/-! ===== a day: what the class's methods come to ===== -/
abbrev T3 : Type := (Nat → Int32) × (Nat → Int32) × (Nat → Int32)
def fx5 (m o n a t : Int32) : Nat → Int32 := fun j => if j = 0 then m else if j = 1 then o else if j = 2 then n else if j = 3 then a else t
def fset (f : Nat → Int32) (m o n a t : Int32) : Nat → Int32 := upd (upd (upd (upd (upd f 0 m) 1 o) 2 n) 3 a) 4 t
theorem fset_eq {f : Nat → Int32} {m o n a t : Int32} : ∀ j, j < 5 → fset f m o n a t j = fx5 m o n a t j := by
  intro j hj
  have : j = 0 ∨ j = 1 ∨ j = 2 ∨ j = 3 ∨ j = 4 := by omega
  rcases this with rfl | rfl | rfl | rfl | rfl <;> rfl
def gainS (pu : Nat → Int32) (j : Nat) (c : Int32) : Nat → Int32 := upd pu j (if pu j + c < 9999 then pu j + c else 9999)
def gainO (pu : Nat → Int32) (p c : Int32) : Nat → Int32 := if p = (-1) then pu else gainS pu p.toNatClampNeg c
def poorS (pu : Nat → Int32) (but : Nat) : Nat → Nat → Int32 → Int32
  | 0, _, b => b
  | r + 1, k, b => poorS pu but r (k + 1) (if k = but then b else if b = (-1) then nI k else if pu b.toNatClampNeg ≤ pu k then b else nI k)
def poorA (pu : Nat → Int32) (but P : Nat) : Int32 := poorS pu but P 0 (-1)
def monS (hid pu : Nat → Int32) (l : Nat) (kind : Int32) : Int32 := if kind = 2 then pu l else (if 0 < pu l - hid l then pu l - hid l else 0)
def spM (v sg m : Int32) : Int32 := if (if m < sg then m else sg) < v then (if m < sg then m else sg) else v
def spC (v sg m kind : Int32) : Int32 := if kind = 1 then (if 0 < spM v sg m then spM v sg m else 0) / 2 else (if 0 < spM v sg m then spM v sg m else 0)
def spend3 (P : Nat) (paid c : Int32) (s : T3) (l : Nat) : T3 := (gainO (upd s.1 l (s.1 l - c)) (poorA (upd s.1 l (s.1 l - c)) l P) (c - paid), upd s.2.1 l (s.2.1 l - paid), s.2.2)
def spend2 (P : Nat) (kind : Int32) (who : Nat) (c : Int32) (s : T3) (l : Nat) : T3 :=
  if kind = 2 then (gainS (upd s.1 l (s.1 l - c)) who c, s.2.1, s.2.2)
  else spend3 P (if kind = 3 then (if s.2.1 l < c then s.2.1 l else c) else 0) c s l
def lawD (v1 : VTown) (v2 : VLaws) (k : Nat) (hid self : Nat → Int32) (s : T3) (l : Nat) : Int32 :=
  lawS v2 k (fx5 (monS hid s.1 l (Town_kinds v1 (self l).toNatClampNeg)) (s.2.1 l) (s.2.2 l) (Town_skills v1 (self l).toNatClampNeg) (Town_kinds v1 (self l).toNatClampNeg))
def spendS (v1 : VTown) (v2 : VLaws) (P : Nat) (sg : Int32) (hid self : Nat → Int32) (s : T3) (l : Nat) : T3 :=
  spend2 P (Town_kinds v1 (self l).toNatClampNeg) (self l).toNatClampNeg (spC (lawD v1 v2 0 hid self s l) sg (monS hid s.1 l (Town_kinds v1 (self l).toNatClampNeg)) (Town_kinds v1 (self l).toNatClampNeg)) s l
def mdB (v : Int32) : Int32 := if (-3) < (if v < 3 then v else 3) then (if v < 3 then v else 3) else (-3)
def mdH (h b : Int32) : Int32 := if 0 < (if h + b < 9 then h + b else 9) then (if h + b < 9 then h + b else 9) else 0
def mendS (v1 : VTown) (v2 : VLaws) (hid self : Nat → Int32) (s : T3) (l : Nat) : T3 := (s.1, s.2.1, upd s.2.2 l (mdH (s.2.2 l) (mdB (lawD v1 v2 1 hid self s l))))
def lifeS (v1 : VTown) (v2 : VLaws) (P : Nat) (sg : Int32) (hid self : Nat → Int32) (s : T3) (l : Nat) : T3 := mendS v1 v2 hid self (spendS v1 v2 P sg hid self s l) l
def livesS (v1 : VTown) (v2 : VLaws) (P : Nat) (sg : Int32) (hid self : Nat → Int32) : Nat → Nat → T3 → T3
  | 0, _, s => s
  | r + 1, k, s => livesS v1 v2 P sg hid self r (k + 1) (lifeS v1 v2 P sg hid self s k)
def dayS (v1 : VTown) (v2 : VLaws) (P : Nat) (sg : Int32) (hid self : Nat → Int32) (s : T3) : T3 := livesS v1 v2 P sg hid self P 0 s
def daysS (v1 : VTown) (v2 : VLaws) (P : Nat) (sg : Int32) (hid self : Nat → Int32) : Nat → T3 → T3
  | 0, s => s
  | n + 1, s => daysS v1 v2 P sg hid self n (dayS v1 v2 P sg hid self s)
/-- a town's people -/
def tpl (v1 : VTown) (P : Nat) : Prop := Town_people v1 = nI P ∧ P ≤ 6
theorem has_ok {N : Nat} {v1 : VTown} {v2 : VLaws} {P l : Nat} (hP : tpl v1 P) (h : l < P) : f_Town_has N v1 v2 (nI l) = some 1 := by
  obtain ⟨h1, h2⟩ := hP
  unfold f_Town_has
  simp (disch := omega) only [zlet, Option.bind_some, zlit, nI_add, pk_mul, pk_sub, zsubm, nI_clamp, nI_leI, nI_ltI, nI_eq, zeqF, Nat.reduceEqDiff, zleF, zleT, zltF, zltT, zneg1, zneg1L, zneg2, zneg0, eq_self, or_self, false_or, or_false, ↓reduceIte, Nat.not_lt_zero, not_false_eq_true, not_true_eq_false, Nat.add_sub_cancel, List.length_cons, List.length_nil, h1]
theorem has_no {N : Nat} {v1 : VTown} {v2 : VLaws} {P : Nat} (hP : tpl v1 P) (x : Int32) : f_Town_has N v1 v2 x = some 0 ∨ ∃ l, l < P ∧ x = nI l ∧ f_Town_has N v1 v2 x = some 1 := by
  rcases pk_ix x (n := P) (by have := hP.2; omega) with h | h | ⟨j, hj, rfl⟩
  · left
    unfold f_Town_has
    rw [if_pos h]
  · left
    unfold f_Town_has
    rw [hP.1, if_pos h]
    split <;> rfl
  · right
    exact ⟨j, hj, rfl, has_ok hP hj⟩
theorem kindOf_ok {N : Nat} {v1 : VTown} {v2 : VLaws} {P l : Nat} (hP : tpl v1 P) (h : l < P) : f_Town_kindOf N v1 v2 (nI l) = some (Town_kinds v1 l) := by
  have h2 := hP.2
  unfold f_Town_kindOf
  rw [has_ok hP h]
  simp (disch := omega) only [zlet, Option.bind_some, zlit, nI_add, pk_mul, pk_sub, zsubm, nI_clamp, nI_leI, nI_ltI, nI_eq, zeqF, Nat.reduceEqDiff, zleF, zleT, zltF, zltT, zneg1, zneg1L, zneg2, zneg0, eq_self, or_self, false_or, or_false, ↓reduceIte, Nat.not_lt_zero, not_false_eq_true, not_true_eq_false, Nat.add_sub_cancel, List.length_cons, List.length_nil]
theorem skillOf_ok {N : Nat} {v1 : VTown} {v2 : VLaws} {P l : Nat} (hP : tpl v1 P) (h : l < P) : f_Town_skillOf N v1 v2 (nI l) = some (Town_skills v1 l) := by
  have h2 := hP.2
  unfold f_Town_skillOf
  rw [has_ok hP h]
  simp (disch := omega) only [zlet, Option.bind_some, zlit, nI_add, pk_mul, pk_sub, zsubm, nI_clamp, nI_leI, nI_ltI, nI_eq, zeqF, Nat.reduceEqDiff, zleF, zleT, zltF, zltT, zneg1, zneg1L, zneg2, zneg0, eq_self, or_self, false_or, or_false, ↓reduceIte, Nat.not_lt_zero, not_false_eq_true, not_true_eq_false, Nat.add_sub_cancel, List.length_cons, List.length_nil]
theorem setFacts_ok {N : Nat} {v2 : VLaws} {m o n a t : Int32} : f_Laws_setFacts N v2 m o n a t = some (fset (Laws_facts v2) m o n a t) := rfl
theorem valueF {N : Nat} (hN : 10000 ≤ N) {v : VLaws} {k : Nat} (hk : k < 4) (h : lawOk v k) (f : Nat → Int32) (m o n a t : Int32) : ∃ sk, f_Laws_valueOf N (Laws_facts_s v (fset f m o n a t)) (nI k) = some (lawS v k (fx5 m o n a t), sk) := by
  obtain ⟨sk, h1⟩ := value_ok hN (v := Laws_facts_s v (fset f m o n a t)) hk h
  refine ⟨sk, h1.trans ?_⟩
  have h2 : lawS v k (fset f m o n a t) = lawS v k (fx5 m o n a t) := lawS_cong h (fun j hj => fset_eq j (by have := nfOf_le k; omega)) hk
  rw [← h2]
  rfl
theorem openMoney_ok {N : Nat} {v : VLives} {v1 : VTown} {v2 : VLaws} {P l : Nat} (hP : tpl v1 P) (h : l < P) : f_Lives_openMoney N v v1 v2 (nI l) = some (if 0 < Lives_purse v l - Lives_hidden v l then Lives_purse v l - Lives_hidden v l else 0) := by
  have h2 := hP.2
  unfold f_Lives_openMoney
  rw [has_ok hP h]
  simp (disch := omega) only [zlet, Option.bind_some, zlit, nI_add, pk_mul, pk_sub, zsubm, nI_clamp, nI_leI, nI_ltI, nI_eq, zeqF, Nat.reduceEqDiff, zleF, zleT, zltF, zltT, zneg1, zneg1L, zneg2, zneg0, eq_self, or_self, false_or, or_false, ↓reduceIte, Nat.not_lt_zero, not_false_eq_true, not_true_eq_false, Nat.add_sub_cancel, List.length_cons, List.length_nil]
  rfl
theorem gain_ok {N : Nat} {v : VLives} {v1 : VTown} {v2 : VLaws} {P l : Nat} {c : Int32} (hP : tpl v1 P) (h : l < P) : f_Lives_gain N v v1 v2 (nI l) c = some (gainS (Lives_purse v) l c) := by
  have h2 := hP.2
  unfold f_Lives_gain gainS
  rw [has_ok hP h]
  simp (disch := omega) only [zlet, Option.bind_some, zlit, nI_add, pk_mul, pk_sub, zsubm, nI_clamp, nI_leI, nI_ltI, nI_eq, zeqF, Nat.reduceEqDiff, zleF, zleT, zltF, zltT, zneg1, zneg1L, zneg2, zneg0, eq_self, or_self, false_or, or_false, ↓reduceIte, Nat.not_lt_zero, not_false_eq_true, not_true_eq_false, Nat.add_sub_cancel, List.length_cons, List.length_nil]
  rfl
theorem gain_no {N : Nat} {v : VLives} {v1 : VTown} {v2 : VLaws} {P : Nat} {c : Int32} (hP : tpl v1 P) : f_Lives_gain N v v1 v2 (-1) c = some (Lives_purse v) := by
  unfold f_Lives_gain
  have : f_Town_has N v1 v2 (-1) = some 0 := by
    unfold f_Town_has
    rw [if_pos (by decide)]
  rw [this]
  rfl
theorem poor_loop (N : Nat) {v : VLives} {v1 : VTown} {v2 : VLaws} {P but : Nat} (hP : tpl v1 P) (hb : but < P) : ∀ (r k fuel : Nat) (b : Int32), k + r = P → r < fuel → (b = (-1) ∨ ∃ j, j < P ∧ b = nI j) → f_Lives_poorestBut_L4 N fuel v v1 v2 (nI but) b (nI k) = some (poorS (Lives_purse v) but r k b) ∧ (poorS (Lives_purse v) but r k b = (-1) ∨ ∃ j, j < P ∧ poorS (Lives_purse v) but r k b = nI j)
  | _, _, 0, _, _, h, _ => absurd h (Nat.not_lt_zero _)
  | 0, k, fuel + 1, b, h1, h2, h3 => by
    have h4 := hP.2
    refine ⟨?_, h3⟩
    rw [f_Lives_poorestBut_L4]
    simp (disch := omega) only [zlet, Option.bind_some, zlit, nI_add, pk_mul, pk_sub, zsubm, nI_clamp, nI_leI, nI_ltI, nI_eq, zeqF, Nat.reduceEqDiff, zleF, zleT, zltF, zltT, zneg1, zneg1L, zneg2, zneg0, eq_self, or_self, false_or, or_false, ↓reduceIte, Nat.not_lt_zero, not_false_eq_true, not_true_eq_false, Nat.add_sub_cancel, List.length_cons, List.length_nil, hP.1]
    rfl
  | r + 1, k, fuel + 1, b, h1, h2, h3 => by
    have h4 := hP.2
    have ih := fun b h => poor_loop N (v := v) (v2 := v2) hP hb r (k + 1) fuel b (by omega) (by omega) h
    rw [f_Lives_poorestBut_L4]
    by_cases hk : k = but
    · have e : poorS (Lives_purse v) but (r + 1) k b = poorS (Lives_purse v) but r (k + 1) b := by rw [poorS, if_pos hk]
      have := ih b h3
      rw [e]
      refine ⟨?_, this.2⟩
      rw [← this.1]
      simp (disch := omega) only [zlet, Option.bind_some, zlit, nI_add, pk_mul, pk_sub, zsubm, nI_clamp, nI_leI, nI_ltI, nI_eq, zeqF, Nat.reduceEqDiff, zleF, zleT, zltF, zltT, zneg1, zneg1L, zneg2, zneg0, eq_self, or_self, false_or, or_false, ↓reduceIte, Nat.not_lt_zero, not_false_eq_true, not_true_eq_false, Nat.add_sub_cancel, List.length_cons, List.length_nil, hP.1, hk]
    · rcases h3 with rfl | ⟨j, hj, rfl⟩
      · have e : poorS (Lives_purse v) but (r + 1) k (-1) = poorS (Lives_purse v) but r (k + 1) (nI k) := by rw [poorS, if_neg hk, if_pos rfl]
        have := ih (nI k) (Or.inr ⟨k, by omega, rfl⟩)
        rw [e]
        refine ⟨?_, this.2⟩
        rw [← this.1]
        simp (disch := omega) only [zlet, Option.bind_some, zlit, nI_add, pk_mul, pk_sub, zsubm, nI_clamp, nI_leI, nI_ltI, nI_eq, zeqF, Nat.reduceEqDiff, zleF, zleT, zltF, zltT, zneg1, zneg1L, zneg2, zneg0, eq_self, or_self, false_or, or_false, ↓reduceIte, Nat.not_lt_zero, not_false_eq_true, not_true_eq_false, Nat.add_sub_cancel, List.length_cons, List.length_nil, hP.1]
      · have e : poorS (Lives_purse v) but (r + 1) k (nI j) = poorS (Lives_purse v) but r (k + 1) (if Lives_purse v j ≤ Lives_purse v k then nI j else nI k) := by
          rw [poorS, if_neg hk, nI_clamp (by omega)]
          exact congrArg _ (if_neg (nI_nem1 (by omega)))
        have := ih (if Lives_purse v j ≤ Lives_purse v k then nI j else nI k) (by
          split
          · exact Or.inr ⟨j, hj, rfl⟩
          · exact Or.inr ⟨k, by omega, rfl⟩)
        rw [e]
        refine ⟨?_, this.2⟩
        rw [← this.1]
        simp (disch := omega) only [zlet, Option.bind_some, zlit, nI_add, pk_mul, pk_sub, zsubm, nI_clamp, nI_leI, nI_ltI, nI_eq, zeqF, Nat.reduceEqDiff, zleF, zleT, zltF, zltT, zneg1, zneg1L, zneg2, zneg0, eq_self, or_self, false_or, or_false, ↓reduceIte, Nat.not_lt_zero, not_false_eq_true, not_true_eq_false, Nat.add_sub_cancel, List.length_cons, List.length_nil, hP.1]
theorem poorest_ok {N : Nat} (hN : 10000 ≤ N) {v : VLives} {v1 : VTown} {v2 : VLaws} {P but : Nat} (hP : tpl v1 P) (hb : but < P) : f_Lives_poorestBut N v v1 v2 (nI but) = some (poorA (Lives_purse v) but P) := by
  have h2 := hP.2
  have := poor_loop N (v := v) (v1 := v1) (v2 := v2) hP hb P 0 N (-1) (by omega) (by omega) (Or.inl rfl)
  unfold f_Lives_poorestBut poorA
  rw [show f_Lives_poorestBut_L4 N N v v1 v2 (nI but) (-1) 0 = _ from this.1]
  rfl
theorem poorA_in {N : Nat} (hN : 10000 ≤ N) {v : VLives} {v1 : VTown} {v2 : VLaws} {P but : Nat} (hP : tpl v1 P) (hb : but < P) : poorA (Lives_purse v) but P = (-1) ∨ ∃ j, j < P ∧ poorA (Lives_purse v) but P = nI j := by
  have h2 := hP.2
  exact (poor_loop N (v := v) (v1 := v1) (v2 := v2) hP hb P 0 N (-1) (by omega) (by omega) (Or.inl rfl)).2
theorem gain_poor {N : Nat} {v : VLives} {v1 : VTown} {v2 : VLaws} {P : Nat} {p c : Int32} (hP : tpl v1 P) (h : p = (-1) ∨ ∃ j, j < P ∧ p = nI j) : f_Lives_gain N v v1 v2 p c = some (gainO (Lives_purse v) p c) := by
  have h2 := hP.2
  rcases h with rfl | ⟨j, hj, rfl⟩
  · rw [gain_no hP, gainO, if_pos rfl]
  · rw [gain_ok hP hj, gainO, if_neg (nI_nem1 (by omega)), nI_clamp (by omega)]
theorem gain_poorA {N : Nat} (hN : 10000 ≤ N) {v v' : VLives} {v1 : VTown} {v2 : VLaws} {P but : Nat} {c : Int32} (hP : tpl v1 P) (hb : but < P) : f_Lives_gain N v v1 v2 (poorA (Lives_purse v') but P) c = some (gainO (Lives_purse v) (poorA (Lives_purse v') but P) c) := gain_poor hP (poorA_in hN (v2 := v2) hP hb)
theorem spend_ok {N : Nat} (hN : 10000 ≤ N) {v : VLives} {v1 : VTown} {v2 : VLaws} {P l j : Nat} {sg : Int32} (hP : tpl v1 P) (hl : l < P) (hj : j < P) (hs : Lives_self v l = nI j) (hw : lawOk v2 0) : ∃ fa sk, f_Lives_spend N v v1 v2 (nI l) sg = some ((spendS v1 v2 P sg (Lives_hidden v) (Lives_self v) (Lives_purse v, Lives_debt v, Lives_home v) l).1, (spendS v1 v2 P sg (Lives_hidden v) (Lives_self v) (Lives_purse v, Lives_debt v, Lives_home v) l).2.1, fa, sk) := by
  have h2 := hP.2
  have hc : (Lives_self v l).toNatClampNeg = j := by rw [hs, nI_clamp (by omega)]
  unfold spendS lawD
  rw [hc]
  unfold f_Lives_spend
  obtain ⟨sk, hv⟩ := valueF hN (k := 0) (by decide) hw (Laws_facts v2) (monS (Lives_hidden v) (Lives_purse v) l (Town_kinds v1 j)) (Lives_debt v l) (Lives_home v l) (Town_skills v1 j) (Town_kinds v1 j)
  refine ⟨fset (Laws_facts v2) (monS (Lives_hidden v) (Lives_purse v) l (Town_kinds v1 j)) (Lives_debt v l) (Lives_home v l) (Town_skills v1 j) (Town_kinds v1 j), sk, ?_⟩
  rw [show nI 0 = (0 : Int32) from rfl] at hv
  generalize hlv : lawS v2 0 (fx5 (monS (Lives_hidden v) (Lives_purse v) l (Town_kinds v1 j)) (Lives_debt v l) (Lives_home v l) (Town_skills v1 j) (Town_kinds v1 j)) = lv at hv
  have hkd : ∀ w : VLaws, f_Town_kindOf N v1 w (nI j) = some (Town_kinds v1 j) := fun w => kindOf_ok hP hj
  have ho : ¬ Town_kinds v1 j = 2 → f_Lives_openMoney N v v1 v2 (nI l) = some (monS (Lives_hidden v) (Lives_purse v) l (Town_kinds v1 j)) := fun h => by
    rw [openMoney_ok hP hl, monS, if_neg h]
  have ho2 : Town_kinds v1 j = 2 → monS (Lives_hidden v) (Lives_purse v) l (Town_kinds v1 j) = Lives_purse v l := fun h => if_pos h
  generalize Town_kinds v1 j = kd at *
  rw [nI_clamp (n := l) (by omega), hs]
  by_cases k2 : kd = 2
  · subst k2
    rw [ho2 rfl] at hv ⊢
    rw [spend2, if_pos rfl]
    repeat (first | (with_reducible refine zletE ?_) | (with_reducible refine zifn ?_ ?_; · (first | with_reducible assumption | decide | (simp (disch := omega) only [zlit, nI_add, pk_mul, pk_sub, zsubm, nI_clamp, nI_leI, nI_ltI, nI_eq, zeqF, Nat.reduceEqDiff, zleF, zleT, zltF, zltT, zneg1, zneg1L, zneg2, zneg0, eq_self, or_self, false_or, or_false, Nat.not_lt_zero, not_false_eq_true, not_true_eq_false]; done))) | (with_reducible refine zifp ?_ ?_; · (first | with_reducible assumption | decide | (simp (disch := omega) only [zlit, nI_add, pk_mul, pk_sub, zsubm, nI_clamp, nI_leI, nI_ltI, nI_eq, zeqF, Nat.reduceEqDiff, zleF, zleT, zltF, zltT, zneg1, zneg1L, zneg2, zneg0, eq_self, or_self, false_or, or_false, Nat.not_lt_zero, not_false_eq_true, not_true_eq_false]; done))) | (with_reducible refine bnd (hkd _) ?_) | (with_reducible refine bnd (skillOf_ok hP hj) ?_) | (with_reducible refine bnd (setFacts_ok) ?_) | (with_reducible refine bnd (hv) ?_) | (with_reducible refine bnd (gain_ok hP hj) ?_) | (with_reducible refine bnd (x := some _) rfl ?_))
    rfl
  · have ho3 := ho k2
    generalize monS (Lives_hidden v) (Lives_purse v) l kd = mo at hv ho3 ⊢
    rw [spend2, if_neg k2]
    by_cases k3 : kd = 3
    · subst k3
      rw [if_pos rfl]
      repeat (first | (with_reducible refine zletE ?_) | (with_reducible refine zifn ?_ ?_; · (first | with_reducible assumption | decide | (simp (disch := omega) only [zlit, nI_add, pk_mul, pk_sub, zsubm, nI_clamp, nI_leI, nI_ltI, nI_eq, zeqF, Nat.reduceEqDiff, zleF, zleT, zltF, zltT, zneg1, zneg1L, zneg2, zneg0, eq_self, or_self, false_or, or_false, Nat.not_lt_zero, not_false_eq_true, not_true_eq_false]; done))) | (with_reducible refine zifp ?_ ?_; · (first | with_reducible assumption | decide | (simp (disch := omega) only [zlit, nI_add, pk_mul, pk_sub, zsubm, nI_clamp, nI_leI, nI_ltI, nI_eq, zeqF, Nat.reduceEqDiff, zleF, zleT, zltF, zltT, zneg1, zneg1L, zneg2, zneg0, eq_self, or_self, false_or, or_false, Nat.not_lt_zero, not_false_eq_true, not_true_eq_false]; done))) | (with_reducible refine bnd (hkd _) ?_) | (with_reducible refine bnd (ho3) ?_) | (with_reducible refine bnd (skillOf_ok hP hj) ?_) | (with_reducible refine bnd (setFacts_ok) ?_) | (with_reducible refine bnd (hv) ?_) | (with_reducible refine bnd (poorest_ok hN hP hl) ?_) | (with_reducible refine bnd (gain_poorA hN hP hl) ?_) | (with_reducible refine bnd (x := some _) rfl ?_))
      rfl
    · rw [if_neg k3]
      by_cases k1 : kd = 1
      · subst k1
        repeat (first | (with_reducible refine zletE ?_) | (with_reducible refine zifn ?_ ?_; · (first | with_reducible assumption | decide | (simp (disch := omega) only [zlit, nI_add, pk_mul, pk_sub, zsubm, nI_clamp, nI_leI, nI_ltI, nI_eq, zeqF, Nat.reduceEqDiff, zleF, zleT, zltF, zltT, zneg1, zneg1L, zneg2, zneg0, eq_self, or_self, false_or, or_false, Nat.not_lt_zero, not_false_eq_true, not_true_eq_false]; done))) | (with_reducible refine zifp ?_ ?_; · (first | with_reducible assumption | decide | (simp (disch := omega) only [zlit, nI_add, pk_mul, pk_sub, zsubm, nI_clamp, nI_leI, nI_ltI, nI_eq, zeqF, Nat.reduceEqDiff, zleF, zleT, zltF, zltT, zneg1, zneg1L, zneg2, zneg0, eq_self, or_self, false_or, or_false, Nat.not_lt_zero, not_false_eq_true, not_true_eq_false]; done))) | (with_reducible refine bnd (hkd _) ?_) | (with_reducible refine bnd (ho3) ?_) | (with_reducible refine bnd (skillOf_ok hP hj) ?_) | (with_reducible refine bnd (setFacts_ok) ?_) | (with_reducible refine bnd (hv) ?_) | (with_reducible refine bnd (poorest_ok hN hP hl) ?_) | (with_reducible refine bnd (gain_poorA hN hP hl) ?_) | (with_reducible refine bnd (x := some _) rfl ?_))
        rfl
      · repeat (first | (with_reducible refine zletE ?_) | (with_reducible refine zifn ?_ ?_; · (first | with_reducible assumption | decide | (simp (disch := omega) only [zlit, nI_add, pk_mul, pk_sub, zsubm, nI_clamp, nI_leI, nI_ltI, nI_eq, zeqF, Nat.reduceEqDiff, zleF, zleT, zltF, zltT, zneg1, zneg1L, zneg2, zneg0, eq_self, or_self, false_or, or_false, Nat.not_lt_zero, not_false_eq_true, not_true_eq_false]; done))) | (with_reducible refine zifp ?_ ?_; · (first | with_reducible assumption | decide | (simp (disch := omega) only [zlit, nI_add, pk_mul, pk_sub, zsubm, nI_clamp, nI_leI, nI_ltI, nI_eq, zeqF, Nat.reduceEqDiff, zleF, zleT, zltF, zltT, zneg1, zneg1L, zneg2, zneg0, eq_self, or_self, false_or, or_false, Nat.not_lt_zero, not_false_eq_true, not_true_eq_false]; done))) | (with_reducible refine bnd (hkd _) ?_) | (with_reducible refine bnd (ho3) ?_) | (with_reducible refine bnd (skillOf_ok hP hj) ?_) | (with_reducible refine bnd (setFacts_ok) ?_) | (with_reducible refine bnd (hv) ?_) | (with_reducible refine bnd (poorest_ok hN hP hl) ?_) | (with_reducible refine bnd (gain_poorA hN hP hl) ?_) | (with_reducible refine bnd (x := some _) rfl ?_))
        simp only [spC, if_neg k1]
        rfl
theorem mend_ok {N : Nat} (hN : 10000 ≤ N) {v : VLives} {v1 : VTown} {v2 : VLaws} {P l j : Nat} (hP : tpl v1 P) (hl : l < P) (hj : j < P) (hs : Lives_self v l = nI j) (hw : lawOk v2 1) : ∃ fa sk, f_Lives_mend N v v1 v2 (nI l) = some ((mendS v1 v2 (Lives_hidden v) (Lives_self v) (Lives_purse v, Lives_debt v, Lives_home v) l).2.2, fa, sk) := by
  have h2 := hP.2
  have hc : (Lives_self v l).toNatClampNeg = j := by rw [hs, nI_clamp (by omega)]
  unfold mendS lawD
  rw [hc]
  unfold f_Lives_mend
  obtain ⟨sk, hv⟩ := valueF hN (k := 1) (by decide) hw (Laws_facts v2) (monS (Lives_hidden v) (Lives_purse v) l (Town_kinds v1 j)) (Lives_debt v l) (Lives_home v l) (Town_skills v1 j) (Town_kinds v1 j)
  refine ⟨fset (Laws_facts v2) (monS (Lives_hidden v) (Lives_purse v) l (Town_kinds v1 j)) (Lives_debt v l) (Lives_home v l) (Town_skills v1 j) (Town_kinds v1 j), sk, ?_⟩
  rw [show nI 1 = (1 : Int32) from rfl] at hv
  generalize hlv : lawS v2 1 (fx5 (monS (Lives_hidden v) (Lives_purse v) l (Town_kinds v1 j)) (Lives_debt v l) (Lives_home v l) (Town_skills v1 j) (Town_kinds v1 j)) = lv at hv
  have hkd : ∀ w : VLaws, f_Town_kindOf N v1 w (nI j) = some (Town_kinds v1 j) := fun w => kindOf_ok hP hj
  have ho : ¬ Town_kinds v1 j = 2 → f_Lives_openMoney N v v1 v2 (nI l) = some (monS (Lives_hidden v) (Lives_purse v) l (Town_kinds v1 j)) := fun h => by
    rw [openMoney_ok hP hl, monS, if_neg h]
  have ho2 : Town_kinds v1 j = 2 → monS (Lives_hidden v) (Lives_purse v) l (Town_kinds v1 j) = Lives_purse v l := fun h => if_pos h
  generalize Town_kinds v1 j = kd at *
  rw [nI_clamp (n := l) (by omega), hs]
  by_cases k2 : kd = 2
  · subst k2
    rw [ho2 rfl] at hv ⊢
    repeat (first | (with_reducible refine zletE ?_) | (with_reducible refine zifn ?_ ?_; · (first | with_reducible assumption | decide | (simp (disch := omega) only [zlit, nI_add, pk_mul, pk_sub, zsubm, nI_clamp, nI_leI, nI_ltI, nI_eq, zeqF, Nat.reduceEqDiff, zleF, zleT, zltF, zltT, zneg1, zneg1L, zneg2, zneg0, eq_self, or_self, false_or, or_false, Nat.not_lt_zero, not_false_eq_true, not_true_eq_false]; done))) | (with_reducible refine zifp ?_ ?_; · (first | with_reducible assumption | decide | (simp (disch := omega) only [zlit, nI_add, pk_mul, pk_sub, zsubm, nI_clamp, nI_leI, nI_ltI, nI_eq, zeqF, Nat.reduceEqDiff, zleF, zleT, zltF, zltT, zneg1, zneg1L, zneg2, zneg0, eq_self, or_self, false_or, or_false, Nat.not_lt_zero, not_false_eq_true, not_true_eq_false]; done))) | (with_reducible refine bnd (hkd _) ?_) | (with_reducible refine bnd (skillOf_ok hP hj) ?_) | (with_reducible refine bnd (setFacts_ok) ?_) | (with_reducible refine bnd (hv) ?_) | (with_reducible refine bnd (x := some _) rfl ?_))
    rfl
  · have ho3 := ho k2
    generalize monS (Lives_hidden v) (Lives_purse v) l kd = mo at hv ho3 ⊢
    repeat (first | (with_reducible refine zletE ?_) | (with_reducible refine zifn ?_ ?_; · (first | with_reducible assumption | decide | (simp (disch := omega) only [zlit, nI_add, pk_mul, pk_sub, zsubm, nI_clamp, nI_leI, nI_ltI, nI_eq, zeqF, Nat.reduceEqDiff, zleF, zleT, zltF, zltT, zneg1, zneg1L, zneg2, zneg0, eq_self, or_self, false_or, or_false, Nat.not_lt_zero, not_false_eq_true, not_true_eq_false]; done))) | (with_reducible refine zifp ?_ ?_; · (first | with_reducible assumption | decide | (simp (disch := omega) only [zlit, nI_add, pk_mul, pk_sub, zsubm, nI_clamp, nI_leI, nI_ltI, nI_eq, zeqF, Nat.reduceEqDiff, zleF, zleT, zltF, zltT, zneg1, zneg1L, zneg2, zneg0, eq_self, or_self, false_or, or_false, Nat.not_lt_zero, not_false_eq_true, not_true_eq_false]; done))) | (with_reducible refine bnd (hkd _) ?_) | (with_reducible refine bnd (ho3) ?_) | (with_reducible refine bnd (skillOf_ok hP hj) ?_) | (with_reducible refine bnd (setFacts_ok) ?_) | (with_reducible refine bnd (hv) ?_) | (with_reducible refine bnd (x := some _) rfl ?_))
    rfl
