/-! ===== a day of the reference ===== -/
def SR (P b : Nat) (st hid self : Nat → Int32) (s : T3) : Prop := ∀ l, l < P → st (b + 4 + l) = s.1 l ∧ st (b + 10 + l) = s.2.1 l ∧ st (b + 16 + l) = s.2.2 l ∧ st (b + 22 + l) = hid l ∧ st (b + 28 + l) = self l
def Fr (a c : Nat) (st st' : Nat → Int32) : Prop := ∀ k, k < a ∨ c ≤ k → st' k = st k
theorem Fr.refl (a c : Nat) (st : Nat → Int32) : Fr a c st st := fun _ _ => rfl
theorem Fr.trans {a c : Nat} {st st1 st2 : Nat → Int32} (h : Fr a c st st1) (h2 : Fr a c st1 st2) : Fr a c st st2 := fun k hk => (h2 k hk).trans (h k hk)
theorem Fr.upd {a c k : Nat} {st st1 : Nat → Int32} {x : Int32} (h : Fr a c st st1) (h1 : a ≤ k) (h2 : k < c) : Fr a c st (upd st1 k x) := fun j hj => by
  rw [pk_un (by omega)]
  exact h j hj
theorem Fr.wide {a c a' c' : Nat} {st st1 : Nat → Int32} (h : Fr a c st st1) (h1 : a' ≤ a) (h2 : c ≤ c') : Fr a' c' st st1 := fun j hj => h j (by omega)
theorem SR_pu {P b l : Nat} {st hid self : Nat → Int32} {s : T3} {x : Int32} (h : SR P b st hid self s) (hP : P ≤ 6) (hl : l < P) : SR P b (upd st (b + 4 + l) x) hid self (upd s.1 l x, s.2.1, s.2.2) := by
  intro k hk
  obtain ⟨h1, h2, h3, h4, h5⟩ := h k hk
  refine ⟨?_, ?_, ?_, ?_, ?_⟩
  · show _ = upd s.1 l x k
    by_cases e : k = l
    · subst e; rw [pk_us, pk_us]
    · rw [pk_un (by omega), pk_un e]; exact h1
  · rw [pk_un (by omega)]; exact h2
  · rw [pk_un (by omega)]; exact h3
  · rw [pk_un (by omega)]; exact h4
  · rw [pk_un (by omega)]; exact h5
theorem SR_de {P b l : Nat} {st hid self : Nat → Int32} {s : T3} {x : Int32} (h : SR P b st hid self s) (hP : P ≤ 6) (hl : l < P) : SR P b (upd st (b + 10 + l) x) hid self (s.1, upd s.2.1 l x, s.2.2) := by
  intro k hk
  obtain ⟨h1, h2, h3, h4, h5⟩ := h k hk
  refine ⟨?_, ?_, ?_, ?_, ?_⟩
  · rw [pk_un (by omega)]; exact h1
  · show _ = upd s.2.1 l x k
    by_cases e : k = l
    · subst e; rw [pk_us, pk_us]
    · rw [pk_un (by omega), pk_un e]; exact h2
  · rw [pk_un (by omega)]; exact h3
  · rw [pk_un (by omega)]; exact h4
  · rw [pk_un (by omega)]; exact h5
theorem SR_ho {P b l : Nat} {st hid self : Nat → Int32} {s : T3} {x : Int32} (h : SR P b st hid self s) (hP : P ≤ 6) (hl : l < P) : SR P b (upd st (b + 16 + l) x) hid self (s.1, s.2.1, upd s.2.2 l x) := by
  intro k hk
  obtain ⟨h1, h2, h3, h4, h5⟩ := h k hk
  refine ⟨?_, ?_, ?_, ?_, ?_⟩
  · rw [pk_un (by omega)]; exact h1
  · rw [pk_un (by omega)]; exact h2
  · show _ = upd s.2.2 l x k
    by_cases e : k = l
    · subst e; rw [pk_us, pk_us]
    · rw [pk_un (by omega), pk_un e]; exact h3
  · rw [pk_un (by omega)]; exact h4
  · rw [pk_un (by omega)]; exact h5
def townR (w : VR) (v1 : VTown) (v2 : VLaws) (P : Nat) : Prop := tpl v1 P ∧ R_towns w 0 = nI P ∧ (∀ l, l < P → R_towns w (8 + 5 * l + 0) = Town_kinds v1 l ∧ R_towns w (8 + 5 * l + 1) = Town_skills v1 l ∧ R_towns w (8 + 5 * l + 2) = Town_purses v1 l ∧ R_towns w (8 + 5 * l + 3) = Town_debts v1 l ∧ R_towns w (8 + 5 * l + 4) = Town_homes v1 l) ∧ (∀ k, k < 4 → lawRel (R_towns w) (R_op w) (R_arg w) v2 k)
theorem people_ok {N : Nat} {w : VR} {v1 : VTown} {v2 : VLaws} {P : Nat} (h : townR w v1 v2 P) : f_R_people N w = some (nI P) := by
  unfold f_R_people
  rw [show R_towns w (Int32.toNatClampNeg 0) = nI P from h.2.1]
theorem personOf_ok {N : Nat} {w : VR} {p c : Nat} (hp : p < 6) (hc : c < 5) : f_R_personOf N w (nI p) (nI c) = some (R_towns w (8 + 5 * p + c)) := by
  unfold f_R_personOf
  rw [show (8 + 5 * nI p) + nI c = nI (8 + 5 * p + c) by simp (maxSteps := 2000000) (disch := omega) only [zlit, nI_add, pk_mul, nI_clamp], nI_clamp (by omega)]
  repeat (first | (with_reducible refine zletE ?_) | (with_reducible refine zifn ?_ ?_; · (first | with_reducible assumption | decide | (simp (disch := omega) only [zlit, nI_add, pk_mul, pk_sub, zsubm, nI_clamp, nI_leI, nI_ltI, nI_eq, zeqF, Nat.reduceEqDiff, zleF, zleT, zltF, zltT, zneg1, zneg1L, zneg2, zneg0, eq_self, or_self, false_or, or_false, Nat.not_lt_zero, not_false_eq_true, not_true_eq_false]; done))) | (with_reducible refine zifp ?_ ?_; · (first | with_reducible assumption | decide | (simp (disch := omega) only [zlit, nI_add, pk_mul, pk_sub, zsubm, nI_clamp, nI_leI, nI_ltI, nI_eq, zeqF, Nat.reduceEqDiff, zleF, zleT, zltF, zltT, zneg1, zneg1L, zneg2, zneg0, eq_self, or_self, false_or, or_false, Nat.not_lt_zero, not_false_eq_true, not_true_eq_false]; done))) | (with_reducible refine bnd (x := some _) rfl ?_))
  rfl
theorem person_at {N : Nat} {w : VR} {v1 : VTown} {v2 : VLaws} {P p : Nat} (h : townR w v1 v2 P) (hp : p < P) : f_R_personOf N w (nI p) 0 = some (Town_kinds v1 p) ∧ f_R_personOf N w (nI p) 1 = some (Town_skills v1 p) ∧ f_R_personOf N w (nI p) 2 = some (Town_purses v1 p) ∧ f_R_personOf N w (nI p) 3 = some (Town_debts v1 p) ∧ f_R_personOf N w (nI p) 4 = some (Town_homes v1 p) := by
  have h6 := h.1.2
  obtain ⟨h0, h1, h2, h3, h4⟩ := h.2.2.1 p hp
  exact ⟨(personOf_ok (c := 0) (by omega) (by decide)).trans (congrArg some h0), (personOf_ok (c := 1) (by omega) (by decide)).trans (congrArg some h1), (personOf_ok (c := 2) (by omega) (by decide)).trans (congrArg some h2), (personOf_ok (c := 3) (by omega) (by decide)).trans (congrArg some h3), (personOf_ok (c := 4) (by omega) (by decide)).trans (congrArg some h4)⟩
def puOk (P : Nat) (s : T3) : Prop := ∀ l, l < P → (∃ n, n ≤ 9999 ∧ s.1 l = nI n) ∧ (∃ n, n ≤ 999 ∧ s.2.1 l = nI n)
theorem ix {b c l : Nat} (h : b + c + l < 2 ^ 31) : Int32.toNatClampNeg ((nI b + nI c) + nI l) = b + c + l := by
  rw [nI_add, nI_add, nI_clamp h]
theorem moneyOf_ok {N : Nat} {w : VR} {P b l : Nat} {hid self : Nat → Int32} {s : T3} {kd th : Int32} (hb : b ≤ 1584) (hP : P ≤ 6) (hl : l < P) (h : SR P b (R_state w) hid self s) (hp : puOk P s) (ht : th = if kd = 2 then 1 else 0) : f_R_moneyOf N w (nI b) (nI l) th = some (monS hid s.1 l kd) := by
  obtain ⟨h1, h2, h3, h4, h5⟩ := h l hl
  obtain ⟨⟨n, hn, e⟩, -⟩ := hp l hl
  unfold f_R_moneyOf monS
  rw [show Int32.toNatClampNeg ((nI b + 4) + nI l) = b + 4 + l from ix (c := 4) (by omega), show Int32.toNatClampNeg ((nI b + 22) + nI l) = b + 22 + l from ix (c := 22) (by omega), h1, h4]
  by_cases k2 : kd = 2
  · rw [if_pos k2] at ht
    subst ht
    rw [if_pos k2, e]
    have : nI n - 0 = nI n := by grind
    rw [this]
    repeat (first | (with_reducible refine zletE ?_) | (with_reducible refine zifn ?_ ?_; · (first | with_reducible assumption | decide | (simp (disch := omega) only [zlit, nI_add, pk_mul, pk_sub, zsubm, nI_clamp, nI_leI, nI_ltI, nI_eq, zeqF, Nat.reduceEqDiff, zleF, zleT, zltF, zltT, zneg1, zneg1L, zneg2, zneg0, eq_self, or_self, false_or, or_false, Nat.not_lt_zero, not_false_eq_true, not_true_eq_false]; done))) | (with_reducible refine zifp ?_ ?_; · (first | with_reducible assumption | decide | (simp (disch := omega) only [zlit, nI_add, pk_mul, pk_sub, zsubm, nI_clamp, nI_leI, nI_ltI, nI_eq, zeqF, Nat.reduceEqDiff, zleF, zleT, zltF, zltT, zneg1, zneg1L, zneg2, zneg0, eq_self, or_self, false_or, or_false, Nat.not_lt_zero, not_false_eq_true, not_true_eq_false]; done))) | (with_reducible refine bnd (x := some _) rfl ?_))
    rfl
  · rw [if_neg k2] at ht
    subst ht
    rw [if_neg k2]
    repeat (first | (with_reducible refine zletE ?_) | (with_reducible refine zifn ?_ ?_; · (first | with_reducible assumption | decide | (simp (disch := omega) only [zlit, nI_add, pk_mul, pk_sub, zsubm, nI_clamp, nI_leI, nI_ltI, nI_eq, zeqF, Nat.reduceEqDiff, zleF, zleT, zltF, zltT, zneg1, zneg1L, zneg2, zneg0, eq_self, or_self, false_or, or_false, Nat.not_lt_zero, not_false_eq_true, not_true_eq_false]; done))) | (with_reducible refine zifp ?_ ?_; · (first | with_reducible assumption | decide | (simp (disch := omega) only [zlit, nI_add, pk_mul, pk_sub, zsubm, nI_clamp, nI_leI, nI_ltI, nI_eq, zeqF, Nat.reduceEqDiff, zleF, zleT, zltF, zltT, zneg1, zneg1L, zneg2, zneg0, eq_self, or_self, false_or, or_false, Nat.not_lt_zero, not_false_eq_true, not_true_eq_false]; done))) | (with_reducible refine bnd (x := some _) rfl ?_))
    split <;> split <;> first | rfl | (apply congrArg; grind)
theorem laysFacts_ok {N : Nat} {w : VR} {v1 : VTown} {v2 : VLaws} {P b l j : Nat} {hid self : Nat → Int32} {s : T3} {kd th : Int32} (hb : b ≤ 1584) (hT : townR w v1 v2 P) (hl : l < P) (hj : j < P) (h : SR P b (R_state w) hid self s) (hp : puOk P s) (ht : th = if kd = 2 then 1 else 0) : f_R_laysFacts N w (nI b) (nI l) (nI j) th = some (fset (R_facts w) (monS hid s.1 l kd) (s.2.1 l) (s.2.2 l) (Town_skills v1 j) (Town_kinds v1 j)) := by
  have hP := hT.1.2
  obtain ⟨h1, h2, h3, h4, h5⟩ := h l hl
  unfold f_R_laysFacts
  have hk : ∀ f : Nat → Int32, f_R_personOf N (R_facts_s w f) (nI j) 0 = some (Town_kinds v1 j) := fun f => (person_at (w := R_facts_s w f) hT hj).1
  have hs : ∀ f : Nat → Int32, f_R_personOf N (R_facts_s w f) (nI j) 1 = some (Town_skills v1 j) := fun f => (person_at (w := R_facts_s w f) hT hj).2.1
  rw [show Int32.toNatClampNeg ((nI b + 10) + nI l) = b + 10 + l from ix (c := 10) (by omega), show Int32.toNatClampNeg ((nI b + 16) + nI l) = b + 16 + l from ix (c := 16) (by omega), h2, h3]
  repeat (first | (with_reducible refine zletE ?_) | (with_reducible refine zifn ?_ ?_; · (first | with_reducible assumption | decide | (simp (disch := omega) only [zlit, nI_add, pk_mul, pk_sub, zsubm, nI_clamp, nI_leI, nI_ltI, nI_eq, zeqF, Nat.reduceEqDiff, zleF, zleT, zltF, zltT, zneg1, zneg1L, zneg2, zneg0, eq_self, or_self, false_or, or_false, Nat.not_lt_zero, not_false_eq_true, not_true_eq_false]; done))) | (with_reducible refine zifp ?_ ?_; · (first | with_reducible assumption | decide | (simp (disch := omega) only [zlit, nI_add, pk_mul, pk_sub, zsubm, nI_clamp, nI_leI, nI_ltI, nI_eq, zeqF, Nat.reduceEqDiff, zleF, zleT, zltF, zltT, zneg1, zneg1L, zneg2, zneg0, eq_self, or_self, false_or, or_false, Nat.not_lt_zero, not_false_eq_true, not_true_eq_false]; done))) | (with_reducible refine bnd (moneyOf_ok hb hP hl h hp ht) ?_) | (with_reducible refine bnd (hk _) ?_) | (with_reducible refine bnd (hs _) ?_) | (with_reducible refine bnd (x := some _) rfl ?_))
  rfl
theorem gets_ev {N : Nat} {w : VR} {P b l : Nat} {hid self : Nat → Int32} {s : T3} {c : Int32} (hb : b ≤ 1584) (hP : P ≤ 6) (hl : l < P) (h : SR P b (R_state w) hid self s) : Ev (f_R_gets N w (nI b) (nI l) c) (fun st' => SR P b st' hid self (gainS s.1 l c, s.2.1, s.2.2) ∧ Fr (b + 4) (b + 10) (R_state w) st') := by
  obtain ⟨h1, h2, h3, h4, h5⟩ := h l hl
  unfold f_R_gets
  rw [show Int32.toNatClampNeg ((nI b + 4) + nI l) = b + 4 + l from ix (c := 4) (by omega), h1]
  repeat (first | (with_reducible refine Ev.letE ?_) | (with_reducible refine Ev.ifn ?_ ?_; · (first | with_reducible assumption | decide | (simp (disch := omega) only [zlit, nI_add, pk_mul, pk_sub, zsubm, nI_clamp, nI_leI, nI_ltI, nI_eq, zeqF, Nat.reduceEqDiff, zleF, zleT, zltF, zltT, zneg1, zneg1L, zneg2, zneg0, eq_self, or_self, false_or, or_false, Nat.not_lt_zero, not_false_eq_true, not_true_eq_false]; done))) | (with_reducible refine Ev.ifp ?_ ?_; · (first | with_reducible assumption | decide | (simp (disch := omega) only [zlit, nI_add, pk_mul, pk_sub, zsubm, nI_clamp, nI_leI, nI_ltI, nI_eq, zeqF, Nat.reduceEqDiff, zleF, zleT, zltF, zltT, zneg1, zneg1L, zneg2, zneg0, eq_self, or_self, false_or, or_false, Nat.not_lt_zero, not_false_eq_true, not_true_eq_false]; done))) | (with_reducible refine Ev.bnd (x := some _) rfl ?_))
  rw [show (if s.1 l + c ≤ 9999 then s.1 l + c else 9999) = (if s.1 l + c < 9999 then s.1 l + c else 9999) by grind]
  exact Ev.ret ⟨SR_pu h hP hl, (Fr.refl _ _ _).upd (by omega) (by omega)⟩
theorem rpoor_loop (N : Nat) {w : VR} {v1 : VTown} {v2 : VLaws} {P b but : Nat} {hid self : Nat → Int32} {s : T3} (hb : b ≤ 1584) (hT : townR w v1 v2 P) (hbu : but < P) (h : SR P b (R_state w) hid self s) : ∀ (r k fuel : Nat) (bs : Int32), k + r = P → r < fuel → (bs = (-1) ∨ ∃ j, j < P ∧ bs = nI j) → f_R_poorest_L5 N fuel w (nI b) (nI but) bs (nI k) = some (poorS s.1 but r k bs)
  | _, _, 0, _, _, h, _ => absurd h (Nat.not_lt_zero _)
  | 0, k, fuel + 1, bs, h1, h2, h3 => by
    have h4 := hT.1.2
    rw [f_R_poorest_L5]
    repeat (first | (with_reducible refine zletE ?_) | (with_reducible refine zifn ?_ ?_; · (first | with_reducible assumption | decide | (simp (disch := omega) only [zlit, nI_add, pk_mul, pk_sub, zsubm, nI_clamp, nI_leI, nI_ltI, nI_eq, zeqF, Nat.reduceEqDiff, zleF, zleT, zltF, zltT, zneg1, zneg1L, zneg2, zneg0, eq_self, or_self, false_or, or_false, Nat.not_lt_zero, not_false_eq_true, not_true_eq_false]; done))) | (with_reducible refine zifp ?_ ?_; · (first | with_reducible assumption | decide | (simp (disch := omega) only [zlit, nI_add, pk_mul, pk_sub, zsubm, nI_clamp, nI_leI, nI_ltI, nI_eq, zeqF, Nat.reduceEqDiff, zleF, zleT, zltF, zltT, zneg1, zneg1L, zneg2, zneg0, eq_self, or_self, false_or, or_false, Nat.not_lt_zero, not_false_eq_true, not_true_eq_false]; done))) | (with_reducible refine bnd (people_ok hT) ?_) | (with_reducible refine bnd (x := some _) rfl ?_))
    rfl
  | r + 1, k, fuel + 1, bs, h1, h2, h3 => by
    have h4 := hT.1.2
    have ih := fun bs h9 => rpoor_loop N hb hT hbu h r (k + 1) fuel bs (by omega) (by omega) h9
    rw [f_R_poorest_L5, show nI k + 1 = nI (k + 1) from nI_1 k]
    by_cases hk : k = but
    · have e : poorS s.1 but (r + 1) k bs = poorS s.1 but r (k + 1) bs := by rw [poorS, if_pos hk]
      have e2 : nI k = nI but := by rw [hk]
      rw [e, ← ih bs h3]
      repeat (first | (with_reducible refine zletE ?_) | (with_reducible refine zifn ?_ ?_; · (first | with_reducible assumption | decide | (simp (disch := omega) only [zlit, nI_add, pk_mul, pk_sub, zsubm, nI_clamp, nI_leI, nI_ltI, nI_eq, zeqF, Nat.reduceEqDiff, zleF, zleT, zltF, zltT, zneg1, zneg1L, zneg2, zneg0, eq_self, or_self, false_or, or_false, Nat.not_lt_zero, not_false_eq_true, not_true_eq_false]; done))) | (with_reducible refine zifp ?_ ?_; · (first | with_reducible assumption | decide | (simp (disch := omega) only [zlit, nI_add, pk_mul, pk_sub, zsubm, nI_clamp, nI_leI, nI_ltI, nI_eq, zeqF, Nat.reduceEqDiff, zleF, zleT, zltF, zltT, zneg1, zneg1L, zneg2, zneg0, eq_self, or_self, false_or, or_false, Nat.not_lt_zero, not_false_eq_true, not_true_eq_false]; done))) | (with_reducible refine bnd (people_ok hT) ?_) | (with_reducible refine bnd (x := some _) rfl ?_))
      rfl
    · have e2 : ¬ nI k = nI but := fun q => hk ((nI_eq (by omega) (by omega)).mp q)
      rcases h3 with rfl | ⟨j, hj, rfl⟩
      · have e : poorS s.1 but (r + 1) k (-1) = poorS s.1 but r (k + 1) (nI k) := by rw [poorS, if_neg hk, if_pos rfl]
        rw [e, ← ih (nI k) (Or.inr ⟨k, by omega, rfl⟩)]
        repeat (first | (with_reducible refine zletE ?_) | (with_reducible refine zifn ?_ ?_; · (first | with_reducible assumption | decide | (simp (disch := omega) only [zlit, nI_add, pk_mul, pk_sub, zsubm, nI_clamp, nI_leI, nI_ltI, nI_eq, zeqF, Nat.reduceEqDiff, zleF, zleT, zltF, zltT, zneg1, zneg1L, zneg2, zneg0, eq_self, or_self, false_or, or_false, Nat.not_lt_zero, not_false_eq_true, not_true_eq_false]; done))) | (with_reducible refine zifp ?_ ?_; · (first | with_reducible assumption | decide | (simp (disch := omega) only [zlit, nI_add, pk_mul, pk_sub, zsubm, nI_clamp, nI_leI, nI_ltI, nI_eq, zeqF, Nat.reduceEqDiff, zleF, zleT, zltF, zltT, zneg1, zneg1L, zneg2, zneg0, eq_self, or_self, false_or, or_false, Nat.not_lt_zero, not_false_eq_true, not_true_eq_false]; done))) | (with_reducible refine bnd (people_ok hT) ?_) | (with_reducible refine bnd (x := some _) rfl ?_))
        rfl
      · have e : poorS s.1 but (r + 1) k (nI j) = poorS s.1 but r (k + 1) (if s.1 j ≤ s.1 k then nI j else nI k) := by
          rw [poorS, if_neg hk, nI_clamp (by omega)]
          exact congrArg _ (if_neg (nI_nem1 (by omega)))
        rw [e, ← ih (if s.1 j ≤ s.1 k then nI j else nI k) (by
          split
          · exact Or.inr ⟨j, hj, rfl⟩
          · exact Or.inr ⟨k, by omega, rfl⟩)]
        rw [show Int32.toNatClampNeg ((nI b + 4) + nI k) = b + 4 + k from ix (c := 4) (by omega), show Int32.toNatClampNeg ((nI b + 4) + nI j) = b + 4 + j from ix (c := 4) (by omega), (h k (by omega)).1, (h j hj).1]
        by_cases hc : s.1 j ≤ s.1 k
        · rw [if_pos hc, if_pos hc]
          repeat (first | (with_reducible refine zletE ?_) | (with_reducible refine zifn ?_ ?_; · (first | with_reducible assumption | decide | (simp (disch := omega) only [zlit, nI_add, pk_mul, pk_sub, zsubm, nI_clamp, nI_leI, nI_ltI, nI_eq, zeqF, Nat.reduceEqDiff, zleF, zleT, zltF, zltT, zneg1, zneg1L, zneg2, zneg0, eq_self, or_self, false_or, or_false, Nat.not_lt_zero, not_false_eq_true, not_true_eq_false]; done))) | (with_reducible refine zifp ?_ ?_; · (first | with_reducible assumption | decide | (simp (disch := omega) only [zlit, nI_add, pk_mul, pk_sub, zsubm, nI_clamp, nI_leI, nI_ltI, nI_eq, zeqF, Nat.reduceEqDiff, zleF, zleT, zltF, zltT, zneg1, zneg1L, zneg2, zneg0, eq_self, or_self, false_or, or_false, Nat.not_lt_zero, not_false_eq_true, not_true_eq_false]; done))) | (with_reducible refine bnd (people_ok hT) ?_) | (with_reducible refine bnd (x := some _) rfl ?_))
          rfl
        · rw [if_neg hc, if_neg hc]
          repeat (first | (with_reducible refine zletE ?_) | (with_reducible refine zifn ?_ ?_; · (first | with_reducible assumption | decide | (simp (disch := omega) only [zlit, nI_add, pk_mul, pk_sub, zsubm, nI_clamp, nI_leI, nI_ltI, nI_eq, zeqF, Nat.reduceEqDiff, zleF, zleT, zltF, zltT, zneg1, zneg1L, zneg2, zneg0, eq_self, or_self, false_or, or_false, Nat.not_lt_zero, not_false_eq_true, not_true_eq_false]; done))) | (with_reducible refine zifp ?_ ?_; · (first | with_reducible assumption | decide | (simp (disch := omega) only [zlit, nI_add, pk_mul, pk_sub, zsubm, nI_clamp, nI_leI, nI_ltI, nI_eq, zeqF, Nat.reduceEqDiff, zleF, zleT, zltF, zltT, zneg1, zneg1L, zneg2, zneg0, eq_self, or_self, false_or, or_false, Nat.not_lt_zero, not_false_eq_true, not_true_eq_false]; done))) | (with_reducible refine bnd (people_ok hT) ?_) | (with_reducible refine bnd (x := some _) rfl ?_))
          rfl
theorem rpoorest_ok {N : Nat} (hN : 10000 ≤ N) {w : VR} {v1 : VTown} {v2 : VLaws} {P b but : Nat} {hid self : Nat → Int32} {s : T3} (hb : b ≤ 1584) (hT : townR w v1 v2 P) (hbu : but < P) (h : SR P b (R_state w) hid self s) : f_R_poorest N w (nI b) (nI but) = some (poorA s.1 but P) := by
  have h4 := hT.1.2
  unfold f_R_poorest
  have := rpoor_loop N hb hT hbu h P 0 N (-1) (by omega) (by omega) (Or.inl rfl)
  rw [show f_R_poorest_L5 N N w (nI b) (nI but) (-1) 0 = _ from this]
  rfl
theorem poorA_in2 {pu : Nat → Int32} {P but : Nat} (hP : P ≤ 6) (hb : but < P) : poorA pu but P = (-1) ∨ ∃ j, j < P ∧ poorA pu but P = nI j :=
  poorA_in (N := 10000) (by omega) (v := (pu, pu, pu, pu, pu, pu, pu, 0, 0, 0, 0)) (v1 := (nI P, fun _ => 0, pu, pu, pu, pu, pu, pu, 0, 0, 0)) (v2 := (pu, 0, pu, pu, pu, pu)) ⟨rfl, hP⟩ hb
