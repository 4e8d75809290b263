/-! ===== the reference spends and mends ===== -/
theorem monS_pos {P l : Nat} {hid : Nat → Int32} {s : T3} {kd : Int32} (hp : puOk P s) (hl : l < P) : 0 ≤ monS hid s.1 l kd := by
  obtain ⟨⟨n, hn, e⟩, -⟩ := hp l hl
  unfold monS
  split
  · rw [e]; exact nI_pos' (by omega)
  · split <;> grind
theorem rspend_ev {N : Nat} (hN : 10000 ≤ N) {w : VR} {v1 : VTown} {v2 : VLaws} {P b l : Nat} {sg : Int32} {hid self : Nat → Int32} {s : T3} (hb : b ≤ 1584) (hT : townR w v1 v2 P) (hl : l < P) (hself : selfOk P self) (h : SR P b (R_state w) hid self s) (hp : puOk P s) (hsg : R_signed w = sg) (hs0 : 0 ≤ sg) : Ev (f_R_spendsAs N w (nI b) (nI l)) (fun r => SR P b r.2.2 hid self (spendS v1 v2 P sg hid self s l) ∧ Fr (b + 4) (b + 16) (R_state w) r.2.2) := by
  have hP := hT.1.2
  obtain ⟨h1, h2, h3, h4, h5⟩ := h l hl
  obtain ⟨j, hj, hsj⟩ := hself l hl
  rw [hsj] at h5
  have hc : (self l).toNatClampNeg = j := by rw [hsj, nI_clamp (by omega)]
  unfold spendS lawD
  rw [hc]
  have hk := (person_at (N := N) hT hj).1
  have hlf := laysFacts_ok (N := N) (w := w) (v2 := v2) (kd := Town_kinds v1 j) hb hT hl hj h hp rfl
  have hmp := monS_pos (hid := hid) (kd := Town_kinds v1 j) hp hl
  have hlr := hT.2.2.2 0 (by decide)
  have hfe : ∀ i, i < nfOf 0 → R_facts (R_facts_s w (fset (R_facts w) (monS hid s.1 l (Town_kinds v1 j)) (s.2.1 l) (s.2.2 l) (Town_skills v1 j) (Town_kinds v1 j))) i = fx5 (monS hid s.1 l (Town_kinds v1 j)) (s.2.1 l) (s.2.2 l) (Town_skills v1 j) (Town_kinds v1 j) i := fun i hi => fset_eq i (by have := nfOf_le 0; omega)
  unfold f_R_spendsAs
  rw [show Int32.toNatClampNeg ((nI b + 28) + nI l) = b + 28 + l from ix (c := 28) (by omega), show Int32.toNatClampNeg ((nI b + 4) + nI l) = b + 4 + l from ix (c := 4) (by omega), show Int32.toNatClampNeg ((nI b + 10) + nI l) = b + 10 + l from ix (c := 10) (by omega), h5, h1, show Int32.toNatClampNeg 3 = 3 from rfl, show Int32.toNatClampNeg 0 = 0 from rfl]
  have hcl : ∀ lv mo fa0 : Int32, 0 ≤ mo → fa0 = mo → (if (if 0 ≤ lv then (if lv ≤ R_signed w then lv else R_signed w) else 0) ≤ fa0 then (if 0 ≤ lv then (if lv ≤ R_signed w then lv else R_signed w) else 0) else fa0) = (if 0 < spM lv sg mo then spM lv sg mo else 0) := fun lv mo fa0 q1 q2 => by
    rw [q2, hsg]
    unfold spM
    grind
  by_cases ht : 0 ≤ R_towns w 3
  · obtain ⟨pl, hw⟩ := worthAt_ok hN (w := R_facts_s w (fset (R_facts w) (monS hid s.1 l (Town_kinds v1 j)) (s.2.1 l) (s.2.2 l) (Town_skills v1 j) (Town_kinds v1 j))) hlr ht hfe
    have hw : f_R_worthAt N (R_facts_s w (fset (R_facts w) (monS hid s.1 l (Town_kinds v1 j)) (s.2.1 l) (s.2.2 l) (Town_skills v1 j) (Town_kinds v1 j))) (R_towns w 3) = some (lawS v2 0 (fx5 (monS hid s.1 l (Town_kinds v1 j)) (s.2.1 l) (s.2.2 l) (Town_skills v1 j) (Town_kinds v1 j)), pl) := hw
    generalize Town_kinds v1 j = kd at *
    generalize monS hid s.1 l kd = mo at *
    generalize hlv : lawS v2 0 (fx5 mo (s.2.1 l) (s.2.2 l) (Town_skills v1 j) kd) = lv at *
    have hf0 : fset (R_facts w) mo (s.2.1 l) (s.2.2 l) (Town_skills v1 j) kd 0 = mo := rfl
    generalize hfa : fset (R_facts w) mo (s.2.1 l) (s.2.2 l) (Town_skills v1 j) kd = fa at *
    have H13 := hcl lv mo (fa 0) hmp hf0
    have hspC : spC lv sg mo kd = (if kd = 1 then (if 0 < spM lv sg mo then spM lv sg mo else 0) / 2 else (if 0 < spM lv sg mo then spM lv sg mo else 0)) := rfl
    rw [hspC]
    generalize (if 0 < spM lv sg mo then spM lv sg mo else 0) = cc at *
    repeat (first | (with_reducible refine Ev.letG (H13) ?_) | (with_reducible refine Ev.letE ?_) | (with_reducible refine Ev.ifn ?_ ?_; · (first | with_reducible assumption | decide | (simp (disch := omega) only [zlit, nI_add, pk_mul, pk_sub, zsubm, nI_clamp, nI_leI, nI_ltI, nI_eq, zeqF, Nat.reduceEqDiff, zleF, zleT, zltF, zltT, zneg1, zneg1L, zneg2, zneg0, eq_self, or_self, false_or, or_false, Nat.not_lt_zero, not_false_eq_true, not_true_eq_false]; done))) | (with_reducible refine Ev.ifp ?_ ?_; · (first | with_reducible assumption | decide | (simp (disch := omega) only [zlit, nI_add, pk_mul, pk_sub, zsubm, nI_clamp, nI_leI, nI_ltI, nI_eq, zeqF, Nat.reduceEqDiff, zleF, zleT, zltF, zltT, zneg1, zneg1L, zneg2, zneg0, eq_self, or_self, false_or, or_false, Nat.not_lt_zero, not_false_eq_true, not_true_eq_false]; done))) | (with_reducible refine Ev.bnd (hk) ?_) | (with_reducible refine Ev.bnd (hlf) ?_) | (with_reducible refine Ev.bnd (hw) ?_) | (with_reducible refine Ev.bnd (x := some _) rfl ?_))
    by_cases k2 : kd = 2
    · repeat (first | (with_reducible refine Ev.letE ?_) | (with_reducible refine Ev.ifn ?_ ?_; · (first | with_reducible assumption | decide | (simp (disch := omega) only [zlit, nI_add, pk_mul, pk_sub, zsubm, nI_clamp, nI_leI, nI_ltI, nI_eq, zeqF, Nat.reduceEqDiff, zleF, zleT, zltF, zltT, zneg1, zneg1L, zneg2, zneg0, eq_self, or_self, false_or, or_false, Nat.not_lt_zero, not_false_eq_true, not_true_eq_false]; done))) | (with_reducible refine Ev.ifp ?_ ?_; · (first | with_reducible assumption | decide | (simp (disch := omega) only [zlit, nI_add, pk_mul, pk_sub, zsubm, nI_clamp, nI_leI, nI_ltI, nI_eq, zeqF, Nat.reduceEqDiff, zleF, zleT, zltF, zltT, zneg1, zneg1L, zneg2, zneg0, eq_self, or_self, false_or, or_false, Nat.not_lt_zero, not_false_eq_true, not_true_eq_false]; done))) | (with_reducible refine Ev.bnd (x := some _) rfl ?_))
      refine Ev.bnx (gets_ev (hid := hid) (self := self) (s := (upd s.1 l (s.1 l - (if kd = 1 then cc / 2 else cc)), s.2.1, s.2.2)) hb hP hj ?_) ?_
      · exact SR_pu h hP hl
      · rintro st' ⟨g2, g3⟩
        refine Ev.ret ⟨?_, ((Fr.refl _ _ _).upd (by omega) (by omega)).trans (g3.wide (by omega) (by omega))⟩
        rw [spend2, if_pos k2]
        exact g2
    · generalize hC : (if kd = 1 then cc / 2 else cc) = C at *
      have e10 : ∀ x : Int32, upd (R_state w) (b + 4 + l) x (b + 10 + l) = s.2.1 l := fun x => by rw [pk_un (by omega)]; exact h2
      by_cases k3 : kd = 3
      · repeat (first | (with_reducible refine Ev.letE ?_) | (with_reducible refine Ev.ifn ?_ ?_; · (first | with_reducible assumption | decide | (simp (disch := omega) only [zlit, nI_add, pk_mul, pk_sub, zsubm, nI_clamp, nI_leI, nI_ltI, nI_eq, zeqF, Nat.reduceEqDiff, zleF, zleT, zltF, zltT, zneg1, zneg1L, zneg2, zneg0, eq_self, or_self, false_or, or_false, Nat.not_lt_zero, not_false_eq_true, not_true_eq_false]; done))) | (with_reducible refine Ev.ifp ?_ ?_; · (first | with_reducible assumption | decide | (simp (disch := omega) only [zlit, nI_add, pk_mul, pk_sub, zsubm, nI_clamp, nI_leI, nI_ltI, nI_eq, zeqF, Nat.reduceEqDiff, zleF, zleT, zltF, zltT, zneg1, zneg1L, zneg2, zneg0, eq_self, or_self, false_or, or_false, Nat.not_lt_zero, not_false_eq_true, not_true_eq_false]; done))) | (with_reducible refine Ev.bnd (x := some _) rfl ?_))
        rw [e10]
        by_cases hd : s.2.1 l ≤ C
        · have ep : (if s.2.1 l < C then s.2.1 l else C) = s.2.1 l := by grind
          have esp : spend2 P kd j C s l = spend3 P (s.2.1 l) C s l := by rw [spend2, if_neg k2, if_pos k3, ep]
          have hS2 : SR P b (upd (upd (R_state w) (b + 4 + l) (s.1 l - C)) (b + 10 + l) (s.2.1 l - s.2.1 l)) hid self (upd s.1 l (s.1 l - C), upd s.2.1 l (s.2.1 l - s.2.1 l), s.2.2) := SR_de (SR_pu h hP hl) hP hl
          have hF2 : Fr (b + 4) (b + 16) (R_state w) (upd (upd (R_state w) (b + 4 + l) (s.1 l - C)) (b + 10 + l) (s.2.1 l - s.2.1 l)) := ((Fr.refl _ _ _).upd (by omega) (by omega)).upd (by omega) (by omega)
          have hpo := rpoorest_ok hN (w := R_s_facts_pile_state w fa pl (upd (upd (R_state w) (b + 4 + l) (s.1 l - C)) (b + 10 + l) (s.2.1 l - s.2.1 l))) (v1 := v1) (v2 := v2) hb hT hl hS2
          repeat (first | (with_reducible refine Ev.letE ?_) | (with_reducible refine Ev.ifn ?_ ?_; · (first | with_reducible assumption | decide | (simp (disch := omega) only [zlit, nI_add, pk_mul, pk_sub, zsubm, nI_clamp, nI_leI, nI_ltI, nI_eq, zeqF, Nat.reduceEqDiff, zleF, zleT, zltF, zltT, zneg1, zneg1L, zneg2, zneg0, eq_self, or_self, false_or, or_false, Nat.not_lt_zero, not_false_eq_true, not_true_eq_false]; done))) | (with_reducible refine Ev.ifp ?_ ?_; · (first | with_reducible assumption | decide | (simp (disch := omega) only [zlit, nI_add, pk_mul, pk_sub, zsubm, nI_clamp, nI_leI, nI_ltI, nI_eq, zeqF, Nat.reduceEqDiff, zleF, zleT, zltF, zltT, zneg1, zneg1L, zneg2, zneg0, eq_self, or_self, false_or, or_false, Nat.not_lt_zero, not_false_eq_true, not_true_eq_false]; done))) | (with_reducible refine Ev.bnd (hpo) ?_) | (with_reducible refine Ev.bnd (x := some _) rfl ?_))
          rcases poorA_in2 (pu := upd s.1 l (s.1 l - C)) hP hl with hq | ⟨jj, hjj, hq⟩
          · rw [hq]
            repeat (first | (with_reducible refine Ev.letE ?_) | (with_reducible refine Ev.ifn ?_ ?_; · (first | with_reducible assumption | decide | (simp (disch := omega) only [zlit, nI_add, pk_mul, pk_sub, zsubm, nI_clamp, nI_leI, nI_ltI, nI_eq, zeqF, Nat.reduceEqDiff, zleF, zleT, zltF, zltT, zneg1, zneg1L, zneg2, zneg0, eq_self, or_self, false_or, or_false, Nat.not_lt_zero, not_false_eq_true, not_true_eq_false]; done))) | (with_reducible refine Ev.ifp ?_ ?_; · (first | with_reducible assumption | decide | (simp (disch := omega) only [zlit, nI_add, pk_mul, pk_sub, zsubm, nI_clamp, nI_leI, nI_ltI, nI_eq, zeqF, Nat.reduceEqDiff, zleF, zleT, zltF, zltT, zneg1, zneg1L, zneg2, zneg0, eq_self, or_self, false_or, or_false, Nat.not_lt_zero, not_false_eq_true, not_true_eq_false]; done))) | (with_reducible refine Ev.bnd (x := some _) rfl ?_))
            refine Ev.ret ⟨?_, hF2⟩
            rw [esp, spend3, hq, gainO, if_pos rfl]
            exact hS2
          · rw [hq]
            repeat (first | (with_reducible refine Ev.letE ?_) | (with_reducible refine Ev.ifn ?_ ?_; · (first | with_reducible assumption | decide | (simp (disch := omega) only [zlit, nI_add, pk_mul, pk_sub, zsubm, nI_clamp, nI_leI, nI_ltI, nI_eq, zeqF, Nat.reduceEqDiff, zleF, zleT, zltF, zltT, zneg1, zneg1L, zneg2, zneg0, eq_self, or_self, false_or, or_false, Nat.not_lt_zero, not_false_eq_true, not_true_eq_false]; done))) | (with_reducible refine Ev.ifp ?_ ?_; · (first | with_reducible assumption | decide | (simp (disch := omega) only [zlit, nI_add, pk_mul, pk_sub, zsubm, nI_clamp, nI_leI, nI_ltI, nI_eq, zeqF, Nat.reduceEqDiff, zleF, zleT, zltF, zltT, zneg1, zneg1L, zneg2, zneg0, eq_self, or_self, false_or, or_false, Nat.not_lt_zero, not_false_eq_true, not_true_eq_false]; done))) | (with_reducible refine Ev.bnd (x := some _) rfl ?_))
            refine Ev.bnx (gets_ev (hid := hid) (self := self) (s := (upd s.1 l (s.1 l - C), upd s.2.1 l (s.2.1 l - s.2.1 l), s.2.2)) hb hP hjj ?_) ?_
            · exact hS2
            · rintro st' ⟨g2, g3⟩
              refine Ev.ret ⟨?_, hF2.trans (g3.wide (by omega) (by omega))⟩
              rw [esp, spend3, hq, gainO, if_neg (nI_nem1 (by omega)), nI_clamp (n := jj) (by omega)]
              exact g2
        · have ep : (if s.2.1 l < C then s.2.1 l else C) = C := by grind
          have esp : spend2 P kd j C s l = spend3 P C C s l := by rw [spend2, if_neg k2, if_pos k3, ep]
          have hS2 : SR P b (upd (upd (R_state w) (b + 4 + l) (s.1 l - C)) (b + 10 + l) (s.2.1 l - C)) hid self (upd s.1 l (s.1 l - C), upd s.2.1 l (s.2.1 l - C), s.2.2) := SR_de (SR_pu h hP hl) hP hl
          have hF2 : Fr (b + 4) (b + 16) (R_state w) (upd (upd (R_state w) (b + 4 + l) (s.1 l - C)) (b + 10 + l) (s.2.1 l - C)) := ((Fr.refl _ _ _).upd (by omega) (by omega)).upd (by omega) (by omega)
          have hpo := rpoorest_ok hN (w := R_s_facts_pile_state w fa pl (upd (upd (R_state w) (b + 4 + l) (s.1 l - C)) (b + 10 + l) (s.2.1 l - C))) (v1 := v1) (v2 := v2) hb hT hl hS2
          repeat (first | (with_reducible refine Ev.letE ?_) | (with_reducible refine Ev.ifn ?_ ?_; · (first | with_reducible assumption | decide | (simp (disch := omega) only [zlit, nI_add, pk_mul, pk_sub, zsubm, nI_clamp, nI_leI, nI_ltI, nI_eq, zeqF, Nat.reduceEqDiff, zleF, zleT, zltF, zltT, zneg1, zneg1L, zneg2, zneg0, eq_self, or_self, false_or, or_false, Nat.not_lt_zero, not_false_eq_true, not_true_eq_false]; done))) | (with_reducible refine Ev.ifp ?_ ?_; · (first | with_reducible assumption | decide | (simp (disch := omega) only [zlit, nI_add, pk_mul, pk_sub, zsubm, nI_clamp, nI_leI, nI_ltI, nI_eq, zeqF, Nat.reduceEqDiff, zleF, zleT, zltF, zltT, zneg1, zneg1L, zneg2, zneg0, eq_self, or_self, false_or, or_false, Nat.not_lt_zero, not_false_eq_true, not_true_eq_false]; done))) | (with_reducible refine Ev.bnd (hpo) ?_) | (with_reducible refine Ev.bnd (x := some _) rfl ?_))
          rcases poorA_in2 (pu := upd s.1 l (s.1 l - C)) hP hl with hq | ⟨jj, hjj, hq⟩
          · rw [hq]
            repeat (first | (with_reducible refine Ev.letE ?_) | (with_reducible refine Ev.ifn ?_ ?_; · (first | with_reducible assumption | decide | (simp (disch := omega) only [zlit, nI_add, pk_mul, pk_sub, zsubm, nI_clamp, nI_leI, nI_ltI, nI_eq, zeqF, Nat.reduceEqDiff, zleF, zleT, zltF, zltT, zneg1, zneg1L, zneg2, zneg0, eq_self, or_self, false_or, or_false, Nat.not_lt_zero, not_false_eq_true, not_true_eq_false]; done))) | (with_reducible refine Ev.ifp ?_ ?_; · (first | with_reducible assumption | decide | (simp (disch := omega) only [zlit, nI_add, pk_mul, pk_sub, zsubm, nI_clamp, nI_leI, nI_ltI, nI_eq, zeqF, Nat.reduceEqDiff, zleF, zleT, zltF, zltT, zneg1, zneg1L, zneg2, zneg0, eq_self, or_self, false_or, or_false, Nat.not_lt_zero, not_false_eq_true, not_true_eq_false]; done))) | (with_reducible refine Ev.bnd (x := some _) rfl ?_))
            refine Ev.ret ⟨?_, hF2⟩
            rw [esp, spend3, hq, gainO, if_pos rfl]
            exact hS2
          · rw [hq]
            repeat (first | (with_reducible refine Ev.letE ?_) | (with_reducible refine Ev.ifn ?_ ?_; · (first | with_reducible assumption | decide | (simp (disch := omega) only [zlit, nI_add, pk_mul, pk_sub, zsubm, nI_clamp, nI_leI, nI_ltI, nI_eq, zeqF, Nat.reduceEqDiff, zleF, zleT, zltF, zltT, zneg1, zneg1L, zneg2, zneg0, eq_self, or_self, false_or, or_false, Nat.not_lt_zero, not_false_eq_true, not_true_eq_false]; done))) | (with_reducible refine Ev.ifp ?_ ?_; · (first | with_reducible assumption | decide | (simp (disch := omega) only [zlit, nI_add, pk_mul, pk_sub, zsubm, nI_clamp, nI_leI, nI_ltI, nI_eq, zeqF, Nat.reduceEqDiff, zleF, zleT, zltF, zltT, zneg1, zneg1L, zneg2, zneg0, eq_self, or_self, false_or, or_false, Nat.not_lt_zero, not_false_eq_true, not_true_eq_false]; done))) | (with_reducible refine Ev.bnd (x := some _) rfl ?_))
            refine Ev.bnx (gets_ev (hid := hid) (self := self) (s := (upd s.1 l (s.1 l - C), upd s.2.1 l (s.2.1 l - C), s.2.2)) hb hP hjj ?_) ?_
            · exact hS2
            · rintro st' ⟨g2, g3⟩
              refine Ev.ret ⟨?_, hF2.trans (g3.wide (by omega) (by omega))⟩
              rw [esp, spend3, hq, gainO, if_neg (nI_nem1 (by omega)), nI_clamp (n := jj) (by omega)]
              exact g2
      · have esp : spend2 P kd j C s l = spend3 P 0 C s l := by rw [spend2, if_neg k2, if_neg k3]
        repeat (first | (with_reducible refine Ev.letE ?_) | (with_reducible refine Ev.ifn ?_ ?_; · (first | with_reducible assumption | decide | (simp (disch := omega) only [zlit, nI_add, pk_mul, pk_sub, zsubm, nI_clamp, nI_leI, nI_ltI, nI_eq, zeqF, Nat.reduceEqDiff, zleF, zleT, zltF, zltT, zneg1, zneg1L, zneg2, zneg0, eq_self, or_self, false_or, or_false, Nat.not_lt_zero, not_false_eq_true, not_true_eq_false]; done))) | (with_reducible refine Ev.ifp ?_ ?_; · (first | with_reducible assumption | decide | (simp (disch := omega) only [zlit, nI_add, pk_mul, pk_sub, zsubm, nI_clamp, nI_leI, nI_ltI, nI_eq, zeqF, Nat.reduceEqDiff, zleF, zleT, zltF, zltT, zneg1, zneg1L, zneg2, zneg0, eq_self, or_self, false_or, or_false, Nat.not_lt_zero, not_false_eq_true, not_true_eq_false]; done))) | (with_reducible refine Ev.bnd (x := some _) rfl ?_))
        rw [e10]
        have hS2 : SR P b (upd (upd (R_state w) (b + 4 + l) (s.1 l - C)) (b + 10 + l) (s.2.1 l - 0)) hid self (upd s.1 l (s.1 l - C), upd s.2.1 l (s.2.1 l - 0), s.2.2) := SR_de (SR_pu h hP hl) hP hl
        have hF2 : Fr (b + 4) (b + 16) (R_state w) (upd (upd (R_state w) (b + 4 + l) (s.1 l - C)) (b + 10 + l) (s.2.1 l - 0)) := ((Fr.refl _ _ _).upd (by omega) (by omega)).upd (by omega) (by omega)
        have hpo := rpoorest_ok hN (w := R_s_facts_pile_state w fa pl (upd (upd (R_state w) (b + 4 + l) (s.1 l - C)) (b + 10 + l) (s.2.1 l - 0))) (v1 := v1) (v2 := v2) hb hT hl hS2
        repeat (first | (with_reducible refine Ev.letE ?_) | (with_reducible refine Ev.ifn ?_ ?_; · (first | with_reducible assumption | decide | (simp (disch := omega) only [zlit, nI_add, pk_mul, pk_sub, zsubm, nI_clamp, nI_leI, nI_ltI, nI_eq, zeqF, Nat.reduceEqDiff, zleF, zleT, zltF, zltT, zneg1, zneg1L, zneg2, zneg0, eq_self, or_self, false_or, or_false, Nat.not_lt_zero, not_false_eq_true, not_true_eq_false]; done))) | (with_reducible refine Ev.ifp ?_ ?_; · (first | with_reducible assumption | decide | (simp (disch := omega) only [zlit, nI_add, pk_mul, pk_sub, zsubm, nI_clamp, nI_leI, nI_ltI, nI_eq, zeqF, Nat.reduceEqDiff, zleF, zleT, zltF, zltT, zneg1, zneg1L, zneg2, zneg0, eq_self, or_self, false_or, or_false, Nat.not_lt_zero, not_false_eq_true, not_true_eq_false]; done))) | (with_reducible refine Ev.bnd (hpo) ?_) | (with_reducible refine Ev.bnd (x := some _) rfl ?_))
        rcases poorA_in2 (pu := upd s.1 l (s.1 l - C)) hP hl with hq | ⟨jj, hjj, hq⟩
        · rw [hq]
          repeat (first | (with_reducible refine Ev.letE ?_) | (with_reducible refine Ev.ifn ?_ ?_; · (first | with_reducible assumption | decide | (simp (disch := omega) only [zlit, nI_add, pk_mul, pk_sub, zsubm, nI_clamp, nI_leI, nI_ltI, nI_eq, zeqF, Nat.reduceEqDiff, zleF, zleT, zltF, zltT, zneg1, zneg1L, zneg2, zneg0, eq_self, or_self, false_or, or_false, Nat.not_lt_zero, not_false_eq_true, not_true_eq_false]; done))) | (with_reducible refine Ev.ifp ?_ ?_; · (first | with_reducible assumption | decide | (simp (disch := omega) only [zlit, nI_add, pk_mul, pk_sub, zsubm, nI_clamp, nI_leI, nI_ltI, nI_eq, zeqF, Nat.reduceEqDiff, zleF, zleT, zltF, zltT, zneg1, zneg1L, zneg2, zneg0, eq_self, or_self, false_or, or_false, Nat.not_lt_zero, not_false_eq_true, not_true_eq_false]; done))) | (with_reducible refine Ev.bnd (x := some _) rfl ?_))
          refine Ev.ret ⟨?_, hF2⟩
          rw [esp, spend3, hq, gainO, if_pos rfl]
          exact hS2
        · rw [hq]
          repeat (first | (with_reducible refine Ev.letE ?_) | (with_reducible refine Ev.ifn ?_ ?_; · (first | with_reducible assumption | decide | (simp (disch := omega) only [zlit, nI_add, pk_mul, pk_sub, zsubm, nI_clamp, nI_leI, nI_ltI, nI_eq, zeqF, Nat.reduceEqDiff, zleF, zleT, zltF, zltT, zneg1, zneg1L, zneg2, zneg0, eq_self, or_self, false_or, or_false, Nat.not_lt_zero, not_false_eq_true, not_true_eq_false]; done))) | (with_reducible refine Ev.ifp ?_ ?_; · (first | with_reducible assumption | decide | (simp (disch := omega) only [zlit, nI_add, pk_mul, pk_sub, zsubm, nI_clamp, nI_leI, nI_ltI, nI_eq, zeqF, Nat.reduceEqDiff, zleF, zleT, zltF, zltT, zneg1, zneg1L, zneg2, zneg0, eq_self, or_self, false_or, or_false, Nat.not_lt_zero, not_false_eq_true, not_true_eq_false]; done))) | (with_reducible refine Ev.bnd (x := some _) rfl ?_))
          refine Ev.bnx (gets_ev (hid := hid) (self := self) (s := (upd s.1 l (s.1 l - C), upd s.2.1 l (s.2.1 l - 0), s.2.2)) hb hP hjj ?_) ?_
          · exact hS2
          · rintro st' ⟨g2, g3⟩
            refine Ev.ret ⟨?_, hF2.trans (g3.wide (by omega) (by omega))⟩
            rw [esp, spend3, hq, gainO, if_neg (nI_nem1 (by omega)), nI_clamp (n := jj) (by omega)]
            exact g2
  · have hu := untold_ok hlr ht (fx5 (monS hid s.1 l (Town_kinds v1 j)) (s.2.1 l) (s.2.2 l) (Town_skills v1 j) (Town_kinds v1 j))
    rw [hu]
    have hu : untS 0 (fx5 (monS hid s.1 l (Town_kinds v1 j)) (s.2.1 l) (s.2.2 l) (Town_skills v1 j) (Town_kinds v1 j)) = Town_skills v1 j * 2 := rfl
    rw [hu]
    generalize Town_kinds v1 j = kd at *
    generalize monS hid s.1 l kd = mo at *
    have hf0 : fset (R_facts w) mo (s.2.1 l) (s.2.2 l) (Town_skills v1 j) kd 0 = mo := rfl
    have hf3 : fset (R_facts w) mo (s.2.1 l) (s.2.2 l) (Town_skills v1 j) kd 3 = Town_skills v1 j := rfl
    generalize hfa : fset (R_facts w) mo (s.2.1 l) (s.2.2 l) (Town_skills v1 j) kd = fa at *
    rw [← hf3]
    have H13 := hcl (fa 3 * 2) mo (fa 0) hmp hf0
    have hspC : spC (fa 3 * 2) sg mo kd = (if kd = 1 then (if 0 < spM (fa 3 * 2) sg mo then spM (fa 3 * 2) sg mo else 0) / 2 else (if 0 < spM (fa 3 * 2) sg mo then spM (fa 3 * 2) sg mo else 0)) := rfl
    rw [hspC]
    generalize (if 0 < spM (fa 3 * 2) sg mo then spM (fa 3 * 2) sg mo else 0) = cc at *
    repeat (first | (with_reducible refine Ev.letG (H13) ?_) | (with_reducible refine Ev.letE ?_) | (with_reducible refine Ev.ifn ?_ ?_; · (first | with_reducible assumption | decide | (simp (disch := omega) only [zlit, nI_add, pk_mul, pk_sub, zsubm, nI_clamp, nI_leI, nI_ltI, nI_eq, zeqF, Nat.reduceEqDiff, zleF, zleT, zltF, zltT, zneg1, zneg1L, zneg2, zneg0, eq_self, or_self, false_or, or_false, Nat.not_lt_zero, not_false_eq_true, not_true_eq_false]; done))) | (with_reducible refine Ev.ifp ?_ ?_; · (first | with_reducible assumption | decide | (simp (disch := omega) only [zlit, nI_add, pk_mul, pk_sub, zsubm, nI_clamp, nI_leI, nI_ltI, nI_eq, zeqF, Nat.reduceEqDiff, zleF, zleT, zltF, zltT, zneg1, zneg1L, zneg2, zneg0, eq_self, or_self, false_or, or_false, Nat.not_lt_zero, not_false_eq_true, not_true_eq_false]; done))) | (with_reducible refine Ev.bnd (hk) ?_) | (with_reducible refine Ev.bnd (hlf) ?_) | (with_reducible refine Ev.bnd (x := some _) rfl ?_))
    by_cases k2 : kd = 2
    · repeat (first | (with_reducible refine Ev.letE ?_) | (with_reducible refine Ev.ifn ?_ ?_; · (first | with_reducible assumption | decide | (simp (disch := omega) only [zlit, nI_add, pk_mul, pk_sub, zsubm, nI_clamp, nI_leI, nI_ltI, nI_eq, zeqF, Nat.reduceEqDiff, zleF, zleT, zltF, zltT, zneg1, zneg1L, zneg2, zneg0, eq_self, or_self, false_or, or_false, Nat.not_lt_zero, not_false_eq_true, not_true_eq_false]; done))) | (with_reducible refine Ev.ifp ?_ ?_; · (first | with_reducible assumption | decide | (simp (disch := omega) only [zlit, nI_add, pk_mul, pk_sub, zsubm, nI_clamp, nI_leI, nI_ltI, nI_eq, zeqF, Nat.reduceEqDiff, zleF, zleT, zltF, zltT, zneg1, zneg1L, zneg2, zneg0, eq_self, or_self, false_or, or_false, Nat.not_lt_zero, not_false_eq_true, not_true_eq_false]; done))) | (with_reducible refine Ev.bnd (x := some _) rfl ?_))
      refine Ev.bnx (gets_ev (hid := hid) (self := self) (s := (upd s.1 l (s.1 l - (if kd = 1 then cc / 2 else cc)), s.2.1, s.2.2)) hb hP hj ?_) ?_
      · exact SR_pu h hP hl
      · rintro st' ⟨g2, g3⟩
        refine Ev.ret ⟨?_, ((Fr.refl _ _ _).upd (by omega) (by omega)).trans (g3.wide (by omega) (by omega))⟩
        rw [spend2, if_pos k2]
        exact g2
    · generalize hC : (if kd = 1 then cc / 2 else cc) = C at *
      have e10 : ∀ x : Int32, upd (R_state w) (b + 4 + l) x (b + 10 + l) = s.2.1 l := fun x => by rw [pk_un (by omega)]; exact h2
      by_cases k3 : kd = 3
      · repeat (first | (with_reducible refine Ev.letE ?_) | (with_reducible refine Ev.ifn ?_ ?_; · (first | with_reducible assumption | decide | (simp (disch := omega) only [zlit, nI_add, pk_mul, pk_sub, zsubm, nI_clamp, nI_leI, nI_ltI, nI_eq, zeqF, Nat.reduceEqDiff, zleF, zleT, zltF, zltT, zneg1, zneg1L, zneg2, zneg0, eq_self, or_self, false_or, or_false, Nat.not_lt_zero, not_false_eq_true, not_true_eq_false]; done))) | (with_reducible refine Ev.ifp ?_ ?_; · (first | with_reducible assumption | decide | (simp (disch := omega) only [zlit, nI_add, pk_mul, pk_sub, zsubm, nI_clamp, nI_leI, nI_ltI, nI_eq, zeqF, Nat.reduceEqDiff, zleF, zleT, zltF, zltT, zneg1, zneg1L, zneg2, zneg0, eq_self, or_self, false_or, or_false, Nat.not_lt_zero, not_false_eq_true, not_true_eq_false]; done))) | (with_reducible refine Ev.bnd (x := some _) rfl ?_))
        rw [e10]
        by_cases hd : s.2.1 l ≤ C
        · have ep : (if s.2.1 l < C then s.2.1 l else C) = s.2.1 l := by grind
          have esp : spend2 P kd j C s l = spend3 P (s.2.1 l) C s l := by rw [spend2, if_neg k2, if_pos k3, ep]
          have hS2 : SR P b (upd (upd (R_state w) (b + 4 + l) (s.1 l - C)) (b + 10 + l) (s.2.1 l - s.2.1 l)) hid self (upd s.1 l (s.1 l - C), upd s.2.1 l (s.2.1 l - s.2.1 l), s.2.2) := SR_de (SR_pu h hP hl) hP hl
          have hF2 : Fr (b + 4) (b + 16) (R_state w) (upd (upd (R_state w) (b + 4 + l) (s.1 l - C)) (b + 10 + l) (s.2.1 l - s.2.1 l)) := ((Fr.refl _ _ _).upd (by omega) (by omega)).upd (by omega) (by omega)
          have hpo := rpoorest_ok hN (w := R_s_facts_state w fa (upd (upd (R_state w) (b + 4 + l) (s.1 l - C)) (b + 10 + l) (s.2.1 l - s.2.1 l))) (v1 := v1) (v2 := v2) hb hT hl hS2
          repeat (first | (with_reducible refine Ev.letE ?_) | (with_reducible refine Ev.ifn ?_ ?_; · (first | with_reducible assumption | decide | (simp (disch := omega) only [zlit, nI_add, pk_mul, pk_sub, zsubm, nI_clamp, nI_leI, nI_ltI, nI_eq, zeqF, Nat.reduceEqDiff, zleF, zleT, zltF, zltT, zneg1, zneg1L, zneg2, zneg0, eq_self, or_self, false_or, or_false, Nat.not_lt_zero, not_false_eq_true, not_true_eq_false]; done))) | (with_reducible refine Ev.ifp ?_ ?_; · (first | with_reducible assumption | decide | (simp (disch := omega) only [zlit, nI_add, pk_mul, pk_sub, zsubm, nI_clamp, nI_leI, nI_ltI, nI_eq, zeqF, Nat.reduceEqDiff, zleF, zleT, zltF, zltT, zneg1, zneg1L, zneg2, zneg0, eq_self, or_self, false_or, or_false, Nat.not_lt_zero, not_false_eq_true, not_true_eq_false]; done))) | (with_reducible refine Ev.bnd (hpo) ?_) | (with_reducible refine Ev.bnd (x := some _) rfl ?_))
          rcases poorA_in2 (pu := upd s.1 l (s.1 l - C)) hP hl with hq | ⟨jj, hjj, hq⟩
          · rw [hq]
            repeat (first | (with_reducible refine Ev.letE ?_) | (with_reducible refine Ev.ifn ?_ ?_; · (first | with_reducible assumption | decide | (simp (disch := omega) only [zlit, nI_add, pk_mul, pk_sub, zsubm, nI_clamp, nI_leI, nI_ltI, nI_eq, zeqF, Nat.reduceEqDiff, zleF, zleT, zltF, zltT, zneg1, zneg1L, zneg2, zneg0, eq_self, or_self, false_or, or_false, Nat.not_lt_zero, not_false_eq_true, not_true_eq_false]; done))) | (with_reducible refine Ev.ifp ?_ ?_; · (first | with_reducible assumption | decide | (simp (disch := omega) only [zlit, nI_add, pk_mul, pk_sub, zsubm, nI_clamp, nI_leI, nI_ltI, nI_eq, zeqF, Nat.reduceEqDiff, zleF, zleT, zltF, zltT, zneg1, zneg1L, zneg2, zneg0, eq_self, or_self, false_or, or_false, Nat.not_lt_zero, not_false_eq_true, not_true_eq_false]; done))) | (with_reducible refine Ev.bnd (x := some _) rfl ?_))
            refine Ev.ret ⟨?_, hF2⟩
            rw [esp, spend3, hq, gainO, if_pos rfl]
            exact hS2
          · rw [hq]
            repeat (first | (with_reducible refine Ev.letE ?_) | (with_reducible refine Ev.ifn ?_ ?_; · (first | with_reducible assumption | decide | (simp (disch := omega) only [zlit, nI_add, pk_mul, pk_sub, zsubm, nI_clamp, nI_leI, nI_ltI, nI_eq, zeqF, Nat.reduceEqDiff, zleF, zleT, zltF, zltT, zneg1, zneg1L, zneg2, zneg0, eq_self, or_self, false_or, or_false, Nat.not_lt_zero, not_false_eq_true, not_true_eq_false]; done))) | (with_reducible refine Ev.ifp ?_ ?_; · (first | with_reducible assumption | decide | (simp (disch := omega) only [zlit, nI_add, pk_mul, pk_sub, zsubm, nI_clamp, nI_leI, nI_ltI, nI_eq, zeqF, Nat.reduceEqDiff, zleF, zleT, zltF, zltT, zneg1, zneg1L, zneg2, zneg0, eq_self, or_self, false_or, or_false, Nat.not_lt_zero, not_false_eq_true, not_true_eq_false]; done))) | (with_reducible refine Ev.bnd (x := some _) rfl ?_))
            refine Ev.bnx (gets_ev (hid := hid) (self := self) (s := (upd s.1 l (s.1 l - C), upd s.2.1 l (s.2.1 l - s.2.1 l), s.2.2)) hb hP hjj ?_) ?_
            · exact hS2
            · rintro st' ⟨g2, g3⟩
              refine Ev.ret ⟨?_, hF2.trans (g3.wide (by omega) (by omega))⟩
              rw [esp, spend3, hq, gainO, if_neg (nI_nem1 (by omega)), nI_clamp (n := jj) (by omega)]
              exact g2
        · have ep : (if s.2.1 l < C then s.2.1 l else C) = C := by grind
          have esp : spend2 P kd j C s l = spend3 P C C s l := by rw [spend2, if_neg k2, if_pos k3, ep]
          have hS2 : SR P b (upd (upd (R_state w) (b + 4 + l) (s.1 l - C)) (b + 10 + l) (s.2.1 l - C)) hid self (upd s.1 l (s.1 l - C), upd s.2.1 l (s.2.1 l - C), s.2.2) := SR_de (SR_pu h hP hl) hP hl
          have hF2 : Fr (b + 4) (b + 16) (R_state w) (upd (upd (R_state w) (b + 4 + l) (s.1 l - C)) (b + 10 + l) (s.2.1 l - C)) := ((Fr.refl _ _ _).upd (by omega) (by omega)).upd (by omega) (by omega)
          have hpo := rpoorest_ok hN (w := R_s_facts_state w fa (upd (upd (R_state w) (b + 4 + l) (s.1 l - C)) (b + 10 + l) (s.2.1 l - C))) (v1 := v1) (v2 := v2) hb hT hl hS2
          repeat (first | (with_reducible refine Ev.letE ?_) | (with_reducible refine Ev.ifn ?_ ?_; · (first | with_reducible assumption | decide | (simp (disch := omega) only [zlit, nI_add, pk_mul, pk_sub, zsubm, nI_clamp, nI_leI, nI_ltI, nI_eq, zeqF, Nat.reduceEqDiff, zleF, zleT, zltF, zltT, zneg1, zneg1L, zneg2, zneg0, eq_self, or_self, false_or, or_false, Nat.not_lt_zero, not_false_eq_true, not_true_eq_false]; done))) | (with_reducible refine Ev.ifp ?_ ?_; · (first | with_reducible assumption | decide | (simp (disch := omega) only [zlit, nI_add, pk_mul, pk_sub, zsubm, nI_clamp, nI_leI, nI_ltI, nI_eq, zeqF, Nat.reduceEqDiff, zleF, zleT, zltF, zltT, zneg1, zneg1L, zneg2, zneg0, eq_self, or_self, false_or, or_false, Nat.not_lt_zero, not_false_eq_true, not_true_eq_false]; done))) | (with_reducible refine Ev.bnd (hpo) ?_) | (with_reducible refine Ev.bnd (x := some _) rfl ?_))
          rcases poorA_in2 (pu := upd s.1 l (s.1 l - C)) hP hl with hq | ⟨jj, hjj, hq⟩
          · rw [hq]
            repeat (first | (with_reducible refine Ev.letE ?_) | (with_reducible refine Ev.ifn ?_ ?_; · (first | with_reducible assumption | decide | (simp (disch := omega) only [zlit, nI_add, pk_mul, pk_sub, zsubm, nI_clamp, nI_leI, nI_ltI, nI_eq, zeqF, Nat.reduceEqDiff, zleF, zleT, zltF, zltT, zneg1, zneg1L, zneg2, zneg0, eq_self, or_self, false_or, or_false, Nat.not_lt_zero, not_false_eq_true, not_true_eq_false]; done))) | (with_reducible refine Ev.ifp ?_ ?_; · (first | with_reducible assumption | decide | (simp (disch := omega) only [zlit, nI_add, pk_mul, pk_sub, zsubm, nI_clamp, nI_leI, nI_ltI, nI_eq, zeqF, Nat.reduceEqDiff, zleF, zleT, zltF, zltT, zneg1, zneg1L, zneg2, zneg0, eq_self, or_self, false_or, or_false, Nat.not_lt_zero, not_false_eq_true, not_true_eq_false]; done))) | (with_reducible refine Ev.bnd (x := some _) rfl ?_))
            refine Ev.ret ⟨?_, hF2⟩
            rw [esp, spend3, hq, gainO, if_pos rfl]
            exact hS2
          · rw [hq]
            repeat (first | (with_reducible refine Ev.letE ?_) | (with_reducible refine Ev.ifn ?_ ?_; · (first | with_reducible assumption | decide | (simp (disch := omega) only [zlit, nI_add, pk_mul, pk_sub, zsubm, nI_clamp, nI_leI, nI_ltI, nI_eq, zeqF, Nat.reduceEqDiff, zleF, zleT, zltF, zltT, zneg1, zneg1L, zneg2, zneg0, eq_self, or_self, false_or, or_false, Nat.not_lt_zero, not_false_eq_true, not_true_eq_false]; done))) | (with_reducible refine Ev.ifp ?_ ?_; · (first | with_reducible assumption | decide | (simp (disch := omega) only [zlit, nI_add, pk_mul, pk_sub, zsubm, nI_clamp, nI_leI, nI_ltI, nI_eq, zeqF, Nat.reduceEqDiff, zleF, zleT, zltF, zltT, zneg1, zneg1L, zneg2, zneg0, eq_self, or_self, false_or, or_false, Nat.not_lt_zero, not_false_eq_true, not_true_eq_false]; done))) | (with_reducible refine Ev.bnd (x := some _) rfl ?_))
            refine Ev.bnx (gets_ev (hid := hid) (self := self) (s := (upd s.1 l (s.1 l - C), upd s.2.1 l (s.2.1 l - C), s.2.2)) hb hP hjj ?_) ?_
            · exact hS2
            · rintro st' ⟨g2, g3⟩
              refine Ev.ret ⟨?_, hF2.trans (g3.wide (by omega) (by omega))⟩
              rw [esp, spend3, hq, gainO, if_neg (nI_nem1 (by omega)), nI_clamp (n := jj) (by omega)]
              exact g2
      · have esp : spend2 P kd j C s l = spend3 P 0 C s l := by rw [spend2, if_neg k2, if_neg k3]
        repeat (first | (with_reducible refine Ev.letE ?_) | (with_reducible refine Ev.ifn ?_ ?_; · (first | with_reducible assumption | decide | (simp (disch := omega) only [zlit, nI_add, pk_mul, pk_sub, zsubm, nI_clamp, nI_leI, nI_ltI, nI_eq, zeqF, Nat.reduceEqDiff, zleF, zleT, zltF, zltT, zneg1, zneg1L, zneg2, zneg0, eq_self, or_self, false_or, or_false, Nat.not_lt_zero, not_false_eq_true, not_true_eq_false]; done))) | (with_reducible refine Ev.ifp ?_ ?_; · (first | with_reducible assumption | decide | (simp (disch := omega) only [zlit, nI_add, pk_mul, pk_sub, zsubm, nI_clamp, nI_leI, nI_ltI, nI_eq, zeqF, Nat.reduceEqDiff, zleF, zleT, zltF, zltT, zneg1, zneg1L, zneg2, zneg0, eq_self, or_self, false_or, or_false, Nat.not_lt_zero, not_false_eq_true, not_true_eq_false]; done))) | (with_reducible refine Ev.bnd (x := some _) rfl ?_))
        rw [e10]
        have hS2 : SR P b (upd (upd (R_state w) (b + 4 + l) (s.1 l - C)) (b + 10 + l) (s.2.1 l - 0)) hid self (upd s.1 l (s.1 l - C), upd s.2.1 l (s.2.1 l - 0), s.2.2) := SR_de (SR_pu h hP hl) hP hl
        have hF2 : Fr (b + 4) (b + 16) (R_state w) (upd (upd (R_state w) (b + 4 + l) (s.1 l - C)) (b + 10 + l) (s.2.1 l - 0)) := ((Fr.refl _ _ _).upd (by omega) (by omega)).upd (by omega) (by omega)
        have hpo := rpoorest_ok hN (w := R_s_facts_state w fa (upd (upd (R_state w) (b + 4 + l) (s.1 l - C)) (b + 10 + l) (s.2.1 l - 0))) (v1 := v1) (v2 := v2) hb hT hl hS2
        repeat (first | (with_reducible refine Ev.letE ?_) | (with_reducible refine Ev.ifn ?_ ?_; · (first | with_reducible assumption | decide | (simp (disch := omega) only [zlit, nI_add, pk_mul, pk_sub, zsubm, nI_clamp, nI_leI, nI_ltI, nI_eq, zeqF, Nat.reduceEqDiff, zleF, zleT, zltF, zltT, zneg1, zneg1L, zneg2, zneg0, eq_self, or_self, false_or, or_false, Nat.not_lt_zero, not_false_eq_true, not_true_eq_false]; done))) | (with_reducible refine Ev.ifp ?_ ?_; · (first | with_reducible assumption | decide | (simp (disch := omega) only [zlit, nI_add, pk_mul, pk_sub, zsubm, nI_clamp, nI_leI, nI_ltI, nI_eq, zeqF, Nat.reduceEqDiff, zleF, zleT, zltF, zltT, zneg1, zneg1L, zneg2, zneg0, eq_self, or_self, false_or, or_false, Nat.not_lt_zero, not_false_eq_true, not_true_eq_false]; done))) | (with_reducible refine Ev.bnd (hpo) ?_) | (with_reducible refine Ev.bnd (x := some _) rfl ?_))
        rcases poorA_in2 (pu := upd s.1 l (s.1 l - C)) hP hl with hq | ⟨jj, hjj, hq⟩
        · rw [hq]
          repeat (first | (with_reducible refine Ev.letE ?_) | (with_reducible refine Ev.ifn ?_ ?_; · (first | with_reducible assumption | decide | (simp (disch := omega) only [zlit, nI_add, pk_mul, pk_sub, zsubm, nI_clamp, nI_leI, nI_ltI, nI_eq, zeqF, Nat.reduceEqDiff, zleF, zleT, zltF, zltT, zneg1, zneg1L, zneg2, zneg0, eq_self, or_self, false_or, or_false, Nat.not_lt_zero, not_false_eq_true, not_true_eq_false]; done))) | (with_reducible refine Ev.ifp ?_ ?_; · (first | with_reducible assumption | decide | (simp (disch := omega) only [zlit, nI_add, pk_mul, pk_sub, zsubm, nI_clamp, nI_leI, nI_ltI, nI_eq, zeqF, Nat.reduceEqDiff, zleF, zleT, zltF, zltT, zneg1, zneg1L, zneg2, zneg0, eq_self, or_self, false_or, or_false, Nat.not_lt_zero, not_false_eq_true, not_true_eq_false]; done))) | (with_reducible refine Ev.bnd (x := some _) rfl ?_))
          refine Ev.ret ⟨?_, hF2⟩
          rw [esp, spend3, hq, gainO, if_pos rfl]
          exact hS2
        · rw [hq]
          repeat (first | (with_reducible refine Ev.letE ?_) | (with_reducible refine Ev.ifn ?_ ?_; · (first | with_reducible assumption | decide | (simp (disch := omega) only [zlit, nI_add, pk_mul, pk_sub, zsubm, nI_clamp, nI_leI, nI_ltI, nI_eq, zeqF, Nat.reduceEqDiff, zleF, zleT, zltF, zltT, zneg1, zneg1L, zneg2, zneg0, eq_self, or_self, false_or, or_false, Nat.not_lt_zero, not_false_eq_true, not_true_eq_false]; done))) | (with_reducible refine Ev.ifp ?_ ?_; · (first | with_reducible assumption | decide | (simp (disch := omega) only [zlit, nI_add, pk_mul, pk_sub, zsubm, nI_clamp, nI_leI, nI_ltI, nI_eq, zeqF, Nat.reduceEqDiff, zleF, zleT, zltF, zltT, zneg1, zneg1L, zneg2, zneg0, eq_self, or_self, false_or, or_false, Nat.not_lt_zero, not_false_eq_true, not_true_eq_false]; done))) | (with_reducible refine Ev.bnd (x := some _) rfl ?_))
          refine Ev.bnx (gets_ev (hid := hid) (self := self) (s := (upd s.1 l (s.1 l - C), upd s.2.1 l (s.2.1 l - 0), s.2.2)) hb hP hjj ?_) ?_
          · exact hS2
          · rintro st' ⟨g2, g3⟩
            refine Ev.ret ⟨?_, hF2.trans (g3.wide (by omega) (by omega))⟩
            rw [esp, spend3, hq, gainO, if_neg (nI_nem1 (by omega)), nI_clamp (n := jj) (by omega)]
            exact g2
theorem mdB_eq (v : Int32) : (if (-3) ≤ v then (if v ≤ 3 then v else 3) else (-3)) = mdB v := by
  unfold mdB
  grind
theorem mdH_eq (h v : Int32) : (if 0 ≤ h + v then (if h + v ≤ 9 then h + v else 9) else 0) = mdH h v := by
  unfold mdH
  grind
theorem rmend_ev {N : Nat} (hN : 10000 ≤ N) {w : VR} {v1 : VTown} {v2 : VLaws} {P b l : Nat} {hid self : Nat → Int32} {s : T3} (hb : b ≤ 1584) (hT : townR w v1 v2 P) (hl : l < P) (hself : selfOk P self) (h : SR P b (R_state w) hid self s) (hp : puOk P s) : Ev (f_R_mendsAs N w (nI b) (nI l)) (fun r => SR P b r.2.2 hid self (mendS v1 v2 hid self s l) ∧ Fr (b + 16) (b + 22) (R_state w) r.2.2) := by
  have hP := hT.1.2
  obtain ⟨h1, h2, h3, h4, h5⟩ := h l hl
  obtain ⟨j, hj, hsj⟩ := hself l hl
  rw [hsj] at h5
  have hc : (self l).toNatClampNeg = j := by rw [hsj, nI_clamp (by omega)]
  unfold mendS lawD
  rw [hc]
  have hk := (person_at (N := N) hT hj).1
  have hlf := laysFacts_ok (N := N) (w := w) (v2 := v2) (kd := Town_kinds v1 j) hb hT hl hj h hp rfl
  have hlr := hT.2.2.2 1 (by decide)
  have hfe : ∀ i, i < nfOf 1 → R_facts (R_facts_s w (fset (R_facts w) (monS hid s.1 l (Town_kinds v1 j)) (s.2.1 l) (s.2.2 l) (Town_skills v1 j) (Town_kinds v1 j))) i = fx5 (monS hid s.1 l (Town_kinds v1 j)) (s.2.1 l) (s.2.2 l) (Town_skills v1 j) (Town_kinds v1 j) i := fun i hi => fset_eq i (by have := nfOf_le 1; omega)
  unfold f_R_mendsAs
  rw [show Int32.toNatClampNeg ((nI b + 28) + nI l) = b + 28 + l from ix (c := 28) (by omega), show Int32.toNatClampNeg ((nI b + 16) + nI l) = b + 16 + l from ix (c := 16) (by omega), h5, h3, show Int32.toNatClampNeg 3 = 3 from rfl, show Int32.toNatClampNeg 4 = 4 from rfl]
  by_cases ht : 0 ≤ R_towns w 4
  · obtain ⟨pl, hw⟩ := worthAt_ok hN (w := R_facts_s w (fset (R_facts w) (monS hid s.1 l (Town_kinds v1 j)) (s.2.1 l) (s.2.2 l) (Town_skills v1 j) (Town_kinds v1 j))) hlr ht hfe
    have hw : f_R_worthAt N (R_facts_s w (fset (R_facts w) (monS hid s.1 l (Town_kinds v1 j)) (s.2.1 l) (s.2.2 l) (Town_skills v1 j) (Town_kinds v1 j))) (R_towns w 4) = some (lawS v2 1 (fx5 (monS hid s.1 l (Town_kinds v1 j)) (s.2.1 l) (s.2.2 l) (Town_skills v1 j) (Town_kinds v1 j)), pl) := hw
    generalize lawS v2 1 (fx5 (monS hid s.1 l (Town_kinds v1 j)) (s.2.1 l) (s.2.2 l) (Town_skills v1 j) (Town_kinds v1 j)) = lv at *
    repeat (first | (with_reducible refine Ev.letG (mdB_eq lv) ?_) | (with_reducible refine Ev.letG (mdH_eq (s.2.2 l) (mdB lv)) ?_) | (with_reducible refine Ev.letE ?_) | (with_reducible refine Ev.ifn ?_ ?_; · (first | with_reducible assumption | decide | (simp (disch := omega) only [zlit, nI_add, pk_mul, pk_sub, zsubm, nI_clamp, nI_leI, nI_ltI, nI_eq, zeqF, Nat.reduceEqDiff, zleF, zleT, zltF, zltT, zneg1, zneg1L, zneg2, zneg0, eq_self, or_self, false_or, or_false, Nat.not_lt_zero, not_false_eq_true, not_true_eq_false]; done))) | (with_reducible refine Ev.ifp ?_ ?_; · (first | with_reducible assumption | decide | (simp (disch := omega) only [zlit, nI_add, pk_mul, pk_sub, zsubm, nI_clamp, nI_leI, nI_ltI, nI_eq, zeqF, Nat.reduceEqDiff, zleF, zleT, zltF, zltT, zneg1, zneg1L, zneg2, zneg0, eq_self, or_self, false_or, or_false, Nat.not_lt_zero, not_false_eq_true, not_true_eq_false]; done))) | (with_reducible refine Ev.bnd (hk) ?_) | (with_reducible refine Ev.bnd (hlf) ?_) | (with_reducible refine Ev.bnd (hw) ?_) | (with_reducible refine Ev.bnd (x := some _) rfl ?_))
    exact Ev.ret ⟨SR_ho h hP hl, (Fr.refl _ _ _).upd (by omega) (by omega)⟩
  · have hu := untold_ok hlr ht (fx5 (monS hid s.1 l (Town_kinds v1 j)) (s.2.1 l) (s.2.2 l) (Town_skills v1 j) (Town_kinds v1 j))
    rw [hu]
    have hu : untS 1 (fx5 (monS hid s.1 l (Town_kinds v1 j)) (s.2.1 l) (s.2.2 l) (Town_skills v1 j) (Town_kinds v1 j)) = (if Town_skills v1 j ≤ 4 then (if 3 ≤ Town_skills v1 j then 0 else (-1)) else 1) := rfl
    rw [hu]
    generalize Town_kinds v1 j = kd at *
    generalize monS hid s.1 l kd = mo at *
    have hf3 : fset (R_facts w) mo (s.2.1 l) (s.2.2 l) (Town_skills v1 j) kd 3 = Town_skills v1 j := rfl
    generalize hfa : fset (R_facts w) mo (s.2.1 l) (s.2.2 l) (Town_skills v1 j) kd = fa at *
    rw [← hf3]
    obtain ⟨z, hz⟩ : ∃ z, (if fa 3 ≤ 4 then (if 3 ≤ fa 3 then 0 else (-1)) else (1 : Int32)) = z := ⟨_, rfl⟩
    rw [hz]
    repeat (first | (with_reducible refine Ev.letG (hz) ?_) | (with_reducible refine Ev.letG (mdB_eq z) ?_) | (with_reducible refine Ev.letG (mdH_eq (s.2.2 l) (mdB z)) ?_) | (with_reducible refine Ev.letE ?_) | (with_reducible refine Ev.ifn ?_ ?_; · (first | with_reducible assumption | decide | (simp (disch := omega) only [zlit, nI_add, pk_mul, pk_sub, zsubm, nI_clamp, nI_leI, nI_ltI, nI_eq, zeqF, Nat.reduceEqDiff, zleF, zleT, zltF, zltT, zneg1, zneg1L, zneg2, zneg0, eq_self, or_self, false_or, or_false, Nat.not_lt_zero, not_false_eq_true, not_true_eq_false]; done))) | (with_reducible refine Ev.ifp ?_ ?_; · (first | with_reducible assumption | decide | (simp (disch := omega) only [zlit, nI_add, pk_mul, pk_sub, zsubm, nI_clamp, nI_leI, nI_ltI, nI_eq, zeqF, Nat.reduceEqDiff, zleF, zleT, zltF, zltT, zneg1, zneg1L, zneg2, zneg0, eq_self, or_self, false_or, or_false, Nat.not_lt_zero, not_false_eq_true, not_true_eq_false]; done))) | (with_reducible refine Ev.bnd (hk) ?_) | (with_reducible refine Ev.bnd (hlf) ?_) | (with_reducible refine Ev.bnd (x := some _) rfl ?_))
    exact Ev.ret ⟨SR_ho h hP hl, (Fr.refl _ _ _).upd (by omega) (by omega)⟩
/-! ===== purses stay what purses are ===== -/
theorem nI_add2 (a b : Nat) : nI a + nI b = nI (a + b) := nI_add a b
theorem gain_pu {n m : Nat} (hn : n ≤ 9999) (hm : m ≤ 9999) : ∃ q, q ≤ 9999 ∧ (if nI n + nI m < 9999 then nI n + nI m else 9999) = nI q := by
  rw [nI_add, show (9999 : Int32) = nI 9999 from rfl]
  by_cases h : n + m < 9999
  · rw [if_pos (nI_lt h (by decide))]
    exact ⟨n + m, by omega, rfl⟩
  · rw [if_neg (nI_nlt (by omega) (by omega))]
    exact ⟨9999, by omega, rfl⟩
theorem spC_pu {v sg kd : Int32} {m g : Nat} (hg : g ≤ 999) (hsg : sg = nI g) (hm : m ≤ 9999) : ∃ c, c ≤ m ∧ c ≤ 999 ∧ spC v sg (nI m) kd = nI c := by
  subst hsg
  have e : ∃ c, c ≤ m ∧ c ≤ 999 ∧ (if 0 < spM v (nI g) (nI m) then spM v (nI g) (nI m) else 0) = nI c := by
    unfold spM
    by_cases h : m < g
    · rw [if_pos (nI_lt h (by omega))]
      by_cases h2 : nI m < v
      · rw [if_pos h2]
        by_cases h3 : 0 < nI m
        · rw [if_pos h3]; exact ⟨m, by omega, by omega, rfl⟩
        · rw [if_neg h3]; exact ⟨0, by omega, by omega, rfl⟩
      · rw [if_neg h2]
        by_cases h3 : 0 < v
        · rw [if_pos h3]
          obtain ⟨c, hc, rfl⟩ := nI_of (x := v) (by grind)
          rw [nI_ltI (by omega) (by omega)] at h2
          exact ⟨c, by omega, by omega, rfl⟩
        · rw [if_neg h3]; exact ⟨0, by omega, by omega, rfl⟩
    · rw [if_neg (nI_nlt (by omega) (by omega))]
      by_cases h2 : nI g < v
      · rw [if_pos h2]
        by_cases h3 : 0 < nI g
        · rw [if_pos h3]; exact ⟨g, by omega, by omega, rfl⟩
        · rw [if_neg h3]; exact ⟨0, by omega, by omega, rfl⟩
      · rw [if_neg h2]
        by_cases h3 : 0 < v
        · rw [if_pos h3]
          obtain ⟨c, hc, rfl⟩ := nI_of (x := v) (by grind)
          rw [nI_ltI (by omega) (by omega)] at h2
          exact ⟨c, by omega, by omega, rfl⟩
        · rw [if_neg h3]; exact ⟨0, by omega, by omega, rfl⟩
  obtain ⟨c, h1, h2, h3⟩ := e
  unfold spC
  rw [h3]
  split
  · refine ⟨c / 2, by omega, by omega, ?_⟩
    exact pk_div (by omega) (d := 2) (by decide) (by decide)
  · exact ⟨c, h1, h2, rfl⟩
theorem monS_pu {P l : Nat} {hid : Nat → Int32} {s : T3} {kd : Int32} (hp : puOk P s) (hl : l < P) (hh : ∃ n, n ≤ 9999 ∧ hid l = nI n) : ∃ m n, s.1 l = nI n ∧ n ≤ 9999 ∧ m ≤ n ∧ monS hid s.1 l kd = nI m := by
  obtain ⟨⟨n, hn, e⟩, -⟩ := hp l hl
  obtain ⟨i, hi, e2⟩ := hh
  unfold monS
  rw [e, e2]
  split
  · exact ⟨n, n, rfl, hn, Nat.le_refl _, rfl⟩
  · by_cases h : i ≤ n
    · rw [pk_sub h]
      split
      · exact ⟨n - i, n, rfl, hn, by omega, rfl⟩
      · exact ⟨0, n, rfl, hn, by omega, rfl⟩
    · have := pk_sneg (a := n) (b := i) (by omega) (by omega)
      rw [if_neg (by grind)]
      exact ⟨0, n, rfl, hn, by omega, rfl⟩
theorem pu_upd {P l : Nat} {s : T3} {n : Nat} (h : puOk P s) (hn : n ≤ 9999) : puOk P (upd s.1 l (nI n), s.2.1, s.2.2) := by
  intro k hk
  refine ⟨?_, (h k hk).2⟩
  show ∃ m, m ≤ 9999 ∧ upd s.1 l (nI n) k = nI m
  by_cases e : k = l
  · subst e; rw [pk_us]; exact ⟨n, hn, rfl⟩
  · rw [pk_un e]; exact (h k hk).1
theorem de_upd {P l : Nat} {s : T3} {n : Nat} (h : puOk P s) (hn : n ≤ 999) : puOk P (s.1, upd s.2.1 l (nI n), s.2.2) := by
  intro k hk
  refine ⟨(h k hk).1, ?_⟩
  show ∃ m, m ≤ 999 ∧ upd s.2.1 l (nI n) k = nI m
  by_cases e : k = l
  · subst e; rw [pk_us]; exact ⟨n, hn, rfl⟩
  · rw [pk_un e]; exact (h k hk).2
theorem gainS_pu {P l : Nat} {s : T3} {m : Nat} (h : puOk P s) (hl : l < P) (hm : m ≤ 9999) : puOk P (gainS s.1 l (nI m), s.2.1, s.2.2) := by
  obtain ⟨⟨n, hn, e⟩, -⟩ := h l hl
  obtain ⟨q, hq, e2⟩ := gain_pu hn hm
  have q3 := pu_upd (l := l) h hq
  unfold gainS
  rw [e, e2]
  exact q3
def hidOk (P : Nat) (hid : Nat → Int32) : Prop := ∀ l, l < P → ∃ n, n ≤ 9999 ∧ hid l = nI n
theorem spendS_pu {v1 : VTown} {v2 : VLaws} {P l g : Nat} {hid self : Nat → Int32} {s : T3} (hP : P ≤ 6) (hp : puOk P s) (hl : l < P) (hh : hidOk P hid) (hs : selfOk P self) (hg : g ≤ 999) : puOk P (spendS v1 v2 P (nI g) hid self s l) := by
  obtain ⟨j, hj, hsj⟩ := hs l hl
  have hc : (self l).toNatClampNeg = j := by rw [hsj, nI_clamp (by omega)]
  unfold spendS
  rw [hc]
  obtain ⟨m, n, e1, h1, h2, e2⟩ := monS_pu (kd := Town_kinds v1 j) hp hl (hh l hl)
  rw [e2]
  obtain ⟨c, h3, h4, e3⟩ := spC_pu (v := lawD v1 v2 0 hid self s l) (kd := Town_kinds v1 j) hg rfl (show m ≤ 9999 by omega)
  rw [e3]
  have q1 : puOk P (upd s.1 l (s.1 l - nI c), s.2.1, s.2.2) := by
    rw [e1, pk_sub (by omega)]
    exact pu_upd hp (by omega)
  unfold spend2
  split
  · have q3 := gainS_pu q1 hj (m := c) (by omega)
    exact q3
  · obtain ⟨-, d, hd, e4⟩ := hp l hl
    have e5 : ∃ y, y ≤ d ∧ y ≤ c ∧ (if Town_kinds v1 j = 3 then (if s.2.1 l < nI c then s.2.1 l else nI c) else 0) = nI y := by
      rw [e4]
      split
      · by_cases h : d < c
        · rw [if_pos (nI_lt h (by omega))]; exact ⟨d, by omega, by omega, rfl⟩
        · rw [if_neg (nI_nlt (by omega) (by omega))]; exact ⟨c, by omega, by omega, rfl⟩
      · exact ⟨0, by omega, by omega, rfl⟩
    obtain ⟨y, h5, h6, e6⟩ := e5
    rw [e6]
    unfold spend3
    have q2 : puOk P (upd s.1 l (s.1 l - nI c), upd s.2.1 l (s.2.1 l - nI y), s.2.2) := by
      rw [e4, pk_sub (by omega)]
      exact de_upd q1 (by omega)
    rcases poorA_in2 (pu := upd s.1 l (s.1 l - nI c)) hP hl with hq | ⟨i, hi, hq⟩
    · rw [hq, gainO, if_pos rfl]
      exact q2
    · rw [hq, gainO, if_neg (nI_nem1 (by omega)), nI_clamp (by omega), pk_sub h6]
      have q3 := gainS_pu q2 hi (m := c - y) (by omega)
      exact q3
theorem lifeS_pu {v1 : VTown} {v2 : VLaws} {P l g : Nat} {hid self : Nat → Int32} {s : T3} (hP : P ≤ 6) (hp : puOk P s) (hl : l < P) (hh : hidOk P hid) (hs : selfOk P self) (hg : g ≤ 999) : puOk P (lifeS v1 v2 P (nI g) hid self s l) := spendS_pu hP hp hl hh hs hg
theorem livesS_pu {v1 : VTown} {v2 : VLaws} {P g : Nat} {hid self : Nat → Int32} (hP : P ≤ 6) (hh : hidOk P hid) (hs : selfOk P self) (hg : g ≤ 999) : ∀ (r k : Nat) (s : T3), k + r = P → puOk P s → puOk P (livesS v1 v2 P (nI g) hid self r k s)
  | 0, _, _, _, h => h
  | r + 1, k, s, hk, h => livesS_pu hP hh hs hg r (k + 1) _ (by omega) (lifeS_pu hP h (by omega) hh hs hg)
theorem dayS_pu {v1 : VTown} {v2 : VLaws} {P g : Nat} {hid self : Nat → Int32} {s : T3} (hP : P ≤ 6) (hh : hidOk P hid) (hs : selfOk P self) (hg : g ≤ 999) (h : puOk P s) : puOk P (dayS v1 v2 P (nI g) hid self s) := livesS_pu hP hh hs hg P 0 s (by omega) h
theorem daysS_pu {v1 : VTown} {v2 : VLaws} {P g : Nat} {hid self : Nat → Int32} (hP : P ≤ 6) (hh : hidOk P hid) (hs : selfOk P self) (hg : g ≤ 999) : ∀ (n : Nat) (s : T3), puOk P s → puOk P (daysS v1 v2 P (nI g) hid self n s)
  | 0, _, h => h
  | n + 1, _, h => daysS_pu hP hh hs hg n _ (dayS_pu hP hh hs hg h)
theorem passes_loop {N : Nat} (hN : 10000 ≤ N) {w : VR} {v1 : VTown} {v2 : VLaws} {P b g : Nat} {hid self : Nat → Int32} (hb : b ≤ 1584) (hT : townR w v1 v2 P) (hself : selfOk P self) (hh : hidOk P hid) (hsg : R_signed w = nI g) (hg : g ≤ 999) : ∀ (r k fuel : Nat) (s : T3) (fa pl st : Nat → Int32), k + r = P → r < fuel → SR P b st hid self s → puOk P s → Ev (f_R_passes_L2 N fuel w (nI b) (nI k) fa pl st) (fun q => SR P b q.2.2 hid self (livesS v1 v2 P (nI g) hid self r k s) ∧ Fr (b + 4) (b + 22) st q.2.2)
  | _, _, 0, _, _, _, _, _, h, _, _ => absurd h (Nat.not_lt_zero _)
  | 0, k, fuel + 1, s, fa, pl, st, hk, hf, h, hp => by
    have hP := hT.1.2
    rw [f_R_passes_L2]
    have hpe := people_ok (N := N) (w := R_s_facts_pile_state w fa pl st) hT
    repeat (first | (with_reducible refine Ev.letE ?_) | (with_reducible refine Ev.ifn ?_ ?_; · (first | with_reducible assumption | decide | (simp (disch := omega) only [zlit, nI_add, pk_mul, pk_sub, zsubm, nI_clamp, nI_leI, nI_ltI, nI_eq, zeqF, Nat.reduceEqDiff, zleF, zleT, zltF, zltT, zneg1, zneg1L, zneg2, zneg0, eq_self, or_self, false_or, or_false, Nat.not_lt_zero, not_false_eq_true, not_true_eq_false]; done))) | (with_reducible refine Ev.ifp ?_ ?_; · (first | with_reducible assumption | decide | (simp (disch := omega) only [zlit, nI_add, pk_mul, pk_sub, zsubm, nI_clamp, nI_leI, nI_ltI, nI_eq, zeqF, Nat.reduceEqDiff, zleF, zleT, zltF, zltT, zneg1, zneg1L, zneg2, zneg0, eq_self, or_self, false_or, or_false, Nat.not_lt_zero, not_false_eq_true, not_true_eq_false]; done))) | (with_reducible refine Ev.bnd (hpe) ?_) | (with_reducible refine Ev.bnd (x := some _) rfl ?_))
    exact Ev.ret ⟨h, Fr.refl _ _ _⟩
  | r + 1, k, fuel + 1, s, fa, pl, st, hk, hf, h, hp => by
    have hP := hT.1.2
    rw [f_R_passes_L2]
    have hpe := people_ok (N := N) (w := R_s_facts_pile_state w fa pl st) hT
    repeat (first | (with_reducible refine Ev.letE ?_) | (with_reducible refine Ev.ifn ?_ ?_; · (first | with_reducible assumption | decide | (simp (disch := omega) only [zlit, nI_add, pk_mul, pk_sub, zsubm, nI_clamp, nI_leI, nI_ltI, nI_eq, zeqF, Nat.reduceEqDiff, zleF, zleT, zltF, zltT, zneg1, zneg1L, zneg2, zneg0, eq_self, or_self, false_or, or_false, Nat.not_lt_zero, not_false_eq_true, not_true_eq_false]; done))) | (with_reducible refine Ev.ifp ?_ ?_; · (first | with_reducible assumption | decide | (simp (disch := omega) only [zlit, nI_add, pk_mul, pk_sub, zsubm, nI_clamp, nI_leI, nI_ltI, nI_eq, zeqF, Nat.reduceEqDiff, zleF, zleT, zltF, zltT, zneg1, zneg1L, zneg2, zneg0, eq_self, or_self, false_or, or_false, Nat.not_lt_zero, not_false_eq_true, not_true_eq_false]; done))) | (with_reducible refine Ev.bnd (hpe) ?_) | (with_reducible refine Ev.bnd (x := some _) rfl ?_))
    refine Ev.bnx (rspend_ev hN (w := R_s_facts_pile_state w fa pl st) (v1 := v1) (v2 := v2) (hid := hid) (self := self) (s := s) hb hT (by omega) hself h hp hsg (nI_pos' (by omega))) ?_
    rintro ⟨fa1, pl1, st1⟩ ⟨g1, g2⟩
    have hp1 := spendS_pu (v1 := v1) (v2 := v2) hP hp (l := k) (by omega) hh hself hg
    refine Ev.bnx (rmend_ev hN (w := R_s_facts_pile_state w fa1 pl1 st1) (v1 := v1) (v2 := v2) (hid := hid) (self := self) (s := spendS v1 v2 P (nI g) hid self s k) hb hT (by omega) hself g1 hp1) ?_
    rintro ⟨fa2, pl2, st2⟩ ⟨g3, g4⟩
    have g2' : Fr (b + 4) (b + 16) st st1 := g2
    have g4' : Fr (b + 16) (b + 22) st1 st2 := g4
    rw [show nI k + 1 = nI (k + 1) from nI_1 k]
    refine (passes_loop hN hb hT hself hh hsg hg r (k + 1) fuel (lifeS v1 v2 P (nI g) hid self s k) fa2 pl2 st2 (by omega) (by omega) g3 hp1).mono ?_
    rintro q ⟨g5, g6⟩
    exact ⟨g5, ((g2'.wide (by omega) (by omega)).trans (g4'.wide (by omega) (by omega))).trans g6⟩
theorem passes_ev {N : Nat} (hN : 10000 ≤ N) {w : VR} {v1 : VTown} {v2 : VLaws} {P b g : Nat} {hid self : Nat → Int32} {s : T3} (hb : b ≤ 1584) (hT : townR w v1 v2 P) (hself : selfOk P self) (hh : hidOk P hid) (hsg : R_signed w = nI g) (hg : g ≤ 999) (h : SR P b (R_state w) hid self s) (hp : puOk P s) : Ev (f_R_passes N w (nI b)) (fun q => SR P b q.2.2 hid self (dayS v1 v2 P (nI g) hid self s) ∧ q.2.2 (b + 1) = R_state w (b + 1) + 1 ∧ ∀ k, (k < b + 1 ∨ (b + 1 < k ∧ k < b + 4) ∨ b + 22 ≤ k) → q.2.2 k = R_state w k) := by
  have hP := hT.1.2
  unfold f_R_passes
  refine Ev.bnx (passes_loop hN hb hT hself hh hsg hg P 0 N s (R_facts w) (R_pile w) (R_state w) (by omega) (by omega) h hp) ?_
  rintro ⟨fa, pl, st⟩ ⟨g1, g2⟩
  have g2 : Fr (b + 4) (b + 22) (R_state w) st := g2
  rw [show nI b + 1 = nI (b + 1) from nI_1 b, nI_clamp (n := b + 1) (by omega)]
  repeat (first | (with_reducible refine Ev.letE ?_) | (with_reducible refine Ev.ifn ?_ ?_; · (first | with_reducible assumption | decide | (simp (disch := omega) only [zlit, nI_add, pk_mul, pk_sub, zsubm, nI_clamp, nI_leI, nI_ltI, nI_eq, zeqF, Nat.reduceEqDiff, zleF, zleT, zltF, zltT, zneg1, zneg1L, zneg2, zneg0, eq_self, or_self, false_or, or_false, Nat.not_lt_zero, not_false_eq_true, not_true_eq_false]; done))) | (with_reducible refine Ev.ifp ?_ ?_; · (first | with_reducible assumption | decide | (simp (disch := omega) only [zlit, nI_add, pk_mul, pk_sub, zsubm, nI_clamp, nI_leI, nI_ltI, nI_eq, zeqF, Nat.reduceEqDiff, zleF, zleT, zltF, zltT, zneg1, zneg1L, zneg2, zneg0, eq_self, or_self, false_or, or_false, Nat.not_lt_zero, not_false_eq_true, not_true_eq_false]; done))) | (with_reducible refine Ev.bnd (x := some _) rfl ?_))
  refine Ev.ret ⟨?_, ?_, ?_⟩
  · intro l hl
    obtain ⟨q1, q2, q3, q4, q5⟩ := g1 l hl
    refine ⟨?_, ?_, ?_, ?_, ?_⟩ <;> (show upd st (b + 1) _ _ = _) <;> rw [pk_un (by omega)] <;> assumption
  · show upd st (b + 1) (st (b + 1) + 1) (b + 1) = _
    rw [pk_us, g2 (b + 1) (by omega)]
  · intro k hk
    show upd st (b + 1) (st (b + 1) + 1) k = _
    rw [pk_un (by omega), g2 k (by omega)]
