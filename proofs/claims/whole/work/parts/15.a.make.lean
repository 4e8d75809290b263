/-! ===== what makes objects: constructors by contract, arrays of references ===== -/
theorem zRoom_of {Z : zCtx} {d mc ms k n : Nat} (h : zCan Z d mc ms) (hk : k ≤ mc) (hn : n ≤ ms) : zRoom Z k n := by
  obtain ⟨l, p, e, R, s, m, args, below, meth, cd, D, dA, adr, A, Q⟩ := Z
  exact ⟨Nat.le_trans hk h.2.2.1, Nat.le_trans hn h.2.2.2⟩
theorem zset_short (cs : List zE) (ps : List Nat) (es ex : List zE) (h : ps.length = es.length) : zset cs ps (es ++ ex) = zset cs ps es := by
  have h1 := zset_more ps es [] ex cs h
  rw [List.append_nil] at h1
  rw [h1]
  simp [zset]
/-- the constructor's object is the last block, and grows -/
theorem zmake_join {XA YA YA1 : List (List zE)} {o o' oe : zE} {ex : List zE} {cmA : List Nat} {r : Nat → Nat} (hX : zblk (XA ++ [[o]]) (cmA ++ [XA.length]) r (YA ++ [[o']])) (hY : YA1.map List.length = YA.map List.length) :
    zjoin (XA ++ [[o]]).flatten (zpl ((XA ++ [[o]]).map List.length) (cmA ++ [XA.length])) ((YA1 ++ [oe :: ex]).flatten.map (zre r)) = (zsetc (XA ++ [[o]]) (cmA ++ [XA.length]) (YA1.map (List.map (zre r)) ++ [[zre r oe]])).flatten ++ ex.map (zre r) := by
  have hps := zblk_flat hX
  have hpl : (zpl ((XA ++ [[o]]).map List.length) (cmA ++ [XA.length])).length = ((YA1 ++ [[oe]]).flatten.map (zre r)).length := by
    have h1 := congrArg List.length hps
    simp only [List.length_map] at h1
    rw [h1]
    simp only [List.length_flatten, List.length_map, List.map_append, hY, List.map_cons, List.map_nil, List.length_cons, List.length_nil]
  have e1 : (YA1 ++ [oe :: ex]).flatten.map (zre r) = (YA1 ++ [[oe]]).flatten.map (zre r) ++ ex.map (zre r) := by simp
  have hj := zchunk_join (Y1 := YA1 ++ [[oe]]) hX (by simp [hY])
  unfold zjoin at hj ⊢
  rw [List.drop_of_length_le (by rw [hpl]; exact Nat.le_refl _), List.append_nil] at hj
  rw [e1, zset_short _ _ _ _ hpl, hj, List.drop_append_of_le_length (by rw [hpl]; exact Nat.le_refl _), List.drop_of_length_le (by rw [hpl]; exact Nat.le_refl _), List.nil_append]
  simp
/-! ===== arrays of objects: the classes are there ===== -/
def zAO (Z : zCtx) : Prop := match Z with
  | (_, _, _, _, s, _, _, _, _, _, _, _, _, _, _) => va_AO "BorrowedLives$Lives" s ∧ va_AO "BorrowedLives$Tales" s
def zPreA (D : va_G) (dA : Nat → ClassId) (adr : Nat → Nat) (cs : List zE) (sz : Nat) : State → Prop := fun U => zPre D dA adr cs sz U ∧ va_AO "BorrowedLives$Lives" U ∧ va_AO "BorrowedLives$Tales" U
/-- a contract that asks for the classes of the arrays, too -/
def CtA (M : zMth) (d nf mc ms : Nat) (as : List Value) (cs : List zE) (Post : Option Value → List zE → Prop) : Prop :=
  ∀ (l : Launch) (D : va_G) (dA : Nat → ClassId) (adr : Nat → Nat) (sz : Nat), zFresh adr cs.length nf sz →
    Met l M.1 (Cond.code M.1 M.2.1 M.2.2.1 M.2.2.2.1 :: zTg) (zrm d mc ms) (va_Pc (as.map (zv adr)) (zPreA D dA adr cs sz)) (zQ D dA adr (zws dA adr cs) (cs.length + nf) sz Post) mc ms (va_A (zws dA adr cs) sz)
theorem zPreA_blind {D : va_G} {dA : Nat → ClassId} {adr : Nat → Nat} {cs : List zE} {sz : Nat} {as : List Value} : FrameBlind (va_Pc as (zPreA D dA adr cs sz)) := by
  intro a U g mk h
  obtain ⟨h0, ⟨h1, h2, h3, h4, h5⟩, h6, h7⟩ := h
  exact ⟨h0, ⟨h1, h2, va_K.moved (u := U) (U := U.calling g mk a) (Vm.Alike.refl U.vm) h3, h4, zAm.same (s := U) (U := U.calling g mk a) h5 rfl⟩, va_AO.moved (u := U) (U := U.calling g mk a) (Vm.Alike.refl U.vm) h6, va_AO.moved (u := U) (U := U.calling g mk a) (Vm.Alike.refl U.vm) h7⟩
theorem CtA.of {M : zMth} (hM : zMok M) {d nf mc ms : Nat} (hd : 1 ≤ d) {as : List Value} {cs : List zE} {Post : Option Value → List zE → Prop} (hn : (zargs as).length ≤ M.2.2.1)
    (body : ∀ Z : zCtx, zOk Z M → zCan Z d mc ms → zNew Z cs.length nf → zEnd Z (cs.length + nf) mc ms Post → zAO Z → AW Z 0 0 0 (zent M.2.2.1 as) [] cs) : CtA M d nf mc ms as cs Post := by
  intro l D dA adr sz hfr
  obtain ⟨y, cc, nL, ret, lst, C⟩ := M
  refine Met.ofW (cc := cc) (maxL := nL) (ret := ret) hM.2.2.2.2.2 rfl ?_
  intro p e s m args below meth c s₁ B hml hv
  obtain ⟨rfl, ⟨hsz, hP, hK, hD0, hAm⟩, hAO⟩ := hv
  have hts0 := atoms_spec (ws := Cond.code y cc nL ret :: zTg) B.pre
  have hts : ∀ w ∈ zTg, w.before (as.map (zv adr)).toArray s = true := fun w hw => hts0 w (List.mem_cons_of_mem _ hw)
  have hown : s.vm.findClass C.1 = some m.cls := by
    have h := findClass_of_methodNamed B.named
    rwa [hM.2.2.2.1] at h
  have hnm : meth.name = y.name := (name_of_methodNamed B.named B.method).1
  subst hsz
  have hD := hD0.self (sz := s.heap.size)
  have hA : ∀ q : Nat, s.heap.size ≤ q → va_A (zws dA adr cs) s.heap.size q := fun q h => Or.inr h
  rw [lg_entry_eq]
  have hle : (lg_sl (as.map (zv adr))).length ≤ nL := by rw [zargs_len]; exact hn
  have hl := lv_entry (as.map (zv adr)) (n := nL) hle
  exact body (l, p, e, (headSpec (Cond.code y cc nL ret :: zTg) (zrm d mc ms)).room, s, m, (as.map (zv adr)).toArray, below, meth, c, D, dA, adr, va_A (zws dA adr cs) s.heap.size, MQ below (zQ D dA adr (zws dA adr cs) (cs.length + nf) s.heap.size Post) (as.map (zv adr)).toArray s mc ms (va_A (zws dA adr cs) s.heap.size))
    ⟨B.exec, B.bytes, hml, B.returns, hown, hts, B.notSynchronized, hK, hA, hAm, ⟨hd, by show 64 ≤ 64 * d; omega⟩, hM, hnm⟩
    ⟨Nat.le_refl _, Nat.le_refl _, Nat.le_refl _, Nat.le_refl _⟩ ⟨hfr, cs, rfl, rfl⟩ ⟨_, rfl, rfl⟩ hAO
    s.heap [] _ hP hD va_S.rf
    ⟨by rw [hml]; show (zent nL as).length = nL; have h9 : (zargs as).length ≤ nL := hn; simp only [zent, List.length_append, List.length_replicate]; omega, _, by rw [hml]; exact hl, fun i v hi => by
      have h1 : (zargs as)[i]? = some (some v) := by
        unfold zent at hi
        rw [List.getElem?_append] at hi
        split at hi
        · exact hi
        · simp [List.getElem?_replicate] at hi
      have h2 := zargs_at adr as 0 i v h1
      rwa [Nat.zero_add] at h2⟩
section ZMAKE
variable {Z : zCtx} {M M' : zMth} {k n d d' nf nf' mc mc' ms ms' n0 pc b0 idx np : Nat} {lv : List (Option Value)} {st rest as : List Value} {XA YA : List (List zE)} {o o' : zE} {it : zIt} {Post : Option Value → List zE → Prop}
theorem AW.callIc (hZ : zOk Z M) (hR : zCan Z d mc ms) (hN : zNew Z n0 nf) (hC : Ct M' d' nf' mc' ms' (.ref b0 :: as) (YA ++ [[o']]).flatten Post) (hM' : zMok M') (hret : M'.2.2.2.1 = none)
    (hit : zget M.2.2.2.2.1 pc = some it) (hop : it.2.1 = .invokespecial idx) (hlk : zLink M.2.2.2.2.2.1 idx M'.1) (hce : zCtor M'.1 np) (hnp : as.length = np)
    (lens cmA ps : List Nat) (hlens : (XA ++ [[o]]).map List.length = lens) (hpl : zpl lens (cmA ++ [XA.length]) = ps) (hX : zblk (XA ++ [[o]]) (cmA ++ [XA.length]) (zrho ps lens.sum nf') (YA ++ [[o']])) (hnd : ps.Nodup) (hfr : lens.sum = n0 + k) (hfr2 : k + nf' ≤ nf) (hfar : ps.length + nf' ≤ 1000000)
    (hd : d' + 1 ≤ d) (hmL : M'.2.2.1 ≤ 45) (hmc : k + mc' ≤ mc) (hms : n + ms' ≤ ms)
    (hst : st = ((Value.ref b0 :: as).map (zv (zrho ps lens.sum nf'))).reverse ++ rest) (hr4 : Nat.ble (zcsum rest) 8 = true)
    (kk : ∀ (v : Option Value) (cc1 : List zE), Post v cc1 → ∃ (YA1 : List (List zE)) (oe : zE) (ex : List zE), cc1 = (YA1 ++ [oe :: ex]).flatten ∧ YA1.map List.length = YA.map List.length ∧ AW Z (k + mc') (n + ms') (pc + 3) lv ((v.map (zv (zrho ps lens.sum nf'))).toList ++ rest) ((zsetc (XA ++ [[o]]) (cmA ++ [XA.length]) (YA1.map (List.map (zre (zrho ps lens.sum nf'))) ++ [[zre (zrho ps lens.sum nf') oe]])).flatten ++ ex.map (zre (zrho ps lens.sum nf')))) :
    AW Z k n pc lv st (XA ++ [[o]]).flatten := by
  subst hpl; subst hlens
  have hsum : ((XA ++ [[o]]).map List.length).sum = (XA ++ [[o]]).flatten.length := by rw [List.length_flatten]
  rw [hsum] at hX hst kk hfr
  refine AW.callI hZ hR hN hC hM' hret hit hop hlk hce hnp _ (zblk_flat hX) hnd (Or.inr ⟨hfr, hfr2⟩) hfar hd hmL hmc hms hst hr4 (fun v cc1 h _ => ?_)
  obtain ⟨YA1, oe, ex, rfl, h2, h3⟩ := kk v cc1 h
  rw [zmake_join hX h2]
  exact h3
/-- an array of references, all null -/
theorem AW.anew {idx t N : Nat} {C : String} {x : Int32} {cs : List zE} (hZ : zOk Z M) (hR : zCan Z d mc ms) (hN : zNew Z n0 nf) (hit : zget M.2.2.2.2.1 pc = some it) (hop : it.2.1 = .anewarray idx) (hcl : Cond.classLink M.2.2.2.2.2.1 idx C ∈ zTg) (ht : zTy[t]? = some (.object C)) (hov : zAO Z) (hC : C = "BorrowedLives$Lives" ∨ C = "BorrowedLives$Tales")
    (hn : ¬ x < 0) (hNx : x.toNatClampNeg = N) (hbytes : N * 4 ≤ 536870912) (hc : cs.length = n0 + k) (hk : k + 1 ≤ nf) (hmc : k + 1 ≤ mc) (hms : n + N ≤ ms)
    (kk : AW Z (k + 1) (n + N) (pc + 3) lv (.ref cs.length :: st) (cs ++ [.inl (t, N, .inr (.inr (.inr (.inr (fun _ => none)))))])) : AW Z k n pc lv (.int x :: st) cs := by
  obtain ⟨hi, rfl⟩ := zget_mem hit
  obtain ⟨pc, op, len, v, a, b, c, sw⟩ := it
  obtain ⟨l, p, e, R, s, m, args, below, meth, cd, D, dA, adr, A, Q⟩ := Z
  obtain ⟨y, cb, nL, ret, lst, Cc⟩ := M
  obtain ⟨hx, hb, hml, hr, hown, hts, hlocks, hK0, hA, hAm, hR0, hM, hnm⟩ := hZ
  obtain ⟨hRf, hRl, hRc, hRs⟩ := hR
  obtain ⟨hfresh, cs0, rfl, rfl⟩ := hN
  have hdec := hM.dec hi
  have hit2 := hM.itB hi
  dsimp only at hx hb hml hr hown hts hlocks hK0 hA hAm hR0 hdec hit2 hop hcl
  subst hop
  simp only [zitB, beq_iff_eq] at hit2
  subst hit2
  intro H locs ls hP hD hS hl
  refine va_newq (N' := N) hx hb hown (hts _ hcl) (by
    have hov2 : va_AO "BorrowedLives$Lives" s ∧ va_AO "BorrowedLives$Tales" s := hov
    rcases hC with rfl | rfl
    · exact hov2.1
    · exact hov2.2) hK0 hP hD hS hA hn hNx hbytes (Nat.le_trans hmc hRc) (Nat.le_trans hms hRs) hdec (fun q cA H1 hK1 hP1 hD1 hS1 => ?_)
  have hcA : cA = dA t := by
    have h1 := (hK1.2 (zty dA).length (cA, FieldType.object C) (by simp)).2
    have h2 := (hK0.2 t (dA t, FieldType.object C) (zty_at ht)).2
    obtain ⟨-, -, -, -, -, h3⟩ := h1
    obtain ⟨-, -, -, -, -, h4⟩ := h2
    exact Option.some.inj (h3.symm.trans h4)
  subst hcA
  intro T1 hT1 X1
  have hq := znew_adr hT1 X1 hP1 hD1 hfresh hc hk
  subst hq
  have e1 : zws dA adr cs ++ [(adr cs.length, (.inl (dA t, N, .inr (.inr (.inr (.inr (fun _ => none))))) : va_E))] = zws dA adr (cs ++ [.inl (t, N, .inr (.inr (.inr (.inr (fun _ => none)))))]) := by rw [zws_app]; rfl
  rw [e1] at hP1 hD1
  exact kk H1 locs ls hP1 hD1 hS1 hl T1 hT1 X1
/-- a reference is laid into an array -/
theorem AW.aast {t N q w ci : Nat} {i : Int32} {f : Nat → Option Nat} {vs : List Value} {rc : vw_C} {cs : List zE} (hZ : zOk Z M) (hit : zget M.2.2.2.2.1 pc = some it) (hop : it.2.1 = .aastore) (hq : cs[q]? = some (.inl (t, N, .inr (.inr (.inr (.inr f)))))) (hw : cs[w]? = some (.inr (ci, vs))) (hrc : zcl[ci]? = some rc) (ht : zTy[t]? = some (.object rc.1)) (hin : vp_in i N)
    (kk : AW Z k n (pc + 1) lv st (cs.set q (.inl (t, N, .inr (.inr (.inr (.inr (va_up f i.toNatClampNeg (some w))))))))) : AW Z k n pc lv (.ref w :: .int i :: .ref q :: st) cs := by
  obtain ⟨hi, rfl⟩ := zget_mem hit
  obtain ⟨pc, op, len, v, a, b, c, sw⟩ := it
  obtain ⟨l, p, e, R, s, m, args, below, meth, cd, D, dA, adr, A, Q⟩ := Z
  obtain ⟨y, cb, nL, ret, lst, Cc⟩ := M
  obtain ⟨hx, hb, hml, hr, hown, hts, hlocks, hK0, hA, hAm, hR0, hM, hnm⟩ := hZ
  have hdec := hM.dec hi
  have hit2 := hM.itB hi
  dsimp only at hx hb hml hr hown hts hlocks hK0 hA hAm hR0 hdec hit2 hop
  subst hop
  have hlen1 : len = 1 := eq_of_beq hit2
  subst hlen1
  intro H locs ls hP hD hS hl
  have e9 : (fun j => (va_up f i.toNatClampNeg (some w) j).map adr) = va_up (fun j => (f j).map adr) i.toNatClampNeg (some (adr w)) := by
    funext j
    unfold va_up
    split <;> rfl
  have e1 : (zws dA adr cs).set q (adr q, (.inl (dA t, N, .inr (.inr (.inr (.inr (va_up (fun j => (f j).map adr) i.toNatClampNeg (some (adr w))))))) : va_E)) = zws dA adr (cs.set q (.inl (t, N, .inr (.inr (.inr (.inr (va_up f i.toNatClampNeg (some w)))))))) := by
    rw [zws_set, ← e9]; rfl
  refine va_astq hx hb hK0 hP hD hS q t w ci (zws_at (dA := dA) (adr := adr) hq) (zty_at ht) (zws_at (dA := dA) (adr := adr) hw) hrc hin hdec (fun H1 locs1 hP1 hD1 hS1 => ?_)
  rw [e1] at hP1 hD1
  exact kk H1 locs1 ls hP1 hD1 hS1 hl
/-- an array of references is what stands in its places -/
theorem AW.reArr {t N q : Nat} {f g : Nat → Option Nat} {cs : List zE} (hq : cs[q]? = some (.inl (t, N, .inr (.inr (.inr (.inr f)))))) (hfg : ∀ j, j < N → f j = g j)
    (kk : AW Z k n pc lv st (cs.set q (.inl (t, N, .inr (.inr (.inr (.inr g))))))) : AW Z k n pc lv st cs := by
  obtain ⟨l, p, e, R, s, m, args, below, meth, cd, D, dA, adr, A, Q⟩ := Z
  intro H locs ls hP hD hS hl
  have hqz := zws_at (dA := dA) (adr := adr) hq
  have e2 : vp_cell (dA t) (zA adr (N, .inr (.inr (.inr (.inr f))))) = vp_cell (dA t) (zA adr (N, .inr (.inr (.inr (.inr g))))) := by
    show arrV (dA t) N (fun j => va_rf ((f j).map adr)) = arrV (dA t) N (fun j => va_rf ((g j).map adr))
    unfold arrV
    congr 1
    congr 1
    funext j
    show va_rf ((f j.val).map adr) = va_rf ((g j.val).map adr)
    rw [hfg j.val j.isLt]
  refine kk H locs ls ?_ ?_ hS hl
  · rw [zws_set]
    intro i r hir
    by_cases hiq : q = i
    · subst hiq
      rw [List.getElem?_set_self (List.getElem?_eq_some_iff.mp hqz).1] at hir
      cases hir
      have h1 := hP q _ hqz
      show H[adr q]? = some (vp_cell (dA t) (zA adr (N, .inr (.inr (.inr (.inr g))))))
      rw [← e2]
      exact h1
    · rw [List.getElem?_set_ne hiq] at hir
      exact hP i r hir
  · rw [zws_set]
    exact va_D.set hD hqz
end ZMAKE
