/-! ===== what is made: objects, arrays; final fields; references laid into arrays ===== -/
def zdefs (l : List FieldType) : List Value := l.map defaultValue
theorem zat_lt {D : va_G} {cl : List vw_C} {q : Nat × va_E} {H : Heap} (h : va_at D cl q H) : q.1 < H.size := by
  obtain ⟨a, e⟩ := q
  rcases e with a1 | o
  · exact (Array.getElem?_eq_some_iff.mp h).1
  · obtain ⟨r, -, cell, hcell, -⟩ := h
    exact (Array.getElem?_eq_some_iff.mp hcell).1
/-- the new cell's address is the one that was kept for it -/
theorem znew_adr {p : Program} {l : Launch} {e : Env} {R : Room} {s : State} {m : MethodId} {args : Array Value} {below : List Frame} {meth : Method} {c : Code} {T : State} {locs : List Loc} {k n : Nat} {D : va_G} {dA : Nat → ClassId} {adr : Nat → Nat} {cs cs0 : List zE} {nf : Nat} {H1 : Heap} {q : Nat} {E : va_E}
    (hT : T.heap = H1) (X : Stand p l e R s m args below meth c T locs (k + 1) n) (hP : va_P D zcl (zws dA adr cs ++ [(q, E)]) H1) (hD : va_D (va_A (zws dA adr cs0) s.heap.size) (zws dA adr cs ++ [(q, E)])) (hfr : zFresh adr cs0.length nf s.heap.size) (hc : cs.length = cs0.length + k) (hk : k + 1 ≤ nf) : q = adr cs.length := by
  have h1 : H1.size ≤ s.heap.size + (k + 1) := by rw [← hT]; exact X.heapSize
  have hq : (zws dA adr cs ++ [(q, E)])[cs.length]? = some (q, E) := by
    rw [List.getElem?_append_right (by rw [zws_len]; exact Nat.le_refl _), zws_len]; simp
  have h2 := zat_lt (hP _ _ hq)
  have hlow : ∀ j : Nat, j < cs.length → q ≠ adr j := fun j hj h9 => by
    have h3 : (zws dA adr cs ++ [(q, E)])[j]? = some (adr j, ze dA adr cs[j]) := by
      rw [List.getElem?_append_left (by rw [zws_len]; exact hj)]
      exact zws_at (List.getElem?_eq_getElem hj)
    have := hD.1 _ _ _ _ hq h3 h9
    omega
  have h4 := hD.2 _ _ hq
  have h5 : s.heap.size ≤ q := by
    rcases h4 with ⟨j, e0, hj⟩ | h
    · have hjl : j < cs0.length := by
        have := (List.getElem?_eq_some_iff.mp hj).1
        rwa [zws_len] at this
      rw [zws_at (List.getElem?_eq_getElem hjl)] at hj
      injection hj with hj
      exact absurd (congrArg Prod.fst hj).symm (hlow j (by omega))
    · exact h
  have h6 : ∀ i : Nat, i < k → q ≠ s.heap.size + i := fun i hi => by
    rw [← hfr i (by omega)]
    exact hlow _ (by omega)
  have h7 : q = s.heap.size + k := by
    dsimp only at h2
    have h8 : q < s.heap.size + (k + 1) := Nat.lt_of_lt_of_le h2 h1
    rcases Nat.lt_or_ge q (s.heap.size + k) with h9 | h9
    · exact absurd (show q = s.heap.size + (q - s.heap.size) by omega) (h6 _ (by omega))
    · omega
  rw [h7, hc, hfr k (by omega)]
section ZNEW
variable {Z : zCtx} {M : zMth} {k n d nf mc ms n0 pc : Nat} {lv : List (Option Value)} {st : List Value} {cs : List zE} {it : zIt}
theorem AW.new {idx ci N : Nat} {C : String} {T : u_T} (hZ : zOk Z M) (hR : zCan Z d mc ms) (hN : zNew Z n0 nf) (hit : zget M.2.2.2.2.1 pc = some it) (hop : it.2.1 = .new idx) (hrc : zcl[ci]? = some (C, T, N))
    (hcl : Cond.classLink M.2.2.2.2.2.1 idx C ∈ zTg) (hin : Cond.instantiable C N ∈ zTg) (hini : Cond.initialized C ∈ zTg) (hc : cs.length = n0 + k) (hk : k + 1 ≤ nf) (hmc : k + 1 ≤ mc) (hms : n + N ≤ ms) {fs : List Value} (hfs : fs = zdefs (zFt.getD ci [])) (hfl : (zFt.getD ci []).length = N)
    (kk : AW Z (k + 1) (n + N) (pc + 3) lv (.ref cs.length :: st) (cs ++ [.inr (ci, fs)])) : AW Z k n pc lv st cs := by
  obtain ⟨hi, rfl⟩ := zget_mem hit
  obtain ⟨pc, op, len, v, a, b, c, sw⟩ := it
  obtain ⟨l, p, e, R, s, m, args, below, meth, cd, D, dA, adr, A, Q⟩ := Z
  obtain ⟨y, cb, nL, ret, lst, Cc⟩ := M
  obtain ⟨hx, hb, hml, hr, hown, hts, hlocks, hK0, hA, hAm, hR0, hM, hnm⟩ := hZ
  obtain ⟨hRf, hRl, hRc, hRs⟩ := hR
  obtain ⟨hfresh, cs0, rfl, rfl⟩ := hN
  have hdec := hM.dec hi
  have hit2 := hM.itB hi
  dsimp only at hx hb hml hr hown hts hlocks hK0 hA hAm hR0 hdec hit2 hop hcl
  subst hop
  simp only [zitB, beq_iff_eq] at hit2
  subst hit2
  intro H locs ls hP hD hS hl
  have hfs2 : ∀ j, j < N → defaultValue (zft ci j) = vp_V (fs.map (zv adr)) j := by
    intro j hj
    have h1 : (fs.map (zv adr)).getD j .null = zv adr (defaultValue ((zFt.getD ci []).getD j .int)) := by
      subst hfs
      generalize zFt.getD ci [] = L at hfl
      have hj2 : j < L.length := by rw [hfl]; exact hj
      simp [zdefs, List.getD_eq_getElem?_getD, List.getElem?_eq_getElem hj2]
    show _ = (fs.map (zv adr)).getD j .null
    rw [h1]
    show defaultValue ((zFt.getD ci []).getD j .int) = _
    cases (zFt.getD ci []).getD j .int <;> rfl
  refine va_new (fs := fs.map (zv adr)) hx hb hts (zcl_ws hrc) (zft ci) (zcl_ft hrc) hown (hts _ hcl) (hts _ hin) (hts _ hini) hK0 hP hD hS hA hrc hfs2 (Nat.le_trans hmc hRc) (Nat.le_trans hms hRs) hdec (fun q H1 hP1 hD1 hS1 => ?_)
  intro T1 hT1 X1
  have hq := znew_adr hT1 X1 hP1 hD1 hfresh hc hk
  subst hq
  have e1 : zws dA adr cs ++ [(adr cs.length, (.inr (ci, fs.map (zv adr)) : va_E))] = zws dA adr (cs ++ [.inr (ci, fs)]) := by rw [zws_app]; rfl
  rw [e1] at hP1 hD1
  exact kk H1 locs ls hP1 hD1 hS1 hl T1 hT1 X1
theorem AW.newa {atype : ArrayType} {t N : Nat} {ty : FieldType} {x : Int32} {a0 : vp_A} {st : List Value} (hZ : zOk Z M) (hR : zCan Z d mc ms) (hN : zNew Z n0 nf) (hit : zget M.2.2.2.2.1 pc = some it) (hop : it.2.1 = .newarray atype) (hty : newarray.typeOf atype = ty) (ht : zTy[t]? = some ty) (hob : ∀ C, ty ≠ .object C) (hcl : Cond.arrayClass ty ∈ zTg)
    (ha : ∀ (cA : ClassId) (adr : Nat → Nat), vp_cell cA (zA adr a0) = arrV cA N (fun _ => defaultValue ty)) (hn : ¬ x < 0) (hNx : x.toNatClampNeg = N) (hbytes : N * componentBytes ty ≤ 536870912) (hc : cs.length = n0 + k) (hk : k + 1 ≤ nf) (hmc : k + 1 ≤ mc) (hms : n + N ≤ ms)
    (kk : AW Z (k + 1) (n + N) (pc + 2) lv (.ref cs.length :: st) (cs ++ [.inl (t, a0)])) : AW Z k n pc lv (.int x :: st) cs := by
  obtain ⟨hi, rfl⟩ := zget_mem hit
  obtain ⟨pc, op, len, v, a, b, c, sw⟩ := it
  obtain ⟨l, p, e, R, s, m, args, below, meth, cd, D, dA, adr, A, Q⟩ := Z
  obtain ⟨y, cb, nL, ret, lst, Cc⟩ := M
  obtain ⟨hx, hb, hml, hr, hown, hts, hlocks, hK0, hA, hAm, hR0, hM, hnm⟩ := hZ
  obtain ⟨hRf, hRl, hRc, hRs⟩ := hR
  obtain ⟨hfresh, cs0, rfl, rfl⟩ := hN
  have hdec := hM.dec hi
  have hit2 := hM.itB hi
  dsimp only at hx hb hml hr hown hts hlocks hK0 hA hAm hR0 hdec hit2 hop
  subst hop; subst hty
  simp only [zitB, beq_iff_eq] at hit2
  subst hit2
  intro H locs ls hP hD hS hl
  refine va_newa (ty := newarray.typeOf atype) (a0 := zA adr a0) hx hb (hts _ hcl) rfl hK0 hP hD hS hA (fun cA => ha cA adr) hn hNx hbytes (by omega) (by omega) hdec (fun q cA H1 hK1 hP1 hD1 hS1 => ?_)
  have hcA : cA = dA t := by
    have h1 := (hK1.2 (zty dA).length (cA, newarray.typeOf atype) (by simp)).2
    have h2 := (hK0.2 t (dA t, newarray.typeOf atype) (zty_at ht)).2
    unfold va_RA at h1 h2
    split at h1
    · next C9 heq => exact absurd heq (hob C9)
    · split at h2
      · next C9 heq => exact absurd heq (hob C9)
      · exact Option.some.inj (h1.symm.trans h2)
  subst hcA
  intro T1 hT1 X1
  have hq := znew_adr hT1 X1 hP1 hD1 hfresh hc hk
  subst hq
  have e1 : zws dA adr cs ++ [(adr cs.length, (.inl (dA t, zA adr a0) : va_E))] = zws dA adr (cs ++ [.inl (t, a0)]) := by rw [zws_app]; rfl
  rw [e1] at hP1 hD1
  exact kk H1 locs ls hP1 hD1 hS1 hl T1 hT1 X1
/-- a final field, in the constructor -/
theorem AW.putF {idx ci b q : Nat} {fs : List Value} {w : Value} {st : List Value} (hZ : zOk Z M) (hit : zget M.2.2.2.2.1 pc = some it) (hop : it.2.1 = .putfield idx) (hnm9 : M.1.name = "<init>") {rc : vw_C} (hrc : zcl[ci]? = some rc) (hb2 : b < rc.2.2) (hfin : (rc.2.1 b).2.2.2 = true) (hdecl : (rc.2.1 b).1 = M.2.2.2.2.2.1)
    (hl2 : Cond.fieldLink M.2.2.2.2.2.1 idx (rc.2.1 b).1 (rc.2.1 b).2.1 (rc.2.1 b).2.2.1 ∈ zTg)
    (hq : cs[q]? = some (.inr (ci, fs))) (hw : (w = .null ∨ ∃ a, w = .ref a) ∧ ((∃ C, zft ci b = .object C) ∨ ∃ t, zft ci b = .array t)) (hbl : b < fs.length)
    (kk : AW Z k n (pc + 3) lv st (cs.set q (.inr (ci, fs.set b w)))) : AW Z k n pc lv (w :: .ref q :: st) cs := by
  obtain ⟨hi, rfl⟩ := zget_mem hit
  obtain ⟨pc, op, len, v, a9, b9, c9, sw⟩ := it
  obtain ⟨l, p, e, R, s, m, args, below, meth, cd, D, dA, adr, A, Q⟩ := Z
  obtain ⟨y, cb, nL, ret, lst, Cc⟩ := M
  obtain ⟨hx, hb, hml, hr, hown, hts, hlocks, hK0, hA, hAm, hR0, hM, hnm⟩ := hZ
  have hdec := hM.dec hi
  have hit2 := hM.itB hi
  dsimp only at hx hb hml hr hown hts hlocks hK0 hA hAm hR0 hdec hit2 hop hdecl hl2 kk hnm9 hnm
  subst hop
  simp only [zitB, beq_iff_eq, Bool.and_eq_true] at hit2
  obtain ⟨⟨rfl, -⟩, -⟩ := hit2
  intro H locs ls hP hD hS hl
  have hq2 := zws_at (dA := dA) (adr := adr) hq
  have hfd := zcl_ft hrc b hb2
  have hn1 : narrow (zft ci b) (zv adr w) = zv adr w := by
    rcases hw with ⟨rfl | ⟨x, rfl⟩, ⟨C, h9⟩ | ⟨t, h9⟩⟩ <;> rw [h9] <;> rfl
  have hf1 : fits (zft ci b) (zv adr w) = true := by
    rcases hw with ⟨rfl | ⟨x, rfl⟩, ⟨C, h9⟩ | ⟨t, h9⟩⟩ <;> rw [h9] <;> rfl
  have hln : b < (fs.map (zv adr)).length := by rw [List.length_map]; exact hbl
  have hgo : ∀ (H1 : Heap) (locs1 : List Loc), va_P D zcl ((zws dA adr cs).set q (adr q, .inr (ci, (fs.map (zv adr)).set b (zv adr w)))) H1 → va_D A ((zws dA adr cs).set q (adr q, .inr (ci, (fs.map (zv adr)).set b (zv adr w)))) → va_S A s.heap H1 locs1 → W p l e R s m args below meth cd H1 locs1 k n Q (F0 m (pc + 3) ls (st.map (zv adr))) := by
    intro H1 locs1 hP1 hD1 hS1
    have e1 : (fs.map (zv adr)).set b (zv adr w) = (fs.set b w).map (zv adr) := by rw [List.map_set]
    rw [e1] at hP1 hD1
    exact kk H1 locs1 ls (by rw [zws_set]; exact hP1) (by rw [zws_set]; exact hD1) hS1 hl
  exact va_putF (ref := (rc.2.1 b).1) hx hb hts (zcl_ws hrc) (zft ci) (zcl_ft hrc) (zcl_nm hrc) hown hK0 hP hD hS q hq2 hrc b hb2 (hts _ hl2) (fun _ h9 => h9) hfin (hnm.trans hnm9) hdecl hfd hn1 hf1 hln hdec hgo
/-- Object's own constructor -/
theorem AW.objInit {idx q : Nat} {st : List Value} (hZ : zOk Z M) (hR : zCan Z d mc ms) (hit : zget M.2.2.2.2.1 pc = some it) (hop : it.2.1 = .invokespecial idx) (hlk : Cond.methodLink M.2.2.2.2.2.1 idx Lib.objectInit ∈ zTg) (hin : Cond.instanceMethod Lib.objectInit ∈ zTg) (hco : Cond.code Lib.objectInit ⟨#[0xb1]⟩ 1 none ∈ zTg) (hr4 : Nat.ble (zcsum st) 8 = true)
    (kk : AW Z k n (pc + 3) lv st cs) : AW Z k n pc lv (.ref q :: st) cs := by
  obtain ⟨hi, rfl⟩ := zget_mem hit
  obtain ⟨pc, op, len, v, a, b, c, sw⟩ := it
  obtain ⟨l, p, e, R, s, m, args, below, meth, cd, D, dA, adr, A, Q⟩ := Z
  obtain ⟨y, cb, nL, ret, lst, Cc⟩ := M
  obtain ⟨hx, hb, hml, hr, hown, hts, hlocks, hK0, hA, hAm, hR0, hM, hnm⟩ := hZ
  have hdec := hM.dec hi
  have hit2 := hM.itB hi
  dsimp only at hx hb hml hr hown hts hlocks hK0 hA hAm hR0 hdec hit2 hop hlk
  subst hop
  simp only [zitB, beq_iff_eq] at hit2
  subst hit2
  intro H locs ls hP hD hS hl
  have hdec2 : decode cb (F0 m pc ls (.ref (adr q) :: st.map (zv adr))).pc = .ok (.invokespecial idx, 3) := hdec
  have h8 := zcat_sum (adr := adr) hr4
  refine W.objInit hx hb hown (hts _ hlk) (hts _ hin) (hts _ hco) rfl (by show ls.size = _; exact hl.2.choose_spec.1.1) rfl hdec2 hR0.1 (by show 2 * 0 + _ + 12 ≤ _; omega) ?_
  exact kk H locs ls hP hD hS hl
end ZNEW
