/-! helpers -/
theorem zMet_ofWH {l : Launch} {y : MethodName} {ws ws' : List Cond} {rm : Room} {Pc : Array Value → State → Prop} {Qc : Array Value → State → Outcome → State → Prop} {mc ms : Nat} {free : Addr → Prop} {cc : ByteArray} {maxL : Nat} {ret : Option FieldType} {hh : List (Nat × Nat × Nat × Nat)}
    (hy : plainName y.cls = true) (hw : ws = Cond.codeWith y cc maxL ret hh :: ws')
    (body : ∀ p e s m args below meth c s₁, BodyLoose p l y (headSpec ws rm) cc maxL ret e s m args below meth c s₁ → c.maxLocals = maxL → c.exceptionTable.toList = tableOf hh → Pc args s →
      W p l e (headSpec ws rm).room s m args below meth c s.heap [] 0 0 (MQ below Qc args s mc ms free) (entryFrame m args maxL)) : Met l y ws rm Pc Qc mc ms free := by
  refine MetFree.of_bodyS (code := cc) (maxLocals := maxL) (ret := ret) hy ?_ ?_
  · intro args s m h hn
    obtain ⟨m9, meth, c, hn9, h1, h2, h3, h4, -, h5, h6, -⟩ := Cond.codeWith_spec (atoms_spec (ws := ws) h _ (by rw [hw]; exact List.mem_cons_self))
    cases hn.symm.trans hn9
    exact ⟨meth, c, h1, h2, h3, h4, h5, h6⟩
  · intro p e s m args below meth c s₁ B hml hP _
    have hh0 : s₁.heap = s.heap := by rw [B.state]; rfl
    have htab := vx_table (x := y) B (atoms_spec (ws := ws) B.pre _ (by rw [hw]; exact List.mem_cons_self))
    obtain ⟨t, a1, o, b1, b2, b3⟩ := body p e s m args below meth c s₁ B hml htab hP s₁ hh0 (Stand.of_body B)
    exact ⟨t, o, a1, b1, b2, ⟨b3.1, b3.2⟩⟩
/-- a contract of a method with a table of its own -/
def CtW (M : zMth) (hh : List (Nat × Nat × Nat × Nat)) (d mc ms : Nat) (as : List Value) (cs : List zE) (Post : Option Value → List zE → Prop) : Prop :=
  ∀ (l : Launch) (D : va_G) (dA : Nat → ClassId) (adr : Nat → Nat) (sz : Nat), l.stackTraces = false →
    Met l M.1 (Cond.codeWith M.1 M.2.1 M.2.2.1 M.2.2.2.1 hh :: zTg) (zrm d mc ms) (va_Pc (as.map (zv adr)) (zPreX D dA adr cs sz)) (zQ D dA adr (zws dA adr cs) cs.length sz Post) mc ms (va_A (zws dA adr cs) sz)
def zTab (Z : zCtx) (hh : List (Nat × Nat × Nat × Nat)) : Prop := match Z with
  | (_, _, _, _, _, _, _, _, _, c, _, _, _, _, _) => c.exceptionTable.toList = tableOf hh
theorem CtW.of {M : zMth} (hM : zMokL M) {hh : List (Nat × Nat × Nat × Nat)} {d mc ms : Nat} (hd : 1 ≤ d) {as : List Value} {cs : List zE} {Post : Option Value → List zE → Prop} (hn : (zargs as).length ≤ M.2.2.1)
    (body : ∀ Z : zCtx, zOkL Z M → zCan Z d mc ms → zNew Z cs.length 0 → zEnd Z cs.length mc ms Post → zThrL Z → zTab Z hh → AW Z 0 0 0 (zent M.2.2.1 as) [] cs) : CtW M hh d mc ms as cs Post := by
  intro l D dA adr sz hl9
  obtain ⟨y, cc, nL, ret, lst, C⟩ := M
  refine zMet_ofWH (cc := cc) (maxL := nL) (ret := ret) (hh := hh) hM.2.2.2.2.2 rfl ?_
  intro p e s m args below meth c s₁ B hml htab hv
  obtain ⟨rfl, ⟨hsz, hP, hK, hD0, hAm⟩, hXA⟩ := hv
  have hts0 := atoms_spec (ws := Cond.codeWith y cc nL ret hh :: zTg) B.pre
  have hts : ∀ w ∈ zTg, w.before (as.map (zv adr)).toArray s = true := fun w hw => hts0 w (List.mem_cons_of_mem _ hw)
  have hown : s.vm.findClass C.1 = some m.cls := by
    have h := findClass_of_methodNamed B.named
    rwa [hM.2.2.2.1] at h
  have hnm : meth.name = y.name := (name_of_methodNamed B.named B.method).1
  subst hsz
  have hD := hD0.self (sz := s.heap.size)
  have hA : ∀ q : Nat, s.heap.size ≤ q → va_A (zws dA adr cs) s.heap.size q := fun q h => Or.inr h
  rw [lg_entry_eq]
  have hle : (lg_sl (as.map (zv adr))).length ≤ nL := by rw [zargs_len]; exact hn
  have hl := lv_entry (as.map (zv adr)) (n := nL) hle
  exact body (l, p, e, (headSpec (Cond.codeWith y cc nL ret hh :: zTg) (zrm d mc ms)).room, s, m, (as.map (zv adr)).toArray, below, meth, c, D, dA, adr, va_A (zws dA adr cs) s.heap.size, MQ below (zQ D dA adr (zws dA adr cs) cs.length s.heap.size Post) (as.map (zv adr)).toArray s mc ms (va_A (zws dA adr cs) s.heap.size))
    ⟨B.exec, B.bytes, hml, B.returns, hown, hts, B.notSynchronized, hK, hA, hAm, ⟨hd, by show 64 ≤ 64 * d; omega⟩, hM, trivial⟩
    ⟨Nat.le_refl _, Nat.le_refl _, Nat.le_refl _, Nat.le_refl _⟩ ⟨fun i hi => absurd hi (Nat.not_lt_zero i), cs, rfl, rfl⟩ ⟨_, rfl, rfl⟩ ⟨hXA, hl9⟩ htab
    s.heap [] _ hP hD va_S.rf
    ⟨by rw [hml]; show (zent nL as).length = nL; have h9 : (zargs as).length ≤ nL := hn; simp only [zent, List.length_append, List.length_replicate]; omega, _, by rw [hml]; exact hl, fun i v hi => by
      have h1 : (zargs as)[i]? = some (some v) := by
        unfold zent at hi
        rw [List.getElem?_append] at hi
        split at hi
        · exact hi
        · simp [List.getElem?_replicate] at hi
      have h2 := zargs_at adr as 0 i v h1
      rwa [Nat.zero_add] at h2⟩
def zHH : List (Nat × Nat × Nat × Nat) := [(0, 14, 17, 13)]
section ZLH
variable {Z : zCtx} {M M' : zMth} {k n d d' nf mc mc' ms ms' n0 n1 pc b0 idx np : Nat} {lv : List (Option Value)} {st rest as : List Value} {cb cs r9 : List zE} {it : zIt} {Post : Option Value → List zE → Prop} {PostX : List zE → Prop}
/-- caught: the helper answers 1 -/
theorem AX.caught (hZ : zOkL Z M) (hE : zEnd Z n1 mc ms Post) (hT : zThrL Z) (hB : zTab Z zHH) (how : M.2.2.2.2.2.1 = "BorrowedLivesLaw") (hnL : M.2.2.1 = 7) (hret : M.2.2.2.1 = some .int) (d17 : decode M.2.1 17 = .ok (.astore 6, 2)) (d19 : decode M.2.1 19 = .ok (.iconst 1, 1)) (d20 : decode M.2.1 20 = .ok (.ireturn, 1))
    (hk : k ≤ mc) (hn : n ≤ ms) (hlen : cs.length = n1) (hp : Post (some (.int 1)) cs) : AX Z k n 9 lv st cs := by
  obtain ⟨l, p, e, R, s, m, args, below, meth, cd, D, dA, adr, A, Q⟩ := Z
  obtain ⟨y, cb9, nL, ret, lst, C⟩ := M
  obtain ⟨hx, hb, hml, hr, hown, hts, hlocks, hK0, hA, hAm, hR0, hM, hnm⟩ := hZ
  obtain ⟨hXA, hl9⟩ := hT
  obtain ⟨ws0, rfl, rfl⟩ := hE
  have hB : cd.exceptionTable.toList = [⟨0, 14, 17, 13⟩] := hB
  dsimp only at hx hb hml hr hown hts hlocks hK0 hA hAm hR0 how hnL hret d17 d19 d20
  rw [how] at hown
  subst hnL; subst hret
  intro H locs ls q ce hP hD hS hl hce hcv hcl
  have hcast : (Cond.castable zNX zNX).before args s = true := zXat_all hts hXA _ (by rw [zXat_ix]; exact List.mem_filterMap.mpr ⟨1293, by decide +kernel, by decide +kernel⟩)
  refine vx_catch (own := "BorrowedLivesLaw") (name := zNX) (E := zNX) hown [] ⟨0, 14, 17, 13⟩ [] hB (fun z hz => by cases hz) (by decide) (by decide) (hts _ (zIn_mem (k := 1286) (by decide +kernel))) hcast hce hcv hcl ?_
  obtain ⟨-, l9, h1, -⟩ := hl
  rw [hml] at h1
  refine lv_astore hx hb d17 h1 (by decide) rfl (fun ls2 hl2 => ?_)
  refine lv_iconst (v := 1) hx hb d19 (by decide) ?_
  refine W.widen hk hn ?_
  exact W.zret (v := 1) hx hb hr rfl (fun t ht hW => ⟨⟨some (.int 1), cs, rfl, hp, hlen, by rw [ht]; exact hP, va_K.moved hW.alike hK0, hD⟩, hS.F ht⟩) hS.2.2 d20
end ZLH
