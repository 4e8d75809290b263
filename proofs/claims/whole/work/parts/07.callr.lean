/-! ===== a call, by its contract ===== -/
def zLink (own : String) (idx : Nat) (y : MethodName) : Prop := Cond.methodLink own idx y ∈ zTg ∨ Cond.methodLinkNest own idx y "BorrowedLives" ∈ zNw
def zNamed (y : MethodName) (np : Nat) : Prop := Cond.initialized y.cls ∈ zTg ∧ (y.cls ≠ "java/lang/invoke/MethodHandle" ∧ y.cls ≠ "java/lang/invoke/VarHandle" ∧ (parseMethodDescriptor y.desc).map (fun d => d.parameters.length) = some np)
def zVirt (y : MethodName) (np : Nat) : Prop := zNamed y np ∧ Cond.instanceMethod y ∈ zTg ∧ Cond.selects y.cls y y ∈ zTg
def zStat (y : MethodName) (np : Nat) : Prop := zNamed y np ∧ Cond.static y ∈ zTg
def zCtor (y : MethodName) (np : Nat) : Prop := zNamed y np ∧ y.name = "<init>" ∧ Cond.instanceMethod y ∈ zTg
theorem zsize {p : Program} {l : Launch} {e : Env} {R : Room} {s : State} {m : MethodId} {args : Array Value} {below : List Frame} {meth : Method} {c : Code} {T : State} {locs : List Loc} {k n : Nat} {D : va_G} {dA : Nat → ClassId} {adr : Nat → Nat} {A : Nat → Prop} {cs : List zE} {n0 nf : Nat} {H : Heap}
    (hT : T.heap = H) (X : Stand p l e R s m args below meth c T locs k n) (hP : va_P D zcl (zws dA adr cs) H) (hS : va_S A s.heap H locs) (hfr : zFresh adr n0 nf s.heap.size) (hc : cs.length = n0 + k) (hk : k ≤ nf) : H.size = s.heap.size + k := by
  have h1 : H.size ≤ s.heap.size + k := by rw [← hT]; exact X.heapSize
  have h2 := hS.1
  rcases Nat.eq_zero_or_pos k with h3 | h3
  · omega
  · obtain ⟨e, he⟩ : ∃ e, cs[n0 + (k - 1)]? = some e := ⟨_, List.getElem?_eq_getElem (by omega)⟩
    have h4 := hP _ _ (zws_at (dA := dA) (adr := adr) he)
    have h5 : adr (n0 + (k - 1)) < H.size := by
      unfold va_at at h4
      dsimp only at h4
      split at h4
      · exact (Array.getElem?_eq_some_iff.mp h4).1
      · obtain ⟨r, -, cell, hcell, -⟩ := h4
        exact (Array.getElem?_eq_some_iff.mp hcell).1
    rw [hfr (k - 1) (by omega)] at h5
    omega
section ZCALL
variable {l : Launch} {p : Program} {e : Env} {R : Room} {s : State} {m : MethodId} {args : Array Value} {below : List Frame} {meth : Method} {cd : Code} {D : va_G} {dA : Nat → ClassId} {adr : Nat → Nat} {A : Nat → Prop} {Q : State → Prop}
variable {H : Heap} {locs : List Loc} {ls : Array Slot} {cs cc : List zE} {ps : List Nat} {nf k n : Nat}
theorem zcall_pre {a : List Value} {T : State} (hps : ps.map (fun q => cs[q]?) = cc.map (fun e => some (zre (zrho ps cs.length nf) e))) (hnd : ps.Nodup) (hfar : ps.length + nf ≤ 1000000) (hK0 : va_K D zcl (zty dA) s) (hAm : zAm adr A s s.heap) (hP : va_P D zcl (zws dA adr cs) H) (hD : va_D A (zws dA adr cs)) (hS : va_S A s.heap H locs)
    (hfree : ∀ q, va_A (zws dA (fun i => adr (zrho ps cs.length nf i)) cc) H.size q → A q) (hU : T.heap = H) (hW : s.WarmedH T.vm) :
    va_Pc (a.map (zv (fun i => adr (zrho ps cs.length nf i)))) (zPre D dA (fun i => adr (zrho ps cs.length nf i)) cc H.size) (a.map (zv (fun i => adr (zrho ps cs.length nf i)))).toArray T := by
  refine ⟨rfl, by rw [hU], ?_, va_K.moved hW.alike hK0, ⟨fun i j p q hi hj hpq => ?_, fun _ _ _ => trivial⟩, ?_⟩
  · rw [hU]
    intro j q hj
    obtain ⟨p, -, h2⟩ := zsub_at hps hj
    exact hP p q h2
  · obtain ⟨pi, h1, h2⟩ := zsub_at hps hi
    obtain ⟨pj, h3, h4⟩ := zsub_at hps hj
    have h5 := hD.1 pi pj p q h2 h4 hpq
    subst h5
    exact (List.getElem?_inj (List.getElem?_eq_some_iff.mp h1).1 hnd).mp (h1.trans h3.symm)
  · rw [hU]
    exact (hAm.adr (adr' := fun i => adr (zrho ps cs.length nf i)) (fun j hj => by rw [zrho_far (by omega)])).moved hW (fun a h1 h2 => hS.2.1 a h1 h2) hfree
theorem zcall_free (hps : ps.map (fun q => cs[q]?) = cc.map (fun e => some (zre (zrho ps cs.length nf) e))) (hA : ∀ q : Nat, s.heap.size ≤ q → A q) (hD : va_D A (zws dA adr cs)) (hS : va_S A s.heap H locs) : ∀ q, va_A (zws dA (fun i => adr (zrho ps cs.length nf i)) cc) H.size q → A q := by
  intro q hq
  rcases hq with ⟨j, e1, hj⟩ | hq
  · obtain ⟨p1, -, h2⟩ := zsub_at hps hj
    exact hD.2 p1 _ h2
  · exact hA q (Nat.le_trans hS.1 hq)
set_option maxHeartbeats 1000000 in
theorem zcall_go {Post : Option Value → List zE → Prop} {mc ms pc : Nat} {lv : List (Option Value)} {st : List Value} {rest : List Value} {a : Array Value} (hps : ps.map (fun q => cs[q]?) = cc.map (fun e => some (zre (zrho ps cs.length nf) e))) (hnd : ps.Nodup)
    (hfree : ∀ q, va_A (zws dA (fun i => adr (zrho ps cs.length nf i)) cc) H.size q → A q)
    (hP : va_P D zcl (zws dA adr cs) H) (hD : va_D A (zws dA adr cs)) (hS : va_S A s.heap H locs) (hl : zLv ls cd.maxLocals adr lv)
    {T : State} (hT : T.heap = H) (X : Stand p l e R s m args below meth cd T locs k n)
    (hrun : va_Run p l e R s m args below meth cd H locs k n mc ms (F0 m pc ls st) (rest.map (zv adr)) (zQ D dA (fun i => adr (zrho ps cs.length nf i)) (zws dA (fun i => adr (zrho ps cs.length nf i)) cc) (cc.length + nf) H.size Post a) (va_A (zws dA (fun i => adr (zrho ps cs.length nf i)) cc) H.size))
    (kk : ∀ (v : Option Value) (cc1 : List zE), Post v cc1 → cc1.length = cc.length + nf → AW (l, p, e, R, s, m, args, below, meth, cd, D, dA, adr, A, Q) (k + mc) (n + ms) (pc + 3) lv ((v.map (zv (zrho ps cs.length nf))).toList ++ rest) (zjoin cs ps (cc1.map (zre (zrho ps cs.length nf))))) :
    ∃ t, Steps p.tables e below (T.setTop (F0 m pc ls st)) t ∧ Q t := by
  obtain ⟨v, st0, t, T', L, e1, X', hL, e2, e3, ⟨⟨v1, cc1, ho, hpost, hlen1, hP1, hK1, hD1⟩, hF⟩, hgo⟩ := hrun T hT X
  have hv : v = v1.map (zv (fun i => adr (zrho ps cs.length nf i))) := by injection ho
  obtain ⟨hF1, hF2⟩ := hF
  rw [e1] at hF1 hF2
  obtain ⟨hP2, hD2⟩ := zjoin_world hps hnd hlen1 hP hD hfree hP1 hD1 hF2
  have hS2 : va_S A s.heap t.heap (locs ++ L) := by
    refine ⟨Nat.le_trans hS.1 hF1, fun q h1 h2 => ?_, fun q hq => ?_⟩
    · rw [hF2 q (Nat.lt_of_lt_of_le h1 hS.1) (fun h9 => h2 (hfree q h9))]
      exact hS.2.1 q h1 h2
    · rcases List.mem_append.mp hq with h | h
      · exact hS.2.2 q h
      · exact hfree _ (hL q h)
  obtain ⟨t2, a1, a2⟩ := kk v1 cc1 hpost hlen1 t.heap (locs ++ L) ls hP2 hD2 hS2 hl T' e2 X'
  refine ⟨t2, ?_, a2⟩
  refine hgo _ ?_
  have e9 : v.toList ++ rest.map (zv adr) = (((v1.map (zv (zrho ps cs.length nf))).toList ++ rest)).map (zv adr) := by
    rw [hv]
    cases v1 with
    | none => rfl
    | some w => simp [zv_comp]
  show Steps p.tables e below (T'.setTop { method := m, pc := pc + 3, locals := ls, stack := v.toList ++ rest.map (zv adr), locked := none }) t2
  rw [e9]
  exact a1
end ZCALL
section ZCALLS
variable {Z : zCtx} {M M' : zMth} {k n d d' nf nf' mc mc' ms ms' n0 pc b0 idx np : Nat} {lv : List (Option Value)} {st rest as : List Value} {cs cc : List zE} {it : zIt} {Post : Option Value → List zE → Prop} {ps : List Nat}
set_option maxHeartbeats 2000000 in
theorem AW.callV (hZ : zOk Z M) (hR : zCan Z d mc ms) (hN : zNew Z n0 nf) (hC : Ct M' d' nf' mc' ms' (.ref b0 :: as) cc Post) (hM' : zMok M')
    (hit : zget M.2.2.2.2.1 pc = some it) (hop : it.2.1 = .invokevirtual idx) (hlk : zLink M.2.2.2.2.2.1 idx M'.1) (hce : zVirt M'.1 np) (hnp : as.length = np)
    (ps : List Nat) (hps : ps.map (fun q => cs[q]?) = cc.map (fun e => some (zre (zrho ps cs.length nf') e))) (hnd : ps.Nodup) (hfr : nf' = 0 ∨ (cs.length = n0 + k ∧ k + nf' ≤ nf)) (hfar : ps.length + nf' ≤ 1000000)
    (hd : d' + 1 ≤ d) (hmL : M'.2.2.1 ≤ 45) (hmc : k + mc' ≤ mc) (hms : n + ms' ≤ ms)
    (hst : st = ((Value.ref b0 :: as).map (zv (zrho ps cs.length nf'))).reverse ++ rest) (hr4 : Nat.ble (zcsum rest) 8 = true)
    {ci : Nat} {fs : List Value} (hrv : cs[zrho ps cs.length nf' b0]? = some (.inr (ci, fs))) {rc : vw_C} (hrc : zcl[ci]? = some rc) (hrn : rc.1 = M'.1.cls)
    (kk : ∀ (v : Option Value) (cc1 : List zE), Post v cc1 → cc1.length = cc.length + nf' → AW Z (k + mc') (n + ms') (pc + 3) lv ((v.map (zv (zrho ps cs.length nf'))).toList ++ rest) (zjoin cs ps (cc1.map (zre (zrho ps cs.length nf'))))) :
    AW Z k n pc lv st cs := by
  obtain ⟨hi, rfl⟩ := zget_mem hit
  obtain ⟨pc, op, len, v, a, b, c, sw⟩ := it
  obtain ⟨l, p, e, R, s, m, args, below, meth, cd, D, dA, adr, A, Q⟩ := Z
  obtain ⟨y, cb, nL, ret, lst, C⟩ := M
  obtain ⟨y', cb', nL', ret', lst', C'⟩ := M'
  obtain ⟨hx, hb, hml, hr, hown, hts, hlocks, hK0, hA, hAm, hR0, hM, hnm⟩ := hZ
  obtain ⟨hRf, hRl, hRc, hRs⟩ := hR
  obtain ⟨hfresh, cs0, hcs0, hA0⟩ := hN
  have hdec := hM.dec hi
  have hit2 := hM.itB hi
  dsimp only at hx hb hml hr hown hts hlocks hK0 hA hAm hR0 hdec hit2 hop hlk hce hmL hrn
  subst hop; subst hst
  simp only [zitB, beq_iff_eq] at hit2
  subst hit2
  intro H locs ls hP hD hS hl T hT X
  have hfree := zcall_free (nf := nf') hps hA hD hS
  have hfreshC : zFresh (fun i => adr (zrho ps cs.length nf' i)) cc.length nf' H.size := by
    intro i hi9
    rcases hfr with h0 | ⟨h1, h2⟩
    · omega
    · have hlen : ps.length = cc.length := by
        have h := congrArg List.length hps
        simpa using h
      have hsz := zsize hT X hP hS hfresh h1 (by omega)
      show adr (zrho ps cs.length nf' (cc.length + i)) = H.size + i
      rw [← hlen, zrho_new hi9, h1, hsz, show n0 + k + i = n0 + (k + i) by omega, hfresh (k + i) (by omega)]
      omega
  have hMet := hC l D dA (fun i => adr (zrho ps cs.length nf' i)) H.size hfreshC
  have hcode : Cond.code y' cb' nL' ret' ∈ zTg := hM'.2.2.2.2.1
  obtain ⟨⟨hini, hdd⟩, hinst, hsel⟩ := hce
  have hroom : (zrm d' mc' ms').frames + 1 ≤ R.frames ∧ 8 + (nL' + 11) + (zrm d' mc' ms').locals ≤ R.locals := ⟨by show d' + 1 ≤ R.frames; omega, by show 8 + (nL' + 11) + 64 * d' ≤ R.locals; omega⟩
  have hrecv := va_recv hK0 hP hrc (zws_at (dA := dA) (adr := adr) hrv)
  rw [hrn] at hrecv
  have e1 : ((Value.ref b0 :: as).map (zv (fun i => adr (zrho ps cs.length nf' i)))) = Value.ref (adr (zrho ps cs.length nf' b0)) :: as.map (zv (fun i => adr (zrho ps cs.length nf' i))) := rfl
  have e2 : (((Value.ref b0 :: as).map (zv (zrho ps cs.length nf'))).reverse ++ rest).map (zv adr) = (as.map (zv (fun i => adr (zrho ps cs.length nf' i)))).reverse ++ .ref (adr (zrho ps cs.length nf' b0)) :: rest.map (zv adr) := by
    simp only [List.map_cons, List.reverse_cons, List.append_assoc, List.map_append, List.map_reverse, List.map_map, List.singleton_append]
    congr 2
    · exact List.map_congr_left (fun v _ => zv_comp adr _ v)
  have hpre : PreV s H y'.cls (adr (zrho ps cs.length nf' b0)) (va_Pc ((Value.ref b0 :: as).map (zv (fun i => adr (zrho ps cs.length nf' i)))) (zPre D dA (fun i => adr (zrho ps cs.length nf' i)) cc H.size)) (as.map (zv (fun i => adr (zrho ps cs.length nf' i)))) :=
    ⟨zPre_blind, hrecv, fun U hU hW => zcall_pre (a := Value.ref b0 :: as) hps hnd hfar hK0 hAm hP hD hS hfree hU hW⟩
  have hsz : ls.size = nL := by rw [hl.2.choose_spec.1.1, hml]
  have h8 := zcat_sum (adr := adr) hr4
  refine zcall_go (a := (Value.ref (adr (zrho ps cs.length nf' b0)) :: as.map (zv (fun i => adr (zrho ps cs.length nf' i)))).toArray) hps hnd hfree hP hD hS hl hT X ?_ kk
  rcases hlk with hlk | hlk
  · exact va_runV (As := as.map (zv (fun i => adr (zrho ps cs.length nf' i)))) (index := idx) ⟨hx, hb, hml, hown, hts⟩ hMet ⟨callB_of np hts (zTg_cons hcode) rfl rfl rfl (hts _ hini) (hts _ hlk) hdd hroom, hts _ hinst, hts _ hsel⟩ hpre rfl (by simpa using hnp) hsz e2 (lv_room h8) hdec ⟨by omega, by omega⟩
  · exact va_runVN (As := as.map (zv (fun i => adr (zrho ps cs.length nf' i)))) (index := idx) ⟨hx, hb, hml, hown, hts⟩ hMet ⟨va_cnB np hts (zTg_cons hcode) rfl rfl rfl (hAm.1 _ hlk) (hts _ hini) hdd hroom, hts _ hinst, hts _ hsel⟩ hpre rfl (by simpa using hnp) hsz e2 (lv_room h8) hdec ⟨by omega, by omega⟩
set_option maxHeartbeats 2000000 in
theorem AW.callS (hZ : zOk Z M) (hR : zCan Z d mc ms) (hN : zNew Z n0 nf) (hC : Ct M' d' nf' mc' ms' as cc Post) (hM' : zMok M')
    (hit : zget M.2.2.2.2.1 pc = some it) (hop : it.2.1 = .invokestatic idx) (hlk : zLink M.2.2.2.2.2.1 idx M'.1) (hce : zStat M'.1 np) (hnp : as.length = np)
    (ps : List Nat) (hps : ps.map (fun q => cs[q]?) = cc.map (fun e => some (zre (zrho ps cs.length nf') e))) (hnd : ps.Nodup) (hfr : nf' = 0 ∨ (cs.length = n0 + k ∧ k + nf' ≤ nf)) (hfar : ps.length + nf' ≤ 1000000)
    (hd : d' + 1 ≤ d) (hmL : M'.2.2.1 ≤ 45) (hmc : k + mc' ≤ mc) (hms : n + ms' ≤ ms)
    (hst : st = (as.map (zv (zrho ps cs.length nf'))).reverse ++ rest) (hr4 : Nat.ble (zcsum rest) 8 = true)
    (kk : ∀ (v : Option Value) (cc1 : List zE), Post v cc1 → cc1.length = cc.length + nf' → AW Z (k + mc') (n + ms') (pc + 3) lv ((v.map (zv (zrho ps cs.length nf'))).toList ++ rest) (zjoin cs ps (cc1.map (zre (zrho ps cs.length nf'))))) :
    AW Z k n pc lv st cs := by
  obtain ⟨hi, rfl⟩ := zget_mem hit
  obtain ⟨pc, op, len, v, a, b, c, sw⟩ := it
  obtain ⟨l, p, e, R, s, m, args, below, meth, cd, D, dA, adr, A, Q⟩ := Z
  obtain ⟨y, cb, nL, ret, lst, C⟩ := M
  obtain ⟨y', cb', nL', ret', lst', C'⟩ := M'
  obtain ⟨hx, hb, hml, hr, hown, hts, hlocks, hK0, hA, hAm, hR0, hM, hnm⟩ := hZ
  obtain ⟨hRf, hRl, hRc, hRs⟩ := hR
  obtain ⟨hfresh, cs0, hcs0, hA0⟩ := hN
  have hdec := hM.dec hi
  have hit2 := hM.itB hi
  dsimp only at hx hb hml hr hown hts hlocks hK0 hA hAm hR0 hdec hit2 hop hlk hce hmL
  subst hop; subst hst
  simp only [zitB, beq_iff_eq, Bool.and_eq_true] at hit2
  obtain ⟨hit2, -⟩ := hit2
  subst hit2
  intro H locs ls hP hD hS hl T hT X
  have hfree := zcall_free (nf := nf') hps hA hD hS
  have hfreshC : zFresh (fun i => adr (zrho ps cs.length nf' i)) cc.length nf' H.size := by
    intro i hi9
    rcases hfr with h0 | ⟨h1, h2⟩
    · omega
    · have hlen : ps.length = cc.length := by
        have h := congrArg List.length hps
        simpa using h
      have hsz := zsize hT X hP hS hfresh h1 (by omega)
      show adr (zrho ps cs.length nf' (cc.length + i)) = H.size + i
      rw [← hlen, zrho_new hi9, h1, hsz, show n0 + k + i = n0 + (k + i) by omega, hfresh (k + i) (by omega)]
      omega
  have hMet := hC l D dA (fun i => adr (zrho ps cs.length nf' i)) H.size hfreshC
  have hcode : Cond.code y' cb' nL' ret' ∈ zTg := hM'.2.2.2.2.1
  obtain ⟨⟨hini, hdd⟩, hstat⟩ := hce
  have hroom : (zrm d' mc' ms').frames + 1 ≤ R.frames ∧ 8 + (nL' + 11) + (zrm d' mc' ms').locals ≤ R.locals := ⟨by show d' + 1 ≤ R.frames; omega, by show 8 + (nL' + 11) + 64 * d' ≤ R.locals; omega⟩
  have e2 : ((as.map (zv (zrho ps cs.length nf'))).reverse ++ rest).map (zv adr) = (as.map (zv (fun i => adr (zrho ps cs.length nf' i)))).reverse ++ rest.map (zv adr) := by
    simp only [List.map_append, List.map_reverse, List.map_map]
    congr 2
    · exact List.map_congr_left (fun v _ => zv_comp adr _ v)
  have hpre : PreS s H (va_Pc (as.map (zv (fun i => adr (zrho ps cs.length nf' i)))) (zPre D dA (fun i => adr (zrho ps cs.length nf' i)) cc H.size)) (as.map (zv (fun i => adr (zrho ps cs.length nf' i)))) :=
    ⟨zPre_blind, fun U hU hW => zcall_pre (a := as) hps hnd hfar hK0 hAm hP hD hS hfree hU hW⟩
  have hsz : ls.size = nL := by rw [hl.2.choose_spec.1.1, hml]
  have h8 := zcat_sum (adr := adr) hr4
  refine zcall_go (a := (as.map (zv (fun i => adr (zrho ps cs.length nf' i)))).toArray) hps hnd hfree hP hD hS hl hT X ?_ kk
  rcases hlk with hlk | hlk
  · exact va_runS (As := as.map (zv (fun i => adr (zrho ps cs.length nf' i)))) (index := idx) ⟨hx, hb, hml, hown, hts⟩ hMet ⟨callB_of np hts (zTg_cons hcode) rfl rfl rfl (hts _ hini) (hts _ hlk) hdd hroom, hts _ hstat⟩ hpre rfl (by simpa using hnp) hsz e2 (lv_room h8) hdec ⟨by omega, by omega⟩
  · exact va_runSN (As := as.map (zv (fun i => adr (zrho ps cs.length nf' i)))) (index := idx) ⟨hx, hb, hml, hown, hts⟩ hMet ⟨va_cnB np hts (zTg_cons hcode) rfl rfl rfl (hAm.1 _ hlk) (hts _ hini) hdd hroom, hts _ hstat, trivial⟩ hpre rfl (by simpa using hnp) hsz e2 (lv_room h8) hdec ⟨by omega, by omega⟩
set_option maxHeartbeats 2000000 in
theorem AW.callI (hZ : zOk Z M) (hR : zCan Z d mc ms) (hN : zNew Z n0 nf) (hC : Ct M' d' nf' mc' ms' (.ref b0 :: as) cc Post) (hM' : zMok M') (hret : M'.2.2.2.1 = none)
    (hit : zget M.2.2.2.2.1 pc = some it) (hop : it.2.1 = .invokespecial idx) (hlk : zLink M.2.2.2.2.2.1 idx M'.1) (hce : zCtor M'.1 np) (hnp : as.length = np)
    (ps : List Nat) (hps : ps.map (fun q => cs[q]?) = cc.map (fun e => some (zre (zrho ps cs.length nf') e))) (hnd : ps.Nodup) (hfr : nf' = 0 ∨ (cs.length = n0 + k ∧ k + nf' ≤ nf)) (hfar : ps.length + nf' ≤ 1000000)
    (hd : d' + 1 ≤ d) (hmL : M'.2.2.1 ≤ 45) (hmc : k + mc' ≤ mc) (hms : n + ms' ≤ ms)
    (hst : st = ((Value.ref b0 :: as).map (zv (zrho ps cs.length nf'))).reverse ++ rest) (hr4 : Nat.ble (zcsum rest) 8 = true)
    (kk : ∀ (v : Option Value) (cc1 : List zE), Post v cc1 → cc1.length = cc.length + nf' → AW Z (k + mc') (n + ms') (pc + 3) lv ((v.map (zv (zrho ps cs.length nf'))).toList ++ rest) (zjoin cs ps (cc1.map (zre (zrho ps cs.length nf'))))) :
    AW Z k n pc lv st cs := by
  obtain ⟨hi, rfl⟩ := zget_mem hit
  obtain ⟨pc, op, len, v, a, b, c, sw⟩ := it
  obtain ⟨l, p, e, R, s, m, args, below, meth, cd, D, dA, adr, A, Q⟩ := Z
  obtain ⟨y, cb, nL, ret, lst, C⟩ := M
  obtain ⟨y', cb', nL', ret', lst', C'⟩ := M'
  obtain ⟨hx, hb, hml, hr, hown, hts, hlocks, hK0, hA, hAm, hR0, hM, hnm⟩ := hZ
  obtain ⟨hRf, hRl, hRc, hRs⟩ := hR
  obtain ⟨hfresh, cs0, hcs0, hA0⟩ := hN
  have hdec := hM.dec hi
  have hit2 := hM.itB hi
  dsimp only at hx hb hml hr hown hts hlocks hK0 hA hAm hR0 hdec hit2 hop hlk hce hmL hret
  subst hop; subst hst; subst hret
  simp only [zitB, beq_iff_eq] at hit2
  subst hit2
  intro H locs ls hP hD hS hl T hT X
  have hfree := zcall_free (nf := nf') hps hA hD hS
  have hfreshC : zFresh (fun i => adr (zrho ps cs.length nf' i)) cc.length nf' H.size := by
    intro i hi9
    rcases hfr with h0 | ⟨h1, h2⟩
    · omega
    · have hlen : ps.length = cc.length := by
        have h := congrArg List.length hps
        simpa using h
      have hsz := zsize hT X hP hS hfresh h1 (by omega)
      show adr (zrho ps cs.length nf' (cc.length + i)) = H.size + i
      rw [← hlen, zrho_new hi9, h1, hsz, show n0 + k + i = n0 + (k + i) by omega, hfresh (k + i) (by omega)]
      omega
  have hMet := hC l D dA (fun i => adr (zrho ps cs.length nf' i)) H.size hfreshC
  have hcode : Cond.code y' cb' nL' none ∈ zTg := hM'.2.2.2.2.1
  obtain ⟨⟨hini, hdd⟩, hnamei, hinst⟩ := hce
  have hroom : (zrm d' mc' ms').frames + 1 ≤ R.frames ∧ 8 + (nL' + 11) + (zrm d' mc' ms').locals ≤ R.locals := ⟨by show d' + 1 ≤ R.frames; omega, by show 8 + (nL' + 11) + 64 * d' ≤ R.locals; omega⟩
  have e2 : (((Value.ref b0 :: as).map (zv (zrho ps cs.length nf'))).reverse ++ rest).map (zv adr) = (as.map (zv (fun i => adr (zrho ps cs.length nf' i)))).reverse ++ .ref (adr (zrho ps cs.length nf' b0)) :: rest.map (zv adr) := by
    simp only [List.map_cons, List.reverse_cons, List.append_assoc, List.map_append, List.map_reverse, List.map_map, List.singleton_append]
    congr 2
    · exact List.map_congr_left (fun v _ => zv_comp adr _ v)
  have hpre : PreS s H (va_Pc ((Value.ref b0 :: as).map (zv (fun i => adr (zrho ps cs.length nf' i)))) (zPre D dA (fun i => adr (zrho ps cs.length nf' i)) cc H.size)) (.ref (adr (zrho ps cs.length nf' b0)) :: as.map (zv (fun i => adr (zrho ps cs.length nf' i)))) :=
    ⟨zPre_blind, fun U hU hW => zcall_pre (a := Value.ref b0 :: as) hps hnd hfar hK0 hAm hP hD hS hfree hU hW⟩
  have hsz : ls.size = nL := by rw [hl.2.choose_spec.1.1, hml]
  have h8 := zcat_sum (adr := adr) hr4
  refine zcall_go (a := (Value.ref (adr (zrho ps cs.length nf' b0)) :: as.map (zv (fun i => adr (zrho ps cs.length nf' i)))).toArray) hps hnd hfree hP hD hS hl hT X ?_ kk
  rcases hlk with hlk | hlk
  · exact va_runI (As := as.map (zv (fun i => adr (zrho ps cs.length nf' i)))) (index := idx) ⟨hx, hb, hml, hown, hts⟩ hMet ⟨callB_of np hts (zTg_cons hcode) rfl rfl rfl (hts _ hini) (hts _ hlk) hdd hroom, hnamei, hts _ hinst⟩ hpre rfl (by simpa using hnp) hsz e2 (lv_room h8) hdec ⟨by omega, by omega⟩
  · exact va_runIN (As := as.map (zv (fun i => adr (zrho ps cs.length nf' i)))) (index := idx) ⟨hx, hb, hml, hown, hts⟩ hMet ⟨va_cnB np hts (zTg_cons hcode) rfl rfl rfl (hAm.1 _ hlk) (hts _ hini) hdd hroom, hnamei, hts _ hinst⟩ hpre rfl (by simpa using hnp) hsz e2 (lv_room h8) hdec ⟨by omega, by omega⟩
end ZCALLS
