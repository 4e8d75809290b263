/-! ===== contracts over worlds of places; the way in, the ways out, calls ===== -/
def zre (r : Nat → Nat) (e : zE) : zE := match e with
  | .inl a => .inl (a.1, zA r a.2)
  | .inr o => .inr (o.1, o.2.map (zv r))
theorem zv_comp (adr r : Nat → Nat) (v : Value) : zv adr (zv r v) = zv (fun j => adr (r j)) v := by cases v <;> rfl
theorem ze_comp (dA : Nat → ClassId) (adr r : Nat → Nat) (e : zE) : ze dA adr (zre r e) = ze dA (fun j => adr (r j)) e := by
  rcases e with ⟨t, n, f⟩ | ⟨ci, fs⟩
  · rcases f with f | f | f | f | f <;> try rfl
    show (Sum.inl _ : va_E) = Sum.inl _
    congr 1
    show (dA t, n, _) = (dA t, n, _)
    congr 3
    simp only [Sum.inr.injEq]
    funext j
    simp [Option.map_map]
    cases f j <;> rfl
  · show (Sum.inr _ : va_E) = Sum.inr _
    congr 1
    show (ci, _) = (ci, _)
    congr 1
    rw [List.map_map]
    exact List.map_congr_left (fun v _ => zv_comp adr r v)
/-- where a callee's places stand among the caller's -/
def zrho (ps : List Nat) (len nf : Nat) (j : Nat) : Nat := match ps[j]? with
  | some q => q
  | none => match Nat.blt j (ps.length + nf) with
    | true => len + (j - ps.length)
    | false => j
def zset (cs : List zE) (ps : List Nat) (es : List zE) : List zE := match ps, es with
  | q :: qs, e :: es => zset (cs.set q e) qs es
  | _, _ => cs
def zjoin (cs : List zE) (ps : List Nat) (es : List zE) : List zE := zset cs ps es ++ es.drop ps.length
theorem zset_len : ∀ (ps : List Nat) (es cs : List zE), (zset cs ps es).length = cs.length
  | [], _, _ => by simp [zset]
  | _ :: _, [], _ => by simp [zset]
  | q :: qs, e :: es, cs => by rw [zset, zset_len qs es]; simp
theorem zset_out : ∀ (ps : List Nat) (es cs : List zE) (k : Nat), k ∉ ps → (zset cs ps es)[k]? = cs[k]?
  | [], _, _, _, _ => by simp [zset]
  | _ :: _, [], _, _, _ => by simp [zset]
  | q :: qs, e :: es, cs, k, h => by
    rw [zset, zset_out qs es _ k (fun h9 => h (List.mem_cons_of_mem _ h9)), List.getElem?_set_ne (fun h9 => h (by rw [h9]; exact List.mem_cons_self))]
theorem zset_in : ∀ (ps : List Nat) (es cs : List zE) (j k : Nat) (e : zE), ps.Nodup → ps[j]? = some k → es[j]? = some e → k < cs.length → (zset cs ps es)[k]? = some e
  | [], _, _, _, _, _, _, h, _, _ => by simp at h
  | _ :: _, [], _, _, _, _, _, _, h, _ => by simp at h
  | q :: qs, e0 :: es, cs, 0, k, e, hn, h1, h2, h3 => by
    simp only [List.getElem?_cons_zero, Option.some.injEq] at h1 h2
    subst h1; subst h2
    rw [zset, zset_out _ _ _ _ (List.nodup_cons.mp hn).1, List.getElem?_set]
    simp [h3]
  | q :: qs, e0 :: es, cs, j + 1, k, e, hn, h1, h2, h3 => by
    simp only [List.getElem?_cons_succ] at h1 h2
    rw [zset]
    exact zset_in qs es _ j k e (List.nodup_cons.mp hn).2 h1 h2 (by simpa using h3)
def zrm (d mc ms : Nat) : Room := { frames := d, cells := mc, slots := ms, locals := 64 * d }
def zFresh (adr : Nat → Nat) (n0 nf sz : Nat) : Prop := ∀ i : Nat, i < nf → adr (n0 + i) = sz + i
def zPre (D : va_G) (dA : Nat → ClassId) (adr : Nat → Nat) (cs : List zE) (sz : Nat) : State → Prop := fun U =>
  U.heap.size = sz ∧ va_P D zcl (zws dA adr cs) U.heap ∧ va_K D zcl (zty dA) U ∧ va_D (fun _ => True) (zws dA adr cs) ∧ zAm adr (va_A (zws dA adr cs) sz) U U.heap
def zQ (D : va_G) (dA : Nat → ClassId) (adr : Nat → Nat) (ws0 : va_W) (n1 sz : Nat) (Post : Option Value → List zE → Prop) : Array Value → State → Outcome → State → Prop := fun _ st oc t =>
  (∃ (v : Option Value) (cs' : List zE), oc = .returned (v.map (zv adr)) ∧ Post v cs' ∧ cs'.length = n1 ∧ va_P D zcl (zws dA adr cs') t.heap ∧ va_K D zcl (zty dA) t ∧ va_D (va_A ws0 sz) (zws dA adr cs')) ∧ va_F (va_A ws0 sz) st t
/-- from the arguments as in the cells cs, M answers, and leaves the cells, as Post says; at most d frames, nf cells that the world goes on with, mc new cells of ms slots -/
def Ct (M : zMth) (d nf mc ms : Nat) (as : List Value) (cs : List zE) (Post : Option Value → List zE → Prop) : Prop :=
  ∀ (l : Launch) (D : va_G) (dA : Nat → ClassId) (adr : Nat → Nat) (sz : Nat), zFresh adr cs.length nf sz →
    Met l M.1 (Cond.code M.1 M.2.1 M.2.2.1 M.2.2.2.1 :: zTg) (zrm d mc ms) (va_Pc (as.map (zv adr)) (zPre D dA adr cs sz)) (zQ D dA adr (zws dA adr cs) (cs.length + nf) sz Post) mc ms (va_A (zws dA adr cs) sz)
theorem zPre_blind {D : va_G} {dA : Nat → ClassId} {adr : Nat → Nat} {cs : List zE} {sz : Nat} {as : List Value} : FrameBlind (va_Pc as (zPre D dA adr cs sz)) := by
  intro a U g mk h
  obtain ⟨h0, h1, h2, h3, h4, h5⟩ := h
  exact ⟨h0, h1, h2, va_K.moved (u := U) (U := U.calling g mk a) (Vm.Alike.refl U.vm) h3, h4, zAm.same (s := U) (U := U.calling g mk a) h5 rfl⟩
-- ===== what a walk may use =====
def zCan (Z : zCtx) (d mc ms : Nat) : Prop := match Z with
  | (_, _, _, R, _, _, _, _, _, _, _, _, _, _, _) => d ≤ R.frames ∧ 64 * d ≤ R.locals ∧ mc ≤ R.cells ∧ ms ≤ R.slots
def zNew (Z : zCtx) (n0 nf : Nat) : Prop := match Z with
  | (_, _, _, _, s, _, _, _, _, _, _, dA, adr, A, _) => zFresh adr n0 nf s.heap.size ∧ ∃ cs0 : List zE, cs0.length = n0 ∧ A = va_A (zws dA adr cs0) s.heap.size
def zEnd (Z : zCtx) (n1 mc ms : Nat) (Post : Option Value → List zE → Prop) : Prop := match Z with
  | (_, _, _, _, s, _, args, below, _, _, D, dA, adr, A, Q) => ∃ ws0 : va_W, A = va_A ws0 s.heap.size ∧ Q = MQ below (zQ D dA adr ws0 n1 s.heap.size Post) args s mc ms A
def zargs : List Value → List (Option Value)
  | [] => []
  | v :: r => match v with
    | .long x => some (.long x) :: none :: zargs r
    | .double x => some (.double x) :: none :: zargs r
    | w => some w :: zargs r
def zent (n : Nat) (as : List Value) : List (Option Value) := zargs as ++ List.replicate (n - (zargs as).length) none
theorem zargs_len (adr : Nat → Nat) : ∀ (as : List Value), (lg_sl (as.map (zv adr))).length = (zargs as).length
  | [] => rfl
  | v :: r => by
    have h1 : lg_sl ((v :: r).map (zv adr)) = (if (zv adr v).category = 2 then [.val (zv adr v), .second] else [.val (zv adr v)]) ++ lg_sl (r.map (zv adr)) := by simp [lg_sl]
    have ih := zargs_len adr r
    rw [h1]
    cases v <;> simp [zargs, zv, Value.category, ih] <;> omega
theorem zargs_at (adr : Nat → Nat) : ∀ (as : List Value) (o i : Nat) (v : Value), (zargs as)[i]? = some (some v) → (o + i, zv adr v) ∈ lv_args o (as.map (zv adr))
  | [], _, _, _, h => by simp [zargs] at h
  | w :: r, o, i, v, h => by
    have ih := zargs_at adr r
    rw [List.map_cons, lv_args]
    cases w with
    | long x =>
      rcases i with _ | _ | i
      · simp [zargs] at h; subst h; exact List.mem_cons_self
      · simp [zargs] at h
      · have h1 := ih (o + 2) i v (by simpa [zargs] using h)
        refine List.mem_cons_of_mem _ ?_
        rw [if_pos (show (zv adr (Value.long x)).category = 2 from rfl), show o + (i + 1 + 1) = o + 2 + i by omega]
        exact h1
    | double x =>
      rcases i with _ | _ | i
      · simp [zargs] at h; subst h; exact List.mem_cons_self
      · simp [zargs] at h
      · have h1 := ih (o + 2) i v (by simpa [zargs] using h)
        refine List.mem_cons_of_mem _ ?_
        rw [if_pos (show (zv adr (Value.double x)).category = 2 from rfl), show o + (i + 1 + 1) = o + 2 + i by omega]
        exact h1
    | _ =>
      rcases i with _ | i
      · simp [zargs] at h; subst h; exact List.mem_cons_self
      · have h1 := ih (o + 1) i v (by simpa [zargs] using h)
        refine List.mem_cons_of_mem _ ?_
        rw [if_neg (by simp [zv, Value.category]), show o + (i + 1) = o + 1 + i by omega]
        exact h1
set_option maxHeartbeats 1000000 in
/-- the way in -/
theorem Ct.of {M : zMth} (hM : zMok M) {d nf mc ms : Nat} (hd : 1 ≤ d) {as : List Value} {cs : List zE} {Post : Option Value → List zE → Prop} (hn : (zargs as).length ≤ M.2.2.1)
    (body : ∀ Z : zCtx, zOk Z M → zCan Z d mc ms → zNew Z cs.length nf → zEnd Z (cs.length + nf) mc ms Post → AW Z 0 0 0 (zent M.2.2.1 as) [] cs) : Ct M d nf mc ms as cs Post := by
  intro l D dA adr sz hfr
  obtain ⟨y, cc, nL, ret, lst, C⟩ := M
  refine Met.ofW (cc := cc) (maxL := nL) (ret := ret) hM.2.2.2.2.2 rfl ?_
  intro p e s m args below meth c s₁ B hml hv
  obtain ⟨rfl, hsz, hP, hK, hD0, hAm⟩ := hv
  have hts0 := atoms_spec (ws := Cond.code y cc nL ret :: zTg) B.pre
  have hts : ∀ w ∈ zTg, w.before (as.map (zv adr)).toArray s = true := fun w hw => hts0 w (List.mem_cons_of_mem _ hw)
  have hown : s.vm.findClass C.1 = some m.cls := by
    have h := findClass_of_methodNamed B.named
    rwa [hM.2.2.2.1] at h
  have hnm : meth.name = y.name := (name_of_methodNamed B.named B.method).1
  subst hsz
  have hD := hD0.self (sz := s.heap.size)
  have hA : ∀ q : Nat, s.heap.size ≤ q → va_A (zws dA adr cs) s.heap.size q := fun q h => Or.inr h
  rw [lg_entry_eq]
  have hle : (lg_sl (as.map (zv adr))).length ≤ nL := by rw [zargs_len]; exact hn
  have hl := lv_entry (as.map (zv adr)) (n := nL) hle
  exact body (l, p, e, (headSpec (Cond.code y cc nL ret :: zTg) (zrm d mc ms)).room, s, m, (as.map (zv adr)).toArray, below, meth, c, D, dA, adr, va_A (zws dA adr cs) s.heap.size, MQ below (zQ D dA adr (zws dA adr cs) (cs.length + nf) s.heap.size Post) (as.map (zv adr)).toArray s mc ms (va_A (zws dA adr cs) s.heap.size))
    ⟨B.exec, B.bytes, hml, B.returns, hown, hts, B.notSynchronized, hK, hA, hAm, ⟨hd, by show 64 ≤ 64 * d; omega⟩, hM, hnm⟩
    ⟨Nat.le_refl _, Nat.le_refl _, Nat.le_refl _, Nat.le_refl _⟩ ⟨hfr, cs, rfl, rfl⟩ ⟨_, rfl, rfl⟩
    s.heap [] _ hP hD va_S.rf
    ⟨by rw [hml]; show (zent nL as).length = nL; have h9 : (zargs as).length ≤ nL := hn; simp only [zent, List.length_append, List.length_replicate]; omega, _, by rw [hml]; exact hl, fun i v hi => by
      have h1 : (zargs as)[i]? = some (some v) := by
        unfold zent at hi
        rw [List.getElem?_append] at hi
        split at hi
        · exact hi
        · simp [List.getElem?_replicate] at hi
      have h2 := zargs_at adr as 0 i v h1
      rwa [Nat.zero_add] at h2⟩
section ZRET
variable {Z : zCtx} {M : zMth} {k n n1 mc ms pc : Nat} {lv : List (Option Value)} {cs : List zE} {it : zIt} {Post : Option Value → List zE → Prop}
theorem AW.iret {x : Int32} {ty : FieldType} (hZ : zOk Z M) (hE : zEnd Z n1 mc ms Post) (hit : zget M.2.2.2.2.1 pc = some it) (hop : it.2.1 = .ireturn) (hty : M.2.2.2.1 = some ty) (hnar : narrow ty (.int x) = .int x) (hk : k ≤ mc) (hn : n ≤ ms) (hlen : cs.length = n1) (hp : Post (some (.int x)) cs) : AW Z k n pc lv [.int x] cs := by
  obtain ⟨hi, rfl⟩ := zget_mem hit
  obtain ⟨pc, op, len, v, a, b, c, sw⟩ := it
  obtain ⟨l, p, e, R, s, m, args, below, meth, cd, D, dA, adr, A, Q⟩ := Z
  obtain ⟨y, cc, nL, ret, lst, C⟩ := M
  obtain ⟨hx, hb, hml, hr, hown, hts, hlocks, hK0, hA, hAm, hR, hM, hnm⟩ := hZ
  obtain ⟨ws0, rfl, rfl⟩ := hE
  have hdec := hM.dec hi
  have hit2 := hM.itB hi
  dsimp only at hx hb hml hr hown hts hlocks hK0 hA hAm hR hdec hit2 hop hty
  subst hop; subst hty
  have hlen1 : len = 1 := eq_of_beq hit2
  subst hlen1
  intro H locs ls hP hD hS hl
  refine W.widen hk hn ?_
  exact W.zret (v := x) hx hb hr hnar (fun t ht hW => ⟨⟨some (.int x), cs, rfl, hp, hlen, by rw [ht]; exact hP, va_K.moved hW.alike hK0, hD⟩, hS.F ht⟩) hS.2.2 hdec
theorem AW.lret {x : Int64} (hZ : zOk Z M) (hE : zEnd Z n1 mc ms Post) (hit : zget M.2.2.2.2.1 pc = some it) (hop : it.2.1 = .lreturn) (hty : M.2.2.2.1 = some .long) (hk : k ≤ mc) (hn : n ≤ ms) (hlen : cs.length = n1) (hp : Post (some (.long x)) cs) : AW Z k n pc lv [.long x] cs := by
  obtain ⟨hi, rfl⟩ := zget_mem hit
  obtain ⟨pc, op, len, v, a, b, c, sw⟩ := it
  obtain ⟨l, p, e, R, s, m, args, below, meth, cd, D, dA, adr, A, Q⟩ := Z
  obtain ⟨y, cc, nL, ret, lst, C⟩ := M
  obtain ⟨hx, hb, hml, hr, hown, hts, hlocks, hK0, hA, hAm, hR, hM, hnm⟩ := hZ
  obtain ⟨ws0, rfl, rfl⟩ := hE
  have hdec := hM.dec hi
  have hit2 := hM.itB hi
  dsimp only at hx hb hml hr hown hts hlocks hK0 hA hAm hR hdec hit2 hop hty
  subst hop; subst hty
  have hlen1 : len = 1 := eq_of_beq hit2
  subst hlen1
  intro H locs ls hP hD hS hl
  refine W.widen hk hn ?_
  exact W.lret (v := x) hx hb hr (fun t ht hW => ⟨⟨some (.long x), cs, rfl, hp, hlen, by rw [ht]; exact hP, va_K.moved hW.alike hK0, hD⟩, hS.F ht⟩) hS.2.2 hdec
theorem AW.vret (hZ : zOk Z M) (hE : zEnd Z n1 mc ms Post) (hit : zget M.2.2.2.2.1 pc = some it) (hop : it.2.1 = .return_) (hty : M.2.2.2.1 = none) (hk : k ≤ mc) (hn : n ≤ ms) (hlen : cs.length = n1) (hp : Post none cs) : AW Z k n pc lv [] cs := by
  obtain ⟨hi, rfl⟩ := zget_mem hit
  obtain ⟨pc, op, len, v, a, b, c, sw⟩ := it
  obtain ⟨l, p, e, R, s, m, args, below, meth, cd, D, dA, adr, A, Q⟩ := Z
  obtain ⟨y, cc, nL, ret, lst, C⟩ := M
  obtain ⟨hx, hb, hml, hr, hown, hts, hlocks, hK0, hA, hAm, hR, hM, hnm⟩ := hZ
  obtain ⟨ws0, rfl, rfl⟩ := hE
  have hdec := hM.dec hi
  have hit2 := hM.itB hi
  dsimp only at hx hb hml hr hown hts hlocks hK0 hA hAm hR hdec hit2 hop hty
  subst hop; subst hty
  have hlen1 : len = 1 := eq_of_beq hit2
  subst hlen1
  intro H locs ls hP hD hS hl
  refine W.widen hk hn ?_
  exact W.vret hx hb hr (fun t ht hW => ⟨⟨none, cs, rfl, hp, hlen, by rw [ht]; exact hP, va_K.moved hW.alike hK0, hD⟩, hS.F ht⟩) hS.2.2 hdec
end ZRET

-- ===== calls =====
theorem zrho_at {ps : List Nat} {len nf j q : Nat} (h : ps[j]? = some q) : zrho ps len nf j = q := by simp [zrho, h]
theorem zrho_new {ps : List Nat} {len nf i : Nat} (h : i < nf) : zrho ps len nf (ps.length + i) = len + i := by
  have h1 : ps[ps.length + i]? = none := by simp
  have h2 : Nat.blt (ps.length + i) (ps.length + nf) = true := by simp [h]
  unfold zrho
  rw [h1]
  simp only [h2]
  omega
theorem zrho_far {ps : List Nat} {len nf j : Nat} (h : ps.length + nf ≤ j) : zrho ps len nf j = j := by
  have h1 : ps[j]? = none := by simp; omega
  have h2 : Nat.blt j (ps.length + nf) = false := by
    cases h9 : Nat.blt j (ps.length + nf) with
    | false => rfl
    | true => exact absurd (Nat.le_of_ble_eq_true h9) (by omega)
  unfold zrho
  rw [h1]
  simp only [h2]
/-- a world's cells at a callee's places -/
theorem zsub_at {dA : Nat → ClassId} {adr : Nat → Nat} {cs cc : List zE} {ps : List Nat} {nf : Nat} (hps : ps.map (fun q => cs[q]?) = cc.map (fun e => some (zre (zrho ps cs.length nf) e))) {j : Nat} {q : Nat × va_E} (hj : (zws dA (fun i => adr (zrho ps cs.length nf i)) cc)[j]? = some q) : ∃ p, ps[j]? = some p ∧ (zws dA adr cs)[p]? = some q := by
  have hlen : ps.length = cc.length := by
    have h := congrArg List.length hps
    simpa using h
  simp only [zws, List.getElem?_mapIdx, Option.map_eq_some_iff] at hj
  obtain ⟨e, he, rfl⟩ := hj
  have hjl : j < ps.length := by rw [hlen]; exact (List.getElem?_eq_some_iff.mp he).1
  obtain ⟨p, hp⟩ : ∃ p, ps[j]? = some p := ⟨_, List.getElem?_eq_getElem hjl⟩
  have h1 : (ps.map (fun q => cs[q]?))[j]? = some (cs[p]?) := by simp [hp]
  rw [hps] at h1
  simp only [List.getElem?_map, he, Option.map_some, Option.some.injEq] at h1
  refine ⟨p, hp, ?_⟩
  rw [zws_at h1.symm, ze_comp]
  simp only [zrho_at hp]
set_option maxHeartbeats 2000000 in
theorem zjoin_world {D : va_G} {dA : Nat → ClassId} {adr : Nat → Nat} {A : Nat → Prop} {cs cc cc1 : List zE} {ps : List Nat} {nf : Nat} {H H1 : Heap} (hps : ps.map (fun q => cs[q]?) = cc.map (fun e => some (zre (zrho ps cs.length nf) e))) (hnd : ps.Nodup) (hlen1 : cc1.length = cc.length + nf)
    (hP : va_P D zcl (zws dA adr cs) H) (hD : va_D A (zws dA adr cs)) (hfree : ∀ q, va_A (zws dA (fun i => adr (zrho ps cs.length nf i)) cc) H.size q → A q)
    (hP1 : va_P D zcl (zws dA (fun i => adr (zrho ps cs.length nf i)) cc1) H1) (hD1 : va_D (va_A (zws dA (fun i => adr (zrho ps cs.length nf i)) cc) H.size) (zws dA (fun i => adr (zrho ps cs.length nf i)) cc1))
    (hk : ∀ q : Nat, q < H.size → ¬ va_A (zws dA (fun i => adr (zrho ps cs.length nf i)) cc) H.size q → H1[q]? = H[q]?) :
    va_P D zcl (zws dA adr (zjoin cs ps (cc1.map (zre (zrho ps cs.length nf))))) H1 ∧ va_D A (zws dA adr (zjoin cs ps (cc1.map (zre (zrho ps cs.length nf))))) := by
  have hlen : ps.length = cc.length := by
    have h := congrArg List.length hps
    simpa using h
  have hpl : ∀ (j p : Nat), ps[j]? = some p → p < cs.length := fun j p hp => by
    have hjl : j < cc.length := by rw [← hlen]; exact (List.getElem?_eq_some_iff.mp hp).1
    have h1 : (ps.map (fun q => cs[q]?))[j]? = some (cs[p]?) := by simp [hp]
    rw [hps] at h1
    simp only [List.getElem?_map, List.getElem?_eq_getElem hjl, Option.map_some, Option.some.injEq] at h1
    exact (List.getElem?_eq_some_iff.mp h1.symm).1
  -- every cell of the new world: the callee's, or the caller's as it was
  have key : ∀ (i : Nat) (q : Nat × va_E), (zws dA adr (zjoin cs ps (cc1.map (zre (zrho ps cs.length nf)))))[i]? = some q →
      (∃ j, (zws dA (fun i => adr (zrho ps cs.length nf i)) cc1)[j]? = some q ∧ zrho ps cs.length nf j = i ∧ j < cc1.length) ∨ (i ∉ ps ∧ (zws dA adr cs)[i]? = some q) := by
    intro i q hq
    simp only [zws, List.getElem?_mapIdx, Option.map_eq_some_iff] at hq
    obtain ⟨e, he, rfl⟩ := hq
    unfold zjoin at he
    rw [List.getElem?_append] at he
    split at he
    · next hi =>
      rw [zset_len] at hi
      by_cases hin : i ∈ ps
      · left
        obtain ⟨j, hj⟩ := List.getElem?_of_mem hin
        have hjl : j < cc1.length := by
          have := (List.getElem?_eq_some_iff.mp hj).1
          omega
        have h2 : (cc1.map (zre (zrho ps cs.length nf)))[j]? = some (zre (zrho ps cs.length nf) cc1[j]) := by simp [hjl]
        rw [zset_in ps _ cs j i _ hnd hj h2 hi] at he
        cases he
        refine ⟨j, ?_, zrho_at hj, hjl⟩
        rw [zws_at (List.getElem?_eq_getElem hjl), ze_comp]
        simp only [zrho_at hj]
      · right
        rw [zset_out _ _ _ _ hin] at he
        exact ⟨hin, zws_at he⟩
    · next hi =>
      rw [zset_len] at hi
      left
      rw [zset_len, List.getElem?_drop, List.getElem?_map, Option.map_eq_some_iff] at he
      obtain ⟨e1, he1, rfl⟩ := he
      have hjl := (List.getElem?_eq_some_iff.mp he1).1
      have hr : zrho ps cs.length nf (ps.length + (i - cs.length)) = i := by
        rw [zrho_new (by omega)]
        omega
      refine ⟨_, ?_, hr, hjl⟩
      rw [zws_at he1, ze_comp]
      simp only [hr]
  have hinj : ∀ i j : Nat, i < cc1.length → j < cc1.length → ∀ p q, (zws dA (fun i => adr (zrho ps cs.length nf i)) cc1)[i]? = some p → (zws dA (fun i => adr (zrho ps cs.length nf i)) cc1)[j]? = some q → p.1 = q.1 → i = j := fun i j _ _ p q h1 h2 h3 => hD1.1 i j p q h1 h2 h3
  -- a cell of the caller's own stands apart from the callee's
  have hout : ∀ (i : Nat) (q : Nat × va_E), i ∉ ps → (zws dA adr cs)[i]? = some q → q.1 < H.size ∧ ¬ va_A (zws dA (fun i => adr (zrho ps cs.length nf i)) cc) H.size q.1 := by
    intro i q hi hq
    have hlt : q.1 < H.size := by
      have h := hP i q hq
      obtain ⟨a, e⟩ := q
      rcases e with a1 | o
      · exact (Array.getElem?_eq_some_iff.mp h).1
      · obtain ⟨r, -, hob⟩ := h
        obtain ⟨cell, hcell, -⟩ := hob
        exact (Array.getElem?_eq_some_iff.mp hcell).1
    refine ⟨hlt, fun h => ?_⟩
    rcases h with ⟨j, e, hj⟩ | h
    · obtain ⟨p, hp, hq2⟩ := zsub_at hps hj
      have := hD.1 i p q _ hq hq2 rfl
      exact hi (this ▸ List.mem_of_getElem? hp)
    · omega
  refine ⟨fun i q hq => ?_, fun i j p q hp hq hpq => ?_, fun i q hq => ?_⟩
  · rcases key i q hq with ⟨j, hj, -, -⟩ | ⟨hi, hq2⟩
    · exact hP1 j q hj
    · obtain ⟨h1, h2⟩ := hout i q hi hq2
      exact (hP i q hq2).kept (hk _ h1 h2)
  · rcases key i p hp with ⟨i1, hi1, rfl, hl1⟩ | ⟨hi1, hp2⟩ <;> rcases key j q hq with ⟨j1, hj1, rfl, hl2⟩ | ⟨hj1, hq2⟩
    · rw [hinj i1 j1 hl1 hl2 p q hi1 hj1 hpq]
    · have h1 := hD1.2 i1 p hi1
      rw [hpq] at h1
      exact absurd h1 (hout j q hj1 hq2).2
    · have h1 := hD1.2 j1 q hj1
      rw [← hpq] at h1
      exact absurd h1 (hout i p hi1 hp2).2
    · exact hD.1 i j p q hp2 hq2 hpq
  · rcases key i q hq with ⟨j, hj, -, -⟩ | ⟨hi, hq2⟩
    · exact hfree _ (hD1.2 j q hj)
    · exact hD.2 i q hq2
