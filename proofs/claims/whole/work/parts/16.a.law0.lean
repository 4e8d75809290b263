/-! ===== the law ===== -/
def R_law : String := "BorrowedLivesLaw"
def lw_P (b : Addr) (xs : List Int32) (args : Array Value) (s : State) : Prop := args = #[.ref b] ∧ s.IntsAt b xs ∧ xs.length ≤ 3584 ∧ (Jvm.Cond.and given_1 narrow_1).before args s = true
def lw_Q (_ : Array Value) (s : State) (o : Outcome) (t : State) : Prop := o = .returned (some (.int 1)) ∧ Framed s o t [] 601024 7293033
def lw_Z (below : List Frame) (a : Array Value) (s : State) : State → Prop := fun t => ∃ o, t.status = .running ∧ Ended t below o ∧ lw_Q a s o t
/-- the law's own end, with 1 on the stack, nothing written that was there before, its room as the claim has it -/
theorem lw_ret {p : Program} {l : Launch} {e : Env} {s : State} {m : MethodId} {below : List Frame} {meth : Method} {c : Code} {b : Nat} (hx : p.tables.exec = Jvm.exec) (hb : c.code = code) (hr : meth.sig.returnType = ret) (hlocks : meth.locks = false) {pc : Nat} {H : Heap} {ls : Array Slot} (hdg : decode code pc = .ok (.ireturn, 1)) : W p l e room_1 s m #[Value.ref b] below meth c H [] 601024 7293033 (lw_Z below #[Value.ref b] s) (F0 m pc ls [.int 1]) := by
  intro T hT X
  obtain ⟨fs, hret, hrun, hended, hW, hframe⟩ := X.leave (v := some (.int 1)) (hlocks := hlocks) (fun h => by rw [hr] at h; cases h)
  have hmeth' : T.vm.method? m = some meth := X.method'
  refine ⟨T.setFrames fs, ?_, .returned (some (.int 1)), hrun, hended, rfl, ⟨_, rfl⟩, hW, hframe⟩
  jvm_step X.here [X.here.top, hx, hb, hdg, hmeth', hr, ret, narrow_b1]
  (try refine ⟨rfl, ?_⟩); (try refine ⟨rfl, ?_⟩)
  first | (intro acts; rw [hret _ acts rfl rfl rfl]) | rw [hret _ _ rfl rfl rfl]
  exact Steps.refl _
/-- what holds at the law's entry: the machine, the code, the tables' words (any of lw_tbl by 'hts w (by decide +kernel)'), the script of L ints xs at the cell b, what the Statement gives of the start (any of its parts by flat_of_before) -/
def lw_At (p : Program) (s : State) (m : MethodId) (meth : Method) (c : Code) (b L : Nat) (xs : Nat → Int32) : Prop :=
  p.tables.exec = Jvm.exec ∧ c.code = code ∧ meth.sig.returnType = ret ∧ c.maxLocals = 7 ∧ s.vm.findClass R_law = some m.cls ∧ (∀ w ∈ lw_tbl, w.before #[Value.ref b] s = true) ∧ va_X b L xs s s.heap ∧ b < s.heap.size ∧ meth.locks = false ∧ (Jvm.Cond.and given_1 narrow_1).before #[Value.ref b] s = true
def zLM (l : List zIt) : zMth := (x, code, 7, ret, l, zCL)
theorem zOkL.re {Z : zCtx} {l1 l2 : List zIt} (hZ : zOkL Z (zLM l1)) (h : zMokL (zLM l2)) : zOkL Z (zLM l2) := by
  obtain ⟨l, p, e, R, s, m, args, below, meth, cd, D, dA, adr, A, Q⟩ := Z
  obtain ⟨hx, hb, hml, hr, hown, hts, hlocks, hK0, hA, hAm, hR0, hM, hnm⟩ := hZ
  exact ⟨hx, hb, hml, hr, hown, hts, hlocks, hK0, hA, hAm, hR0, h, hnm⟩
/-- the script stands where it stood -/
def zScr (Z : zCtx) (L : Nat) (xs : Nat → Int32) : Prop := match Z with
  | (_, _, _, _, s, _, _, _, _, _, _, _, adr, A, _) => va_X (adr 2000000) L xs s s.heap ∧ adr 2000000 < s.heap.size ∧ ¬ A (adr 2000000)
section ZLAW0
variable {Z : zCtx} {M : zMth} {k n pc L t : Nat} {xs : Nat → Int32} {lv : List (Option Value)} {st : List Value} {cs : List zE} {it : zIt}
theorem AWL.sld {x : Int32} (hZ : zOkL Z M) (hS : zScr Z L xs) (hit : zget M.2.2.2.2.1 pc = some it) (hop : it.2.1 = .iaload) (hx9 : x = nI t) (ht : t < L) (hL : L ≤ 3584)
    (kk : AW Z k n (pc + 1) lv (.int (xs t) :: st) cs) : AW Z k n pc lv (.int x :: .ref 2000000 :: st) cs := by
  obtain ⟨hi, rfl⟩ := zget_mem hit
  obtain ⟨pc, op, len, v, a, b, c, sw⟩ := it
  obtain ⟨l, p, e, R, s, m, args, below, meth, cd, D, dA, adr, A, Q⟩ := Z
  obtain ⟨y, cb, nL, ret, lst, Cc⟩ := M
  obtain ⟨hx, hb, hml, hr, hown, hts, hlocks, hK0, hA, hAm, hR0, hM, hnm⟩ := hZ
  obtain ⟨h1, h2, h3⟩ := hS
  have hdec := hM.dec hi
  have hit2 := hM.itB hi
  dsimp only at hx hb hml hr hown hts hlocks hK0 hA hAm hR0 hdec hit2 hop
  subst hop; subst hx9
  have hlen1 : len = 1 := eq_of_beq hit2
  subst hlen1
  intro H locs ls hP hD hS9 hl
  have e1 : (nI t).toNatClampNeg = t := nI_clamp (by omega)
  have hin : vp_in (nI t) L := by
    intro h9
    rcases h9 with h9 | h9
    · rw [Int32.lt_iff_toInt_lt, nI_toInt (by omega)] at h9
      have h0 : (0 : Int32).toInt = 0 := by decide
      omega
    · rw [e1] at h9
      omega
  refine va_sld hx hb h1 h2 h3 hS9 hin hdec ?_
  rw [e1]
  exact kk H locs ls hP hD hS9 hl
theorem AWL.slen (hZ : zOkL Z M) (hS : zScr Z L xs) (hit : zget M.2.2.2.2.1 pc = some it) (hop : it.2.1 = .arraylength)
    (kk : AW Z k n (pc + 1) lv (.int (nI L) :: st) cs) : AW Z k n pc lv (.ref 2000000 :: st) cs := by
  obtain ⟨hi, rfl⟩ := zget_mem hit
  obtain ⟨pc, op, len, v, a, b, c, sw⟩ := it
  obtain ⟨l, p, e, R, s, m, args, below, meth, cd, D, dA, adr, A, Q⟩ := Z
  obtain ⟨y, cb, nL, ret, lst, Cc⟩ := M
  obtain ⟨hx, hb, hml, hr, hown, hts, hlocks, hK0, hA, hAm, hR0, hM, hnm⟩ := hZ
  obtain ⟨h1, h2, h3⟩ := hS
  have hdec := hM.dec hi
  have hit2 := hM.itB hi
  dsimp only at hx hb hml hr hown hts hlocks hK0 hA hAm hR0 hdec hit2 hop
  subst hop
  have hlen1 : len = 1 := eq_of_beq hit2
  subst hlen1
  intro H locs ls hP hD hS9 hl
  exact va_slen hx hb h1 h2 h3 hS9 hdec (kk H locs ls hP hD hS9 hl)
theorem zsw_all {x : Int32} {K : Nat → Prop} {d : Nat} : ∀ {l : List (Int32 × Nat)}, (∀ q ∈ l, K q.2) → K d → zsw x K d l
  | [], _, h => h
  | q :: _, h1, h2 => ⟨fun _ => h1 q List.mem_cons_self, fun _ => zsw_all (fun r hr => h1 r (List.mem_cons_of_mem _ hr)) h2⟩
/-- a call of a method with a table of its own, in the same world -/
theorem AWL.callW {M' : zMth} {hh : List (Nat × Nat × Nat × Nat)} {d d' mc mc' ms ms' idx np : Nat} {as rest : List Value} {Post : Option Value → List zE → Prop} (hZ : zOkL Z M) (hR : zCan Z d mc ms) (hT : zThrL Z) (hC : CtW M' hh d' mc' ms' as cs Post) (hcode : Cond.codeWith M'.1 M'.2.1 M'.2.2.1 M'.2.2.2.1 hh ∈ zTg)
    (hit : zget M.2.2.2.2.1 pc = some it) (hop : it.2.1 = .invokestatic idx) (hlk : Cond.methodLink M.2.2.2.2.2.1 idx M'.1 ∈ zTg) (hce : zStat M'.1 np) (hnp : as.length = np) (hfar : cs.length ≤ 1000000)
    (hd : d' + 1 ≤ d) (hmL : M'.2.2.1 ≤ 45) (hmc : k + mc' ≤ mc) (hms : n + ms' ≤ ms) (hst : st = as.reverse ++ rest) (hr4 : Nat.ble (zcsum rest) 8 = true)
    (kk : ∀ (v : Option Value) (cc1 : List zE), Post v cc1 → AW Z (k + mc') (n + ms') (pc + 3) lv (v.toList ++ rest) cc1) : AW Z k n pc lv st cs := by
  obtain ⟨hi, rfl⟩ := zget_mem hit
  obtain ⟨pc, op, len, v, a, b, c, sw⟩ := it
  obtain ⟨l, p, e, R, s, m, args, below, meth, cd, D, dA, adr, A, Q⟩ := Z
  obtain ⟨y, cb9, nL, ret, lst, C⟩ := M
  obtain ⟨y', cb', nL', ret', lst', C'⟩ := M'
  obtain ⟨hx, hb, hml, hr, hown, hts, hlocks, hK0, hA, hAm, hR0, hM, hnm⟩ := hZ
  obtain ⟨hRf, hRl, hRc, hRs⟩ := hR
  obtain ⟨hXA, hl9⟩ := hT
  have hdec := hM.dec hi
  have hit2 := hM.itB hi
  dsimp only at hx hb hml hr hown hts hlocks hK0 hA hAm hR0 hdec hit2 hop hlk hce hmL hcode
  subst hop; subst hst
  simp only [zitB, Bool.and_eq_true, beq_iff_eq] at hit2
  obtain ⟨rfl, -⟩ := hit2
  intro H locs ls hP hD hS hl T hT X
  have hid : ∀ j, zrho (List.range cs.length) cs.length 0 j = j := zrho_idn _ _
  have hadr : (fun i => adr (zrho (List.range cs.length) cs.length 0 i)) = adr := funext fun i => by rw [hid]
  have hps : (List.range cs.length).map (fun q => cs[q]?) = cs.map (fun e => some (zre (zrho (List.range cs.length) cs.length 0) e)) := by
    apply List.ext_getElem?
    intro j
    simp only [List.getElem?_map, zre_id hid]
    by_cases hj : j < cs.length
    · rw [List.getElem?_range hj, Option.map_some, List.getElem?_eq_getElem hj, Option.map_some]
    · rw [List.getElem?_eq_none (by simpa using Nat.le_of_not_lt hj), List.getElem?_eq_none (Nat.le_of_not_lt hj)]
      rfl
  have hfree := zcall_free (nf := 0) hps hA hD hS
  have hMet := hC l D dA adr H.size hl9
  obtain ⟨⟨hini, hdd⟩, hstt⟩ := hce
  have hroom : (zrm d' mc' ms').frames + 1 ≤ R.frames ∧ 8 + (nL' + 11) + (zrm d' mc' ms').locals ≤ R.locals := ⟨by show d' + 1 ≤ R.frames; omega, by show 8 + (nL' + 11) + 64 * d' ≤ R.locals; omega⟩
  have e2 : (as.reverse ++ rest).map (zv adr) = (as.map (zv adr)).reverse ++ rest.map (zv adr) := by simp
  have hpre : PreS s H (va_Pc (as.map (zv adr)) (zPreX D dA adr cs H.size)) (as.map (zv adr)) :=
    ⟨zPreX_blind, fun U hU hW => by
      obtain ⟨g1, g2⟩ := zcall_pre (a := as) hps List.nodup_range (by simpa using hfar) hK0 hAm hP hD hS hfree hU hW
      rw [hadr] at g1 g2
      rw [hadr] at hfree
      exact ⟨g1, g2, by rw [hU]; exact hXA.moved hW (fun a h1 h2 => hS.2.1 a h1 h2) hfree⟩⟩
  have hsz : ls.size = nL := by rw [hl.2.choose_spec.1.1, hml]
  have h8 := zcat_sum (adr := adr) hr4
  have ht0 : ∀ (w : Cond), w ∈ zTg → GoodIn zTg [w] := fun w hw v hv => by
    rw [List.mem_singleton.mp hv]; exact zTg_good _ hw
  have hrun := vx_runSW (p := p) (l := l) (e := e) (below := below) (meth := meth) (As := as.map (zv adr)) (index := idx) (rest := rest.map (zv adr)) (g := F0 m pc ls ((as.reverse ++ rest).map (zv adr))) (locs := locs) (cells := k) (slots := n) (H := H) ⟨hx, hb, hml, hown, hts⟩ hMet
    (vx_cwSW (args := args) np hts (fun w hw => (by
      unfold va_wsS at hw
      rcases List.mem_append.mp hw with h | h
      · rcases List.mem_cons.mp h with rfl | h
        · exact zTg_good _ hlk
        · rcases List.mem_cons.mp h with rfl | h
          · exact zTg_good _ hstt
          · rcases List.mem_cons.mp h with rfl | h
            · exact zTg_good _ hini
            · cases h
      · exact zTg_cons hcode w h)) rfl rfl rfl hdd hroom) hpre rfl (by simpa using hnp) hsz e2 (lv_room h8) hdec ⟨by omega, by omega⟩
  refine zcall_go (nf := 0) (rest := rest) (mc := mc') (ms := ms') (Post := Post) (a := (as.map (zv (fun i => adr (zrho (List.range cs.length) cs.length 0 i)))).toArray) hps List.nodup_range hfree hP hD hS hl hT X ?_ (fun v cc1 h hl1 => ?_)
  · rw [hadr]
    exact hrun
  · have e1 : v.map (zv (zrho (List.range cs.length) cs.length 0)) = v := by
      cases v with
      | none => rfl
      | some w => rw [Option.map_some, zv_id hid]
    rw [zres_id hid, e1, zjoin_all _ _ (by omega)]
    exact kk v cc1 h
end ZLAW0
theorem zcmp_self (x : Int64) : lg_cmp x x = 0 := by simp [lg_cmp]
theorem AWL.lld {Z : zCtx} {M : zMth} {k n pc : Nat} {lv : List (Option Value)} {st : List Value} {cs : List zE} {it : zIt} {i : Int32} {q N : Nat} {f : Nat → Int64} (hZ : zOkL Z M) (hit : zget M.2.2.2.2.1 pc = some it) (hop : it.2.1 = .laload) (hq : cs[q]? = some (.inl (1, N, .inr (.inl f)))) (hin : vp_in i N) (hcl : zRoom Z k n)
    (kk : AW Z k n (pc + 1) lv (.long (f i.toNatClampNeg) :: st) cs) : AW Z k n pc lv (.int i :: .ref q :: st) cs := by
  refine AWL.one hZ hcl hit ?_
  obtain ⟨pc, op, len, v, a, b, c, sw⟩ := it
  dsimp only at hop
  subst hop
  unfold zstep
  simp only [hq]
  exact ⟨hin, kk⟩
