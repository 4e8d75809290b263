/-! standing at pc with an exception thrown -/
def AX (Z : zCtx) (k n : Nat) (pc : Nat) (lv : List (Option Value)) (st : List Value) (cs : List zE) : Prop := match Z with
  | (l, p, e, R, s, m, args, below, meth, c, D, dA, adr, A, Q) => ∀ (H : Heap) (locs : List Loc) (ls : Array Slot) (q : Nat) (ce : Cell), va_P D zcl (zws dA adr cs) H → va_D A (zws dA adr cs) → va_S A s.heap H locs → zLv ls c.maxLocals adr lv → H[q]? = some ce → ce.vm = .none → s.vm.findClass zNX = some ce.cls → vx_W p l e R s m args below meth c H locs k n Q (F0 m pc ls (st.map (zv adr))) q
section ZLX
variable {Z : zCtx} {M M' : zMth} {k n d d' nf mc mc' ms ms' n0 n1 pc b0 idx np : Nat} {lv : List (Option Value)} {st rest as : List Value} {cb cs r9 : List zE} {it : zIt} {Post : Option Value → List zE → Prop} {PostX : List zE → Prop}
set_option maxHeartbeats 2000000 in
/-- a call that answers or throws, over the first cells of the world -/
theorem AWL.callXP (hZ : zOkL Z M) (hR : zCan Z d mc ms) (hT : zThrL Z) (hC : CtX M' d' mc' ms' (.ref b0 :: as) cb Post PostX) (hM' : zMok M')
    (hit : zget M.2.2.2.2.1 pc = some it) (hop : it.2.1 = .invokevirtual idx) (hlk : Cond.methodLink M.2.2.2.2.2.1 idx M'.1 ∈ zTg) (hce : zVirt M'.1 np) (hnp : as.length = np) (hfar : cb.length ≤ 1000000)
    (hd : d' + 1 ≤ d) (hmL : M'.2.2.1 ≤ 45) (hmc : k + mc' ≤ mc) (hms : n + ms' ≤ ms) (hst : st = (Value.ref b0 :: as).reverse ++ rest) (hr4 : Nat.ble (zcsum rest) 8 = true)
    {ci : Nat} {fs : List Value} (hrv : cb[b0]? = some (.inr (ci, fs))) {rc : vw_C} (hrc : zcl[ci]? = some rc) (hrn : rc.1 = M'.1.cls)
    (kx : ∀ cc1 : List zE, PostX cc1 → cc1.length = cb.length → AX Z (k + mc') (n + ms') pc lv rest (cc1 ++ r9))
    (kk : ∀ (v : Option Value) (cc1 : List zE), Post v cc1 → cc1.length = cb.length → AW Z (k + mc') (n + ms') (pc + 3) lv (v.toList ++ rest) (cc1 ++ r9)) : AW Z k n pc lv st (cb ++ r9) := by
  obtain ⟨hi, rfl⟩ := zget_mem hit
  obtain ⟨pc, op, len, v, a, b, c, sw⟩ := it
  obtain ⟨l, p, e, R, s, m, args, below, meth, cd, D, dA, adr, A, Q⟩ := Z
  obtain ⟨y, cb9, nL, ret, lst, C⟩ := M
  obtain ⟨y', cb', nL', ret', lst', C'⟩ := M'
  obtain ⟨hx, hb, hml, hr, hown, hts, hlocks, hK0, hA, hAm, hR0, hM, hnm⟩ := hZ
  obtain ⟨hRf, hRl, hRc, hRs⟩ := hR
  obtain ⟨hXA, hl9⟩ := hT
  have hdec := hM.dec hi
  have hit2 := hM.itB hi
  dsimp only at hx hb hml hr hown hts hlocks hK0 hA hAm hR0 hdec hit2 hop hlk hce hmL hrn
  subst hop; subst hst
  simp only [zitB, beq_iff_eq] at hit2
  subst hit2
  intro H locs ls hP hD hS hl T hT X
  have hid : ∀ j, zrho (List.range cb.length) (cb ++ r9).length 0 j = j := zrho_idn _ _
  have hadr : (fun i => adr (zrho (List.range cb.length) (cb ++ r9).length 0 i)) = adr := funext fun i => by rw [hid]
  have hbl : b0 < cb.length := (List.getElem?_eq_some_iff.mp hrv).1
  have hps : (List.range cb.length).map (fun q => (cb ++ r9)[q]?) = cb.map (fun e => some (zre (zrho (List.range cb.length) (cb ++ r9).length 0) e)) := by
    apply List.ext_getElem?
    intro j
    simp only [List.getElem?_map, zre_id hid]
    by_cases hj : j < cb.length
    · rw [List.getElem?_range hj, Option.map_some, List.getElem?_append_left hj, List.getElem?_eq_getElem hj, Option.map_some]
    · rw [List.getElem?_eq_none (by simpa using Nat.le_of_not_lt hj), List.getElem?_eq_none (Nat.le_of_not_lt hj)]
      rfl
  have hfree := zcall_free (nf := 0) hps hA hD hS
  rw [hadr] at hfree
  have hMet := hC l D dA adr H.size hl9
  have hcode : Cond.code y' cb' nL' ret' ∈ zTg := hM'.2.2.2.2.1
  obtain ⟨⟨hini, hdd⟩, hinst, hsel⟩ := hce
  have hroom : (zrm d' mc' ms').frames + 1 ≤ R.frames ∧ 8 + (nL' + 11) + (zrm d' mc' ms').locals ≤ R.locals := ⟨by show d' + 1 ≤ R.frames; omega, by show 8 + (nL' + 11) + 64 * d' ≤ R.locals; omega⟩
  have e2 : ((Value.ref b0 :: as).reverse ++ rest).map (zv adr) = (as.map (zv adr)).reverse ++ .ref (adr b0) :: rest.map (zv adr) := by
    simp only [List.reverse_cons, List.append_assoc, List.map_append, List.map_reverse, List.singleton_append, List.map_cons]
    rfl
  obtain ⟨cellB, hcB, hoB, hclB⟩ := va_recv hK0 hP hrc (zws_at (dA := dA) (adr := adr) (show (cb ++ r9)[b0]? = some (.inr (ci, fs)) by rw [List.getElem?_append_left hbl]; exact hrv))
  have hpre : PreV s H y'.cls (adr b0) (va_Pc ((Value.ref b0 :: as).map (zv adr)) (zPreX D dA adr cb H.size)) (as.map (zv adr)) :=
    ⟨zPreX_blind, ⟨cellB, hcB, hoB, by rw [← hrn]; exact hclB⟩, fun U hU hW => by
      obtain ⟨g1, g2⟩ := zcall_pre (a := Value.ref b0 :: as) hps List.nodup_range (by simpa using hfar) hK0 hAm hP hD hS (by rw [hadr]; exact hfree) hU hW
      rw [hadr] at g1 g2
      exact ⟨g1, g2, by rw [hU]; exact hXA.moved hW (fun a h1 h2 => hS.2.1 a h1 h2) hfree⟩⟩
  have hsz : ls.size = nL := by rw [hl.2.choose_spec.1.1, hml]
  have h8 := zcat_sum (adr := adr) hr4
  have hrun := vx_runV (p := p) (l := l) (e := e) (below := below) (meth := meth) (As := as.map (zv adr)) (index := idx) (rest := rest.map (zv adr)) (g := F0 m pc ls (((Value.ref b0 :: as).reverse ++ rest).map (zv adr))) (locs := locs) (cells := k) (slots := n) (H := H) ⟨hx, hb, hml, hown, hts⟩ hMet ⟨callB_of np hts (zTg_cons hcode) rfl rfl rfl (hts _ hini) (hts _ hlk) hdd hroom, hts _ hinst, hts _ hsel⟩ hpre rfl (by simpa using hnp) hsz e2 (lv_room h8) hdec ⟨by omega, by omega⟩
  have hjoin : ∀ (cc1 : List zE) (H1 : Heap), cc1.length = cb.length → va_P D zcl (zws dA adr cc1) H1 → va_D (va_A (zws dA adr cb) H.size) (zws dA adr cc1) → (∀ q : Nat, q < H.size → ¬ va_A (zws dA adr cb) H.size q → H1[q]? = H[q]?) → va_P D zcl (zws dA adr (cc1 ++ r9)) H1 ∧ va_D A (zws dA adr (cc1 ++ r9)) := by
    intro cc1 H1 h1 h2 h3 h4
    have h9 := zjoin_world (nf := 0) (cc1 := cc1) hps List.nodup_range (by omega) hP hD (by rw [hadr]; exact hfree) (by rw [hadr]; exact h2) (by rw [hadr]; exact h3) (by rw [hadr]; exact h4)
    rw [zres_id hid, zjoin_pre h1] at h9
    exact h9
  rcases hrun T hT X with ⟨v, st0, t, T', Lo, e1, X', hL, e3, e4, ⟨⟨v1, cc1, ho, hpost, hlen1, hP1, hK1, hD1⟩, hF1, hF2⟩, hgo⟩ | ⟨q, st0, t, T', Lo, E, ce, e1, X', hL, e3, e4, ⟨hE, ⟨cc1, hpx, hlen1, hP1, hD1⟩, hF1, hF2⟩, hce, hcv, hcl, hst⟩
  · have hv : v = v1.map (zv adr) := by injection ho
    rw [e1] at hF1 hF2
    obtain ⟨hP2, hD2⟩ := hjoin cc1 t.heap hlen1 hP1 hD1 hF2
    have hS2 : va_S A s.heap t.heap (locs ++ Lo) := by
      refine ⟨Nat.le_trans hS.1 hF1, fun q h1 h2 => ?_, fun q hq => ?_⟩
      · rw [hF2 q (Nat.lt_of_lt_of_le h1 hS.1) (fun h9 => h2 (hfree q h9))]
        exact hS.2.1 q h1 h2
      · rcases List.mem_append.mp hq with h | h
        · exact hS.2.2 q h
        · exact hfree _ (hL q h)
    obtain ⟨t2, a1, a2⟩ := kk v1 cc1 hpost hlen1 t.heap (locs ++ Lo) ls hP2 hD2 hS2 hl T' e3 X'
    refine ⟨t2, hgo _ ?_, a2⟩
    have e9 : v.toList ++ rest.map (zv adr) = (v1.toList ++ rest).map (zv adr) := by
      rw [hv]
      cases v1 with
      | none => rfl
      | some w => simp
    show Steps p.tables e below (T'.setTop { method := m, pc := pc + 3, locals := ls, stack := v.toList ++ rest.map (zv adr), locked := none }) t2
    rw [e9]
    exact a1
  · rw [e1] at hF1 hF2
    obtain ⟨hP2, hD2⟩ := hjoin cc1 t.heap hlen1 hP1 hD1 hF2
    have hS2 : va_S A s.heap t.heap (locs ++ Lo) := by
      refine ⟨Nat.le_trans hS.1 hF1, fun q h1 h2 => ?_, fun q hq => ?_⟩
      · rw [hF2 q (Nat.lt_of_lt_of_le h1 hS.1) (fun h9 => h2 (hfree q h9))]
        exact hS.2.1 q h1 h2
      · rcases List.mem_append.mp hq with h | h
        · exact hS.2.2 q h
        · exact hfree _ (hL q h)
    subst hE
    obtain ⟨t2, a1, a2⟩ := kx cc1 hpx hlen1 t.heap (locs ++ Lo) ls q ce hP2 hD2 hS2 hl hce hcv hcl T' e3 X'
    exact ⟨t2, hst.trans a1, a2⟩
end ZLX
