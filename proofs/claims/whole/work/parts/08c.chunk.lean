/-! ===== worlds in blocks: a call over some of the blocks ===== -/
def zoff (lens : List Nat) (i : Nat) : Nat := (lens.take i).sum
def zpl (lens : List Nat) (cm : List Nat) : List Nat := cm.flatMap (fun c => (List.range (lens.getD c 0)).map (fun j => zoff lens c + j))
def zsetc (X : List (List zE)) (cm : List Nat) (Y : List (List zE)) : List (List zE) := match cm, Y with
  | c :: cm, y :: Y => zsetc (X.set c y) cm Y
  | _, _ => X
theorem zoff_cons {a : Nat} {lens : List Nat} {i : Nat} : zoff (a :: lens) (i + 1) = a + zoff lens i := by simp [zoff]
theorem zflat_at : ∀ (X : List (List zE)) (c j : Nat) (ch : List zE), X[c]? = some ch → j < ch.length → X.flatten[zoff (X.map List.length) c + j]? = ch[j]?
  | [], _, _, _, h, _ => by simp at h
  | x :: X, 0, j, ch, h, hj => by
    simp only [List.getElem?_cons_zero, Option.some.injEq] at h
    subst h
    simp [zoff, List.getElem?_append_left hj]
  | x :: X, c + 1, j, ch, h, hj => by
    simp only [List.getElem?_cons_succ] at h
    rw [List.map_cons, zoff_cons, List.flatten_cons, List.getElem?_append_right (by omega), show x.length + zoff (X.map List.length) c + j - x.length = zoff (X.map List.length) c + j by omega]
    exact zflat_at X c j ch h hj
theorem zset_app (A B : List zE) (q : Nat) (e : zE) : (A ++ B).set (A.length + q) e = A ++ B.set q e := by
  rw [List.set_append_right _ _ (by omega)]
  simp
/-- to set the places of one block is to set the block -/
theorem zset_blk : ∀ (y A ch B : List zE), y.length = ch.length → zset (A ++ (ch ++ B)) ((List.range ch.length).map (fun j => A.length + j)) y = A ++ (y ++ B)
  | [], A, ch, B, h => by
    have : ch = [] := List.length_eq_zero_iff.mp (by simpa using h.symm)
    subst this
    simp [zset]
  | e :: y, A, [], B, h => by simp at h
  | e :: y, A, c :: ch, B, h => by
    have h1 : (List.range (c :: ch).length).map (fun j => A.length + j) = A.length :: (List.range ch.length).map (fun j => (A ++ [e]).length + j) := by
      rw [List.length_cons, List.range_succ_eq_map, List.map_cons, List.map_map]
      simp only [Nat.add_zero, List.cons.injEq, true_and]
      apply List.map_congr_left
      intro j _
      simp only [Function.comp_apply, List.length_append, List.length_singleton]
      omega
    rw [h1, zset]
    have h2 : (A ++ (c :: ch ++ B)).set A.length e = (A ++ [e]) ++ (ch ++ B) := by
      have h3 := zset_app A (c :: ch ++ B) 0 e
      simpa using h3
    rw [h2, zset_blk y (A ++ [e]) ch B (by simpa using h)]
    simp
theorem zset_more : ∀ (ps : List Nat) (es : List zE) (ps2 : List Nat) (es2 cs : List zE), ps.length = es.length → zset cs (ps ++ ps2) (es ++ es2) = zset (zset cs ps es) ps2 es2
  | [], es, ps2, es2, cs, h => by
    have : es = [] := List.length_eq_zero_iff.mp (by simpa using h.symm)
    subst this
    simp [zset]
  | p :: ps, [], ps2, es2, cs, h => by simp at h
  | p :: ps, e :: es, ps2, es2, cs, h => by
    simp only [List.cons_append, zset]
    exact zset_more ps es ps2 es2 _ (by simpa using h)
theorem zset_one {X : List (List zE)} {c : Nat} {ch y : List zE} (hc : X[c]? = some ch) (hy : y.length = ch.length) : zset X.flatten ((List.range ch.length).map (fun j => zoff (X.map List.length) c + j)) y = (X.set c y).flatten := by
  have hlt := (List.getElem?_eq_some_iff.mp hc).1
  have hch := (List.getElem?_eq_some_iff.mp hc).2
  have e1 : X = X.take c ++ ch :: X.drop (c + 1) := by
    rw [← hch, ← List.drop_eq_getElem_cons hlt, List.take_append_drop]
  have e2 : zoff (X.map List.length) c = (X.take c).flatten.length := by
    rw [zoff, ← List.map_take, List.length_flatten]
  rw [e2]
  have e3 : X.flatten = (X.take c).flatten ++ (ch ++ (X.drop (c + 1)).flatten) := by
    conv => lhs; rw [e1]
    simp
  have e4 : (X.set c y).flatten = (X.take c).flatten ++ (y ++ (X.drop (c + 1)).flatten) := by
    rw [List.set_eq_take_append_cons_drop, if_pos hlt]
    simp
  rw [e3, e4]
  exact zset_blk y _ ch _ hy
theorem zset_blocks : ∀ (cm : List Nat) (Y X : List (List zE)), (∀ (i c : Nat), cm[i]? = some c → ∃ ch y, X[c]? = some ch ∧ Y[i]? = some y ∧ y.length = ch.length) → cm.length = Y.length → zset X.flatten (zpl (X.map List.length) cm) Y.flatten = (zsetc X cm Y).flatten
  | [], Y, X, _, hl => by
    have : Y = [] := List.length_eq_zero_iff.mp (by simpa using hl.symm)
    subst this
    simp [zpl, zset, zsetc]
  | c :: cm, [], X, _, hl => by simp at hl
  | c :: cm, y :: Y, X, h, hl => by
    obtain ⟨ch, y', h1, h2, h3⟩ := h 0 c rfl
    simp only [List.getElem?_cons_zero, Option.some.injEq] at h2
    subst h2
    have hlen : (X.map List.length).getD c 0 = ch.length := by
      simp [List.getD_eq_getElem?_getD, h1]
    have e1 : zpl (X.map List.length) (c :: cm) = (List.range ch.length).map (fun j => zoff (X.map List.length) c + j) ++ zpl (X.map List.length) cm := by
      simp only [zpl, List.flatMap_cons, hlen]
    have e2 : (X.set c y).map List.length = X.map List.length := by
      rw [List.map_set]
      apply List.ext_getElem?
      intro i
      rw [List.getElem?_set]
      by_cases hi : c = i
      · subst hi
        rw [if_pos rfl, if_pos (by simpa using (List.getElem?_eq_some_iff.mp h1).1), List.getElem?_map, h1]
        simp [h3]
      · simp [hi]
    rw [e1, List.flatten_cons, zset_more _ _ _ _ _ (by simp [h3]), zset_one h1 h3, zsetc, ← e2]
    refine zset_blocks cm Y (X.set c y) (fun i c2 hi => ?_) (by simpa using hl)
    obtain ⟨ch2, y2, g1, g2, g3⟩ := h (i + 1) c2 hi
    simp only [List.getElem?_cons_succ] at g2
    by_cases hcc : c = c2
    · subst hcc
      rw [h1] at g1
      cases g1
      refine ⟨y, y2, ?_, g2, by omega⟩
      rw [List.getElem?_set]
      simp [(List.getElem?_eq_some_iff.mp h1).1]
    · exact ⟨ch2, y2, by rw [List.getElem?_set_ne hcc]; exact g1, g2, g3⟩
/-- the callee's blocks are among the caller's, its places numbered anew -/
def zblk (X : List (List zE)) (cm : List Nat) (r : Nat → Nat) (Y : List (List zE)) : Prop := cm.map (fun c => X[c]?) = Y.map (fun ch => some (ch.map (zre r)))
theorem zblk_at {X Y : List (List zE)} {cm : List Nat} {r : Nat → Nat} (h : zblk X cm r Y) {i c : Nat} (hi : cm[i]? = some c) : ∃ ch, Y[i]? = some ch ∧ X[c]? = some (ch.map (zre r)) := by
  have hlen : cm.length = Y.length := by
    have h1 := congrArg List.length h
    simpa using h1
  have hil := (List.getElem?_eq_some_iff.mp hi).1
  obtain ⟨ch, hch⟩ : ∃ ch, Y[i]? = some ch := ⟨_, List.getElem?_eq_getElem (by omega)⟩
  have h1 : (cm.map (fun c => X[c]?))[i]? = some X[c]? := by simp [hi]
  unfold zblk at h
  rw [h] at h1
  simp only [List.getElem?_map, hch, Option.map_some, Option.some.injEq] at h1
  exact ⟨ch, hch, h1.symm⟩
theorem zblk_flat : ∀ {cm : List Nat} {X Y : List (List zE)} {r : Nat → Nat}, zblk X cm r Y → (zpl (X.map List.length) cm).map (fun q => X.flatten[q]?) = Y.flatten.map (fun e => some (zre r e))
  | [], X, Y, r, h => by
    have : Y = [] := by
      have h1 := congrArg List.length h
      simpa using h1.symm
    subst this
    rfl
  | c :: cm, X, [], r, h => by
    have h1 := congrArg List.length h
    simp at h1
  | c :: cm, X, ch :: Y, r, h => by
    have h0 : X[c]? = some (ch.map (zre r)) ∧ zblk X cm r Y := by
      unfold zblk at h
      rw [List.map_cons, List.map_cons] at h
      injection h with h1 h2
      exact ⟨h1, h2⟩
    have hlen : (X.map List.length).getD c 0 = ch.length := by
      simp [List.getD_eq_getElem?_getD, h0.1]
    have ih := zblk_flat h0.2
    have e1 : zpl (X.map List.length) (c :: cm) = (List.range ch.length).map (fun j => zoff (X.map List.length) c + j) ++ zpl (X.map List.length) cm := by
      simp only [zpl, List.flatMap_cons, hlen]
    rw [e1, List.map_append, ih, List.flatten_cons, List.map_append]
    congr 1
    apply List.ext_getElem?
    intro j
    simp only [List.getElem?_map]
    by_cases hj : j < ch.length
    · have h2 := zflat_at X c j _ h0.1 (by simpa using hj)
      simp [hj, h2]
    · simp [hj]
section ZCHUNK
variable {Z : zCtx} {M M' : zMth} {k n d d' nf mc mc' ms ms' n0 pc b0 idx np : Nat} {lv : List (Option Value)} {st rest as : List Value} {X Y : List (List zE)} {it : zIt} {Post : Option Value → List zE → Prop}
theorem zchunk_join {r : Nat → Nat} {cm : List Nat} {Y1 : List (List zE)} (hX : zblk X cm r Y) (hY : Y1.map List.length = Y.map List.length) : zjoin X.flatten (zpl (X.map List.length) cm) (Y1.flatten.map (zre r)) = (zsetc X cm (Y1.map (List.map (zre r)))).flatten := by
  have hlen : cm.length = Y.length := by
    have h1 := congrArg List.length hX
    simpa using h1
  have hlen1 : Y1.length = Y.length := by
    have h1 := congrArg List.length hY
    simpa using h1
  have e1 : Y1.flatten.map (zre r) = (Y1.map (List.map (zre r))).flatten := by rw [List.map_flatten]
  have hps := zblk_flat hX
  have hpl : (zpl (X.map List.length) cm).length = Y1.flatten.length := by
    have h1 := congrArg List.length hps
    simp only [List.length_map] at h1
    rw [h1, List.length_flatten, List.length_flatten, hY]
  unfold zjoin
  rw [List.drop_of_length_le (by rw [List.length_map, hpl]; exact Nat.le_refl _), List.append_nil, e1]
  refine zset_blocks cm _ X (fun i c hi => ?_) (by simp [hlen, hlen1])
  obtain ⟨ch, h1, h2⟩ := zblk_at hX hi
  have hil := (List.getElem?_eq_some_iff.mp h1).1
  obtain ⟨y, hy⟩ : ∃ y, Y1[i]? = some y := ⟨_, List.getElem?_eq_getElem (by omega)⟩
  refine ⟨_, y.map (zre r), h2, by simp [hy], ?_⟩
  have h3 : (Y1.map List.length)[i]? = (Y.map List.length)[i]? := by rw [hY]
  simp only [List.getElem?_map, hy, h1, Option.map_some, Option.some.injEq] at h3
  simpa using h3
theorem AW.callVc (hZ : zOk Z M) (hR : zCan Z d mc ms) (hN : zNew Z n0 nf) (hC : Ct M' d' 0 mc' ms' (.ref b0 :: as) Y.flatten Post) (hM' : zMok M')
    (hit : zget M.2.2.2.2.1 pc = some it) (hop : it.2.1 = .invokevirtual idx) (hlk : zLink M.2.2.2.2.2.1 idx M'.1) (hce : zVirt M'.1 np) (hnp : as.length = np)
    (lens cm ps : List Nat) (hlens : X.map List.length = lens) (hpl : zpl lens cm = ps) (hX : zblk X cm (zrho ps lens.sum 0) Y) (hnd : ps.Nodup) (hfar : ps.length ≤ 1000000)
    (hd : d' + 1 ≤ d) (hmL : M'.2.2.1 ≤ 45) (hmc : k + mc' ≤ mc) (hms : n + ms' ≤ ms)
    (hst : st = ((Value.ref b0 :: as).map (zv (zrho ps lens.sum 0))).reverse ++ rest) (hr4 : Nat.ble (zcsum rest) 8 = true)
    {ci : Nat} {fs : List Value} (hrv : X.flatten[zrho ps lens.sum 0 b0]? = some (.inr (ci, fs))) {rc : vw_C} (hrc : zcl[ci]? = some rc) (hrn : rc.1 = M'.1.cls)
    (kk : ∀ (v : Option Value) (cc1 : List zE), Post v cc1 → ∃ Y1 : List (List zE), cc1 = Y1.flatten ∧ Y1.map List.length = Y.map List.length ∧ AW Z (k + mc') (n + ms') (pc + 3) lv ((v.map (zv (zrho ps lens.sum 0))).toList ++ rest) (zsetc X cm (Y1.map (List.map (zre (zrho ps lens.sum 0))))).flatten) :
    AW Z k n pc lv st X.flatten := by
  subst hpl; subst hlens
  have hsum : (X.map List.length).sum = X.flatten.length := by rw [List.length_flatten]
  rw [hsum] at hX hst hrv kk
  refine AW.callV hZ hR hN hC hM' hit hop hlk hce hnp _ (zblk_flat hX) hnd (Or.inl rfl) hfar hd hmL hmc hms hst hr4 hrv hrc hrn (fun v cc1 h _ => ?_)
  obtain ⟨Y1, rfl, h2, h3⟩ := kk v cc1 h
  rw [zchunk_join hX h2]
  exact h3
theorem AW.callSc (hZ : zOk Z M) (hR : zCan Z d mc ms) (hN : zNew Z n0 nf) (hC : Ct M' d' 0 mc' ms' as Y.flatten Post) (hM' : zMok M')
    (hit : zget M.2.2.2.2.1 pc = some it) (hop : it.2.1 = .invokestatic idx) (hlk : zLink M.2.2.2.2.2.1 idx M'.1) (hce : zStat M'.1 np) (hnp : as.length = np)
    (lens cm ps : List Nat) (hlens : X.map List.length = lens) (hpl : zpl lens cm = ps) (hX : zblk X cm (zrho ps lens.sum 0) Y) (hnd : ps.Nodup) (hfar : ps.length ≤ 1000000)
    (hd : d' + 1 ≤ d) (hmL : M'.2.2.1 ≤ 45) (hmc : k + mc' ≤ mc) (hms : n + ms' ≤ ms)
    (hst : st = (as.map (zv (zrho ps lens.sum 0))).reverse ++ rest) (hr4 : Nat.ble (zcsum rest) 8 = true)
    (kk : ∀ (v : Option Value) (cc1 : List zE), Post v cc1 → ∃ Y1 : List (List zE), cc1 = Y1.flatten ∧ Y1.map List.length = Y.map List.length ∧ AW Z (k + mc') (n + ms') (pc + 3) lv ((v.map (zv (zrho ps lens.sum 0))).toList ++ rest) (zsetc X cm (Y1.map (List.map (zre (zrho ps lens.sum 0))))).flatten) :
    AW Z k n pc lv st X.flatten := by
  subst hpl; subst hlens
  have hsum : (X.map List.length).sum = X.flatten.length := by rw [List.length_flatten]
  rw [hsum] at hX hst kk
  refine AW.callS hZ hR hN hC hM' hit hop hlk hce hnp _ (zblk_flat hX) hnd (Or.inl rfl) hfar hd hmL hmc hms hst hr4 (fun v cc1 h _ => ?_)
  obtain ⟨Y1, rfl, h2, h3⟩ := kk v cc1 h
  rw [zchunk_join hX h2]
  exact h3
end ZCHUNK
