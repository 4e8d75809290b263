/-! ===== the law's world, and its calls ===== -/
theorem zrho_idn (n len j : Nat) : zrho (List.range n) len 0 j = j := by
  by_cases h : j < n
  · exact zrho_at (by simp [h])
  · exact zrho_far (by simp; omega)
def zsh (pl n j : Nat) : Nat := match Nat.blt j n with
  | true => pl + j
  | false => j
theorem zrho_sh (pl n len j : Nat) : zrho ((List.range n).map (fun i => pl + i)) len 0 j = zsh pl n j := by
  unfold zsh
  by_cases h : j < n
  · have h1 : Nat.blt j n = true := by simp [h]
    rw [h1]
    exact zrho_at (by simp [h])
  · have h1 : Nat.blt j n = false := by
      cases h9 : Nat.blt j n with
      | false => rfl
      | true => exact absurd (Nat.le_of_ble_eq_true h9) (by omega)
    rw [h1]
    exact zrho_far (by simp; omega)
theorem zjoin_pre {cb r9 es : List zE} (h : es.length = cb.length) : zjoin (cb ++ r9) (List.range cb.length) es = es ++ r9 := by
  have h1 := zset_blk es [] cb r9 h
  have h2 : (List.range cb.length).map (fun j => ([] : List zE).length + j) = List.range cb.length := by
    rw [List.map_congr_left (g := id) (fun j _ => by simp), List.map_id]
  rw [h2] at h1
  unfold zjoin
  rw [List.drop_of_length_le (by rw [List.length_range, h]; exact Nat.le_refl _), List.append_nil]
  exact h1
theorem zjoin_mid {pre mid r9 es : List zE} (h : es.length = mid.length) : zjoin (pre ++ (mid ++ r9)) ((List.range mid.length).map (fun j => pre.length + j)) es = pre ++ (es ++ r9) := by
  unfold zjoin
  rw [List.drop_of_length_le (by rw [List.length_map, List.length_range, h]; exact Nat.le_refl _), List.append_nil]
  exact zset_blk es pre mid r9 h
def zW (cb : List zE) (w : VR) (o : Nat → Int64) : List zE := cb ++ (kR 272 w ++ [.inl (1, 1, .inr (.inl o))])
theorem zRel.len {cb : List zE} {w : VR} (h : zRel cb w) : cb.length = 272 := by
  obtain ⟨v0, v1, v2, v3, v4, v5, v6, v7, v8, v9, v10, v11, v13, v17, v18, v19, v20, und, mls, mts, P, L, g, rfl, -⟩ := h
  exact (zfl_len (X := zBX v0 v1 v2 v3 v4 v5 v6 v7 v8 v9 v10 v11 v13 v17 v18 v19 v20 und mls mts) (lens := [1, 5, 8, 6, 1, 8, 6, 4, 4, 3, 8, 8, 1, 4, 1, 1, 1, 5, 8, 1, 4, 8, 8, 8, 8, 8, 8, 8, 8, 8, 8, 8, 8, 8, 8, 8, 8, 8, 8, 4, 8, 4, 8, 4, 8, 4]) rfl).trans (by decide)
theorem zRel.recv {cb : List zE} {w : VR} (h : zRel cb w) : ∃ fs : List Value, cb[0]? = some (.inr (11, fs)) := by
  obtain ⟨v0, v1, v2, v3, v4, v5, v6, v7, v8, v9, v10, v11, v13, v17, v18, v19, v20, und, mls, mts, P, L, g, rfl, -⟩ := h
  exact ⟨_, rfl⟩
def zThrL (Z : zCtx) : Prop := match Z with
  | (l, _, _, _, s, _, _, _, _, _, _, _, _, A, _) => zXA A s s.heap ∧ l.stackTraces = false
theorem AW.wide {Z : zCtx} {k n k1 n1 pc : Nat} {lv : List (Option Value)} {st : List Value} {cs : List zE} (hk : k ≤ k1) (hn : n ≤ n1) (h : AW Z k1 n1 pc lv st cs) : AW Z k n pc lv st cs := by
  obtain ⟨l, p, e, R, s, m, args, below, meth, c, D, dA, adr, A, Q⟩ := Z
  intro H locs ls hP hD hS hl
  exact W.widen hk hn (h H locs ls hP hD hS hl)
section ZLC
variable {Z : zCtx} {M M' : zMth} {k n d d' nf mc mc' ms ms' n0 n1 pc b0 idx np : Nat} {lv : List (Option Value)} {st rest as : List Value} {cb cs r9 : List zE} {it : zIt} {Post : Option Value → List zE → Prop} {PostX : List zE → Prop}
/-- a call over the first cells of the world -/
theorem AWL.callP (hZ : zOkL Z M) (hR : zCan Z d mc ms) (hN : zNew Z n0 nf) (hC : Ct M' d' 0 mc' ms' (.ref b0 :: as) cb Post) (hM' : zMok M')
    (hit : zget M.2.2.2.2.1 pc = some it) (hop : it.2.1 = .invokevirtual idx) (hlk : zLink M.2.2.2.2.2.1 idx M'.1) (hce : zVirt M'.1 np) (hnp : as.length = np) (hfar : cb.length ≤ 1000000)
    (hd : d' + 1 ≤ d) (hmL : M'.2.2.1 ≤ 45) (hmc : k + mc' ≤ mc) (hms : n + ms' ≤ ms) (hst : st = (Value.ref b0 :: as).reverse ++ rest) (hr4 : Nat.ble (zcsum rest) 8 = true)
    {ci : Nat} {fs : List Value} (hrv : cb[b0]? = some (.inr (ci, fs))) {rc : vw_C} (hrc : zcl[ci]? = some rc) (hrn : rc.1 = M'.1.cls)
    (kk : ∀ (v : Option Value) (cc1 : List zE), Post v cc1 → cc1.length = cb.length → AW Z (k + mc') (n + ms') (pc + 3) lv (v.toList ++ rest) (cc1 ++ r9)) : AW Z k n pc lv st (cb ++ r9) := by
  have hid : ∀ j, zrho (List.range cb.length) (cb ++ r9).length 0 j = j := zrho_idn _ _
  have hb : b0 < cb.length := (List.getElem?_eq_some_iff.mp hrv).1
  refine AWL.callV hZ hR hN hC hM' hit hop hlk hce hnp (List.range cb.length) ?_ List.nodup_range (Or.inl rfl) (by simpa using hfar) hd hmL hmc hms (by rw [zvs_id hid]; exact hst) hr4 (by rw [hid, List.getElem?_append_left hb]; exact hrv) hrc hrn (fun v cc1 h hl => ?_)
  · apply List.ext_getElem?
    intro j
    simp only [List.getElem?_map, zre_id hid]
    by_cases hj : j < cb.length
    · rw [List.getElem?_range hj, Option.map_some, List.getElem?_append_left hj, List.getElem?_eq_getElem hj, Option.map_some]
    · rw [List.getElem?_eq_none (by simpa using Nat.le_of_not_lt hj), List.getElem?_eq_none (Nat.le_of_not_lt hj)]
      rfl
  · have e1 : v.map (zv (zrho (List.range cb.length) (cb ++ r9).length 0)) = v := by
      cases v with
      | none => rfl
      | some w => rw [Option.map_some, zv_id hid]
    rw [zres_id hid, e1, zjoin_pre (by omega)]
    exact kk v cc1 h (by omega)
/-- .. over cells in the midst of it, numbered anew -/
theorem AWL.callM {pre mid cc : List zE} (hZ : zOkL Z M) (hR : zCan Z d mc ms) (hN : zNew Z n0 nf) (hC : Ct M' d' 0 mc' ms' (.ref 0 :: as) cc Post) (hM' : zMok M')
    (hit : zget M.2.2.2.2.1 pc = some it) (hop : it.2.1 = .invokevirtual idx) (hlk : zLink M.2.2.2.2.2.1 idx M'.1) (hce : zVirt M'.1 np) (hnp : as.length = np) (hfar : cc.length ≤ 1000000) (hmid : mid = cc.map (zre (zsh pre.length cc.length)))
    (hd : d' + 1 ≤ d) (hmL : M'.2.2.1 ≤ 45) (hmc : k + mc' ≤ mc) (hms : n + ms' ≤ ms) (has : ∀ f : Nat → Nat, as.map (zv f) = as) (hst : st = (Value.ref pre.length :: as).reverse ++ rest) (hr4 : Nat.ble (zcsum rest) 8 = true)
    {ci : Nat} {fs : List Value} (hrv : mid[0]? = some (.inr (ci, fs))) {rc : vw_C} (hrc : zcl[ci]? = some rc) (hrn : rc.1 = M'.1.cls)
    (kk : ∀ (v : Option Value) (cc1 : List zE), Post v cc1 → cc1.length = cc.length → AW Z (k + mc') (n + ms') (pc + 3) lv ((v.map (zv (zsh pre.length cc.length))).toList ++ rest) (pre ++ (cc1.map (zre (zsh pre.length cc.length)) ++ r9))) : AW Z k n pc lv st (pre ++ (mid ++ r9)) := by
  have hml : mid.length = cc.length := by rw [hmid, List.length_map]
  have hcl : 0 < cc.length := by
    have := (List.getElem?_eq_some_iff.mp hrv).1
    omega
  have hr : ∀ len : Nat, zrho ((List.range cc.length).map (fun i => pre.length + i)) len 0 = zsh pre.length cc.length := fun len => funext (zrho_sh _ _ len)
  have h0 : zsh pre.length cc.length 0 = pre.length := by
    unfold zsh
    have : Nat.blt 0 cc.length = true := by simp [hcl]
    rw [this]
    rfl
  have hnd : ((List.range cc.length).map (fun i => pre.length + i)).Nodup := by
    have h9 : List.Pairwise (fun a b : Nat => pre.length + a ≠ pre.length + b) (List.range cc.length) := List.Pairwise.imp (fun h => by omega) (List.nodup_range (n := cc.length))
    exact List.pairwise_map.mpr h9
  refine AWL.callV hZ hR hN hC hM' hit hop hlk hce hnp ((List.range cc.length).map (fun i => pre.length + i)) ?_ hnd (Or.inl rfl) (by simpa using hfar) hd hmL hmc hms ?_ hr4 (fs := fs) (ci := ci) ?_ hrc hrn (fun v cc1 h hl => ?_)
  · rw [hr]
    apply List.ext_getElem?
    intro j
    simp only [List.getElem?_map]
    by_cases hj : j < cc.length
    · have h1 : (pre ++ (mid ++ r9))[pre.length + j]? = mid[j]? := by
        rw [List.getElem?_append_right (by omega), List.getElem?_append_left (by omega)]
        congr 1
        omega
      simp only [List.getElem?_range hj, Option.map_some, h1]
      rw [hmid, List.getElem?_map]
      simp [hj]
    · rw [List.getElem?_eq_none (by simpa using Nat.le_of_not_lt hj), List.getElem?_eq_none (Nat.le_of_not_lt hj)]
      rfl
  · rw [hr, List.map_cons, has]
    show st = (Value.ref (zsh pre.length cc.length 0) :: as).reverse ++ rest
    rw [h0]
    exact hst
  · rw [hr, h0, List.getElem?_append_right (Nat.le_refl _), Nat.sub_self, List.getElem?_append_left (by omega)]
    exact hrv
  · have e2 : (cc1.map (zre (zsh pre.length cc.length))).length = mid.length := by rw [List.length_map]; omega
    rw [hr]
    have e3 := zjoin_mid (pre := pre) (r9 := r9) e2
    rw [hml] at e3
    rw [e3]
    exact kk v cc1 h (by omega)
/-- a method of the object that the law made -/
theorem AWL.callB {a : Int32} {cb' : List zE} {w : VR} {o : Nat → Int64} (hZ : zOkL Z M) (hR : zCan Z d mc ms) (hN : zNew Z n0 nf) (hlen : cb.length = 272) (hrv : ∃ fs : List Value, cb[0]? = some (.inr (11, fs))) (hC : Ct M' d' 0 0 0 (.ref 0 :: as) cb (fun v cc => v = some (.int a) ∧ cc = cb')) (hM' : zMok M') (hcn : M'.1.cls = "BorrowedLives")
    (hit : zget M.2.2.2.2.1 pc = some it) (hop : it.2.1 = .invokevirtual idx) (hlk : zLink M.2.2.2.2.2.1 idx M'.1) (hce : zVirt M'.1 np) (hnp : as.length = np)
    (hd : d' + 1 ≤ d) (hmL : M'.2.2.1 ≤ 45) (hmc : k ≤ mc) (hms : n ≤ ms) (hst : st = (Value.ref 0 :: as).reverse ++ rest) (hr4 : Nat.ble (zcsum rest) 8 = true)
    (kk : AW Z k n (pc + 3) lv (.int a :: rest) (zW cb' w o)) : AW Z k n pc lv st (zW cb w o) := by
  obtain ⟨fs, hrv⟩ := hrv
  refine AWL.callP (r9 := kR 272 w ++ [.inl (1, 1, .inr (.inl o))]) hZ hR hN hC hM' hit hop hlk hce hnp (by omega) hd hmL (by omega) (by omega) hst hr4 hrv rfl hcn.symm (fun v cc1 h _ => ?_)
  obtain ⟨rfl, rfl⟩ := h
  exact kk
/-- a method of the reference -/
theorem AWL.callR {a : Int32} {w w' : VR} {o : Nat → Int64} (hZ : zOkL Z M) (hR : zCan Z d mc ms) (hN : zNew Z n0 nf) (hlen : cb.length = 272) (hC : Ct M' d' 0 0 0 (.ref 0 :: as) ([kR 0 w] : List (List zE)).flatten (fun v cc => v = some (.int a) ∧ cc = ([kR 0 w'] : List (List zE)).flatten)) (hM' : zMok M') (hcn : M'.1.cls = "BorrowedLivesModel")
    (hit : zget M.2.2.2.2.1 pc = some it) (hop : it.2.1 = .invokevirtual idx) (hlk : zLink M.2.2.2.2.2.1 idx M'.1) (hce : zVirt M'.1 np) (hnp : as.length = np)
    (hd : d' + 1 ≤ d) (hmL : M'.2.2.1 ≤ 45) (hmc : k ≤ mc) (hms : n ≤ ms) (has : ∀ f : Nat → Nat, as.map (zv f) = as) (hst : st = (Value.ref 272 :: as).reverse ++ rest) (hr4 : Nat.ble (zcsum rest) 8 = true)
    (kk : AW Z k n (pc + 3) lv (.int a :: rest) (zW cb w' o)) : AW Z k n pc lv st (zW cb w o) := by
  have hmid : ∀ v : VR, kR 272 v = (([kR 0 v] : List (List zE)).flatten).map (zre (zsh 272 25)) := fun v => rfl
  refine AWL.callM (pre := cb) (mid := kR 272 w) (r9 := [.inl (1, 1, .inr (.inl o))]) hZ hR hN hC hM' hit hop hlk hce hnp (Nat.le_of_ble_eq_true rfl) (by rw [hlen]; exact hmid w) hd hmL (by omega) (by omega) has (by rw [hlen]; exact hst) hr4 (ci := 12) rfl rfl hcn.symm (fun v cc1 h _ => ?_)
  obtain ⟨rfl, rfl⟩ := h
  have e : (([kR 0 w'] : List (List zE)).flatten).map (zre (zsh cb.length ([kR 0 w] : List (List zE)).flatten.length)) = kR 272 w' := by
    rw [hlen]; exact (hmid w').symm
  rw [e]
  exact kk
end ZLC
