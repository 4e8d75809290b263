/-! BorrowedLives' own constructor: its loops, what is made behind them opaque -/
def zbH (u m t : Nat → Option Nat) : List (List zE) := [[.inr (11, [.ref 1, .ref 6, .ref 20, .ref 35, .ref 39, .ref 43, .ref 46, .ref 54, .ref 62, .int 0, .int 0, .ref 63, .ref 67, .ref 68, .ref 69, .ref 70, .ref 83, .ref 84])], kTape 1 dTape, kTown 6 14 dTown, kLaws 14 dLaws, kReader 20 1 21 dReader, kTown 21 29 dTown, kLaws 29 dLaws, kYear 35 dYear, kYear 39 dYear, kLots 43 dLots, kLives 46 6 dLives, kLives 54 6 dLives, [.inl (4, 17, .inr (.inr (.inr (.inr u))))], kTales 63 dTales, [.inl (4, 4, .inr (.inr (.inr (.inr m))))], [.inl (5, 4, .inr (.inr (.inr (.inr t))))], [.inl (3, 4, .inl (fun _ => 0))], kForecast 70 6 43 46 75 dForecast, kLives 75 6 dLives, kDeeds 83 dDeeds, kPairs 84 dPairs]
theorem zat_b {X : List (List zE)} {lens : List Nat} (hl : X.map List.length = lens) {c j q : Nat} {ch : List zE} (hc : X[c]? = some ch) (hj : j < ch.length) (hq : zoff lens c + j = q) : X.flatten[q]? = ch[j]? := by
  subst hl; subst hq; exact zflat_at X c j ch hc hj
theorem zset_b1 {X : List (List zE)} {lens : List Nat} (hl : X.map List.length = lens) {c q : Nat} {e e1 : zE} (hc : X[c]? = some [e]) (hq : zoff lens c = q) : X.flatten.set q e1 = (X.set c [e1]).flatten := by
  subst hl; subst hq
  have h := zset_one (y := [e1]) hc rfl
  simpa [zset] using h
theorem zfl_len {X : List (List zE)} {lens : List Nat} (hl : X.map List.length = lens) : X.flatten.length = lens.sum := by
  rw [List.length_flatten, hl]
section ZBLK
variable {Z : zCtx} {M : zMth} {k n d nf mc ms n0 pc : Nat} {lv : List (Option Value)} {st : List Value} {it : zIt} {X : List (List zE)} {lens : List Nat}
theorem AW.newB {idx ci N : Nat} {C : String} {T : u_T} (hl : X.map List.length = lens) (hZ : zOk Z M) (hR : zCan Z d mc ms) (hN : zNew Z n0 nf) (hit : zget M.2.2.2.2.1 pc = some it) (hop : it.2.1 = .new idx) (hrc : zcl[ci]? = some (C, T, N))
    (hcl : Cond.classLink M.2.2.2.2.2.1 idx C ∈ zTg) (hin : Cond.instantiable C N ∈ zTg) (hini : Cond.initialized C ∈ zTg) (hc : lens.sum = n0 + k) (hk : k + 1 ≤ nf) (hmc : k + 1 ≤ mc) (hms : n + N ≤ ms) {fs : List Value} (hfs : fs = zdefs (zFt.getD ci [])) (hfl : (zFt.getD ci []).length = N)
    (kk : AW Z (k + 1) (n + N) (pc + 3) lv (.ref lens.sum :: st) (X ++ [[(.inr (ci, fs) : zE)]]).flatten) : AW Z k n pc lv st X.flatten := by
  have e := zfl_len hl
  refine AW.new hZ hR hN hit hop hrc hcl hin hini (by rw [e]; exact hc) hk hmc hms hfs hfl ?_
  have e2 : X.flatten ++ [(.inr (ci, fs) : zE)] = (X ++ [[(.inr (ci, fs) : zE)]]).flatten := by simp
  rw [e, e2]
  exact kk
theorem AW.aastB {t N q w ci c dd : Nat} {i : Int32} {f : Nat → Option Nat} {vs : List Value} {rc : vw_C} {chw : List zE} (hl : X.map List.length = lens) (hZ : zOk Z M) (hit : zget M.2.2.2.2.1 pc = some it) (hop : it.2.1 = .aastore) (hq : X[c]? = some [.inl (t, N, .inr (.inr (.inr (.inr f))))]) (hqo : zoff lens c = q) (hw : X[dd]? = some (.inr (ci, vs) :: chw)) (hwo : zoff lens dd = w) (hrc : zcl[ci]? = some rc) (ht : zTy[t]? = some (.object rc.1)) (hin : vp_in i N)
    (kk : AW Z k n (pc + 1) lv st (X.set c [.inl (t, N, .inr (.inr (.inr (.inr (va_up f i.toNatClampNeg (some w))))))]).flatten) : AW Z k n pc lv (.ref w :: .int i :: .ref q :: st) X.flatten := by
  refine AW.aast (q := q) (w := w) hZ hit hop ((zat_b hl hq (j := 0) (by simp) (by rw [Nat.add_zero]; exact hqo)).trans rfl) ((zat_b hl hw (j := 0) (by simp) (by rw [Nat.add_zero]; exact hwo)).trans rfl) hrc ht hin ?_
  rw [zset_b1 hl hq hqo]
  exact kk
theorem AW.reArrB {t N q c : Nat} {f g : Nat → Option Nat} (hl : X.map List.length = lens) (hq : X[c]? = some [.inl (t, N, .inr (.inr (.inr (.inr f))))]) (hqo : zoff lens c = q) (hfg : ∀ j, j < N → f j = g j)
    (kk : AW Z k n pc lv st (X.set c [.inl (t, N, .inr (.inr (.inr (.inr g))))]).flatten) : AW Z k n pc lv st X.flatten := by
  refine AW.reArr (q := q) ((zat_b hl hq (j := 0) (by simp) (by rw [Nat.add_zero]; exact hqo)).trans rfl) hfg ?_
  rw [zset_b1 hl hq hqo]
  exact kk
theorem AW.objB {o : zE} {ex : List zE} (kk : AW Z k n pc lv st (X ++ [o :: ex]).flatten) : AW Z k n pc lv st ((X ++ [[o]]).flatten ++ ex) := by
  have e : (X ++ [[o]]).flatten ++ ex = (X ++ [o :: ex]).flatten := by simp
  rw [e]; exact kk
theorem AW.joinB {A Es : List (List zE)} {B : List zE} (kk : AW Z k n pc lv st (A ++ [(Es ++ [B]).flatten]).flatten) : AW Z k n pc lv st ((A ++ [Es.flatten]) ++ [B]).flatten := by
  have e : ((A ++ [Es.flatten]) ++ [B]).flatten = (A ++ [(Es ++ [B]).flatten]).flatten := by simp
  rw [e]; exact kk
theorem AW.openB {A Es : List (List zE)} (kk : AW Z k n pc lv st (A ++ Es).flatten) : AW Z k n pc lv st (A ++ [Es.flatten]).flatten := by
  have e : (A ++ [Es.flatten]).flatten = (A ++ Es).flatten := by simp
  rw [e]; exact kk
theorem AW.nilB {A : List (List zE)} (kk : AW Z k n pc lv st (A ++ [([] : List (List zE)).flatten]).flatten) : AW Z k n pc lv st A.flatten := by
  have e : A.flatten = (A ++ [([] : List (List zE)).flatten]).flatten := by simp
  rw [e]; exact kk
end ZBLK
section ZBLK2
variable {Z : zCtx} {M M' : zMth} {k n d d' nf nf' mc mc' ms ms' n0 pc b0 idx np : Nat} {lv : List (Option Value)} {st rest as : List Value} {XA YA : List (List zE)} {o o' : zE} {it : zIt} {Post : Option Value → List zE → Prop}
theorem AW.callIcN {nX : Nat} (hnX : XA.length = nX) (hZ : zOk Z M) (hR : zCan Z d mc ms) (hN : zNew Z n0 nf) (hC : Ct M' d' nf' mc' ms' (.ref b0 :: as) (YA ++ [[o']]).flatten Post) (hM' : zMok M') (hret : M'.2.2.2.1 = none)
    (hit : zget M.2.2.2.2.1 pc = some it) (hop : it.2.1 = .invokespecial idx) (hlk : zLink M.2.2.2.2.2.1 idx M'.1) (hce : zCtor M'.1 np) (hnp : as.length = np)
    (lens cmA ps : List Nat) (hlens : (XA ++ [[o]]).map List.length = lens) (hpl : zpl lens (cmA ++ [nX]) = ps) (hX : zblk (XA ++ [[o]]) (cmA ++ [nX]) (zrho ps lens.sum nf') (YA ++ [[o']])) (hnd : ps.Nodup) (hfr : lens.sum = n0 + k) (hfr2 : k + nf' ≤ nf) (hfar : ps.length + nf' ≤ 1000000)
    (hd : d' + 1 ≤ d) (hmL : M'.2.2.1 ≤ 45) (hmc : k + mc' ≤ mc) (hms : n + ms' ≤ ms)
    (hst : st = ((Value.ref b0 :: as).map (zv (zrho ps lens.sum nf'))).reverse ++ rest) (hr4 : Nat.ble (zcsum rest) 8 = true)
    (kk : ∀ (v : Option Value) (cc1 : List zE), Post v cc1 → ∃ (YA1 : List (List zE)) (oe : zE) (ex : List zE), cc1 = (YA1 ++ [oe :: ex]).flatten ∧ YA1.map List.length = YA.map List.length ∧ AW Z (k + mc') (n + ms') (pc + 3) lv ((v.map (zv (zrho ps lens.sum nf'))).toList ++ rest) ((zsetc (XA ++ [[o]]) (cmA ++ [nX]) (YA1.map (List.map (zre (zrho ps lens.sum nf'))) ++ [[zre (zrho ps lens.sum nf') oe]])).flatten ++ ex.map (zre (zrho ps lens.sum nf')))) :
    AW Z k n pc lv st (XA ++ [[o]]).flatten := by
  subst hnX
  exact AW.callIc hZ hR hN hC hM' hret hit hop hlk hce hnp lens cmA ps hlens hpl hX hnd hfr hfr2 hfar hd hmL hmc hms hst hr4 kk
end ZBLK2
set_option maxRecDepth 40000 in
set_option maxHeartbeats 8000000 in
theorem zbu_0 {Z : zCtx} (hZ : zOk Z zMX11_init) (hR : zCan Z 8 271 31301) (hN : zNew Z 1 271) (hO : zAO Z) {u m t : Nat → Option Nat} {Es : List (List zE)} (hE : Es.flatten.length = 0) (hnext : AW Z 95 30109 204 [some (.ref 0), some (.int 1)] [] (zbH (va_up u (Int32.toNatClampNeg 0) (some 88)) m t ++ [(Es ++ [kLives 88 6 dLives]).flatten]).flatten) : AW Z 87 30055 204 [some (.ref 0), some (.int 0)] [] (zbH u m t ++ [Es.flatten]).flatten := by
  refine AW.run hZ (zRoom_of hR (by decide) (by decide)) [210] 400 ?_
  show AW Z 87 30055 210 [some (.ref 0), some (.int 0)] [.int 17, .int 0] (zbH u m t ++ [Es.flatten]).flatten
  refine AW.run hZ (zRoom_of hR (by decide) (by decide)) [] 1 ?_
  show (((17 : Int32) ≤ 0 → AW Z 87 30055 236 [some (.ref 0), some (.int 0)] [] (zbH u m t ++ [Es.flatten]).flatten) ∧ (¬ ((17 : Int32) ≤ 0) → AW Z 87 30055 213 [some (.ref 0), some (.int 0)] [] (zbH u m t ++ [Es.flatten]).flatten))
  refine ⟨fun h => absurd h (by decide), fun h => ?_⟩
  refine AW.run hZ (zRoom_of hR (by decide) (by decide)) [218] 400 ?_
  show AW Z 87 30055 218 [some (.ref 0), some (.int 0)] [.int 0, .ref 62] (zbH u m t ++ [Es.flatten]).flatten
  refine AW.newB (ci := 3) (N := 12) (C := "BorrowedLives$Lives") (T := zT3) (fs := [.null, .null, .null, .null, .null, .null, .null, .null, .int 0, .int 0, .int 0, .int 0]) (show List.map List.length (zbH u m t ++ [Es.flatten]) = [1, 5, 8, 6, 1, 8, 6, 4, 4, 3, 8, 8, 1, 4, 1, 1, 1, 5, 8, 1, 4, 0] from (show [1, 5, 8, 6, 1, 8, 6, 4, 4, 3, 8, 8, 1, 4, 1, 1, 1, 5, 8, 1, 4, Es.flatten.length] = [1, 5, 8, 6, 1, 8, 6, 4, 4, 3, 8, 8, 1, 4, 1, 1, 1, 5, 8, 1, 4, 0] from by rw [hE])) hZ hR hN rfl rfl rfl (zIn_mem (k := 329) (by decide +kernel)) (zIn_mem (k := 330) (by decide +kernel)) (zIn_mem (k := 114) (by decide +kernel)) rfl (by decide) (by decide) (by decide) rfl rfl ?_
  show AW Z 88 30067 221 [some (.ref 0), some (.int 0)] [.ref 88, .int 0, .ref 62] ((zbH u m t ++ [Es.flatten]) ++ ([[.inr (3, [.null, .null, .null, .null, .null, .null, .null, .null, .int 0, .int 0, .int 0, .int 0])]] : List (List zE))).flatten
  refine AW.run hZ (zRoom_of hR (by decide) (by decide)) [226] 400 ?_
  show AW Z 88 30067 226 [some (.ref 0), some (.int 0)] [.ref 6, .ref 88, .ref 88, .int 0, .ref 62] ((zbH u m t ++ [Es.flatten]) ++ ([[.inr (3, [.null, .null, .null, .null, .null, .null, .null, .null, .int 0, .int 0, .int 0, .int 0])]] : List (List zE))).flatten
  refine AW.callIcN (nX := 22) (XA := (zbH u m t ++ [Es.flatten])) (YA := [kTown 0 8 dTown, kLaws 8 dLaws]) rfl hZ hR hN (c_Lives_init dTown dLaws) zMX3_init_ok rfl rfl rfl zK_BorrowedLives_51 zI_X3_init rfl [1, 5, 8, 6, 1, 8, 6, 4, 4, 3, 8, 8, 1, 4, 1, 1, 1, 5, 8, 1, 4, 0, 1] [2, 3] [6, 7, 8, 9, 10, 11, 12, 13, 14, 15, 16, 17, 18, 19, 88] (show List.map List.length ((zbH u m t ++ [Es.flatten]) ++ ([[.inr (3, [.null, .null, .null, .null, .null, .null, .null, .null, .int 0, .int 0, .int 0, .int 0])]] : List (List zE))) = [1, 5, 8, 6, 1, 8, 6, 4, 4, 3, 8, 8, 1, 4, 1, 1, 1, 5, 8, 1, 4, 0, 1] from (show [1, 5, 8, 6, 1, 8, 6, 4, 4, 3, 8, 8, 1, 4, 1, 1, 1, 5, 8, 1, 4, Es.flatten.length, 1] = [1, 5, 8, 6, 1, 8, 6, 4, 4, 3, 8, 8, 1, 4, 1, 1, 1, 5, 8, 1, 4, 0, 1] from by rw [hE])) rfl rfl (by first | decide | rfl) (by first | decide | rfl) (by first | decide | rfl) (by first | decide | rfl) (by first | decide | rfl) (by first | decide | rfl) (by first | decide | rfl) (by first | decide | rfl) rfl rfl ?_
  rintro v cc ⟨rfl, rfl⟩
  refine ⟨[kTown 0 8 dTown, kLaws 8 dLaws], _, _, rfl, rfl, ?_⟩
  show AW Z 95 30109 229 [some (.ref 0), some (.int 0)] [.ref 88, .int 0, .ref 62] (((zbH u m t ++ [Es.flatten]) ++ [[_]]).flatten ++ _)
  refine AW.objB ?_
  show AW Z 95 30109 229 [some (.ref 0), some (.int 0)] [.ref 88, .int 0, .ref 62] ((zbH u m t ++ [Es.flatten]) ++ [kLives 88 6 dLives]).flatten
  refine AW.aastB (t := 4) (N := 17) (q := 62) (w := 88) (ci := 3) (c := 12) (dd := 22) (show List.map List.length ((zbH u m t ++ [Es.flatten]) ++ [kLives 88 6 dLives]) = [1, 5, 8, 6, 1, 8, 6, 4, 4, 3, 8, 8, 1, 4, 1, 1, 1, 5, 8, 1, 4, 0, 8] from (show [1, 5, 8, 6, 1, 8, 6, 4, 4, 3, 8, 8, 1, 4, 1, 1, 1, 5, 8, 1, 4, Es.flatten.length, 8] = [1, 5, 8, 6, 1, 8, 6, 4, 4, 3, 8, 8, 1, 4, 1, 1, 1, 5, 8, 1, 4, 0, 8] from by rw [hE])) hZ rfl rfl rfl rfl rfl rfl rfl rfl (show ¬ ((0 : Int32) < 0 ∨ 17 ≤ Int32.toNatClampNeg 0) from by decide) ?_
  show AW Z 95 30109 230 [some (.ref 0), some (.int 0)] [] ((zbH (va_up u (Int32.toNatClampNeg 0) (some 88)) m t ++ [Es.flatten]) ++ [kLives 88 6 dLives]).flatten
  refine AW.joinB ?_
  refine AW.run hZ (zRoom_of hR (by decide) (by decide)) [204] 400 ?_
  exact hnext
set_option maxRecDepth 40000 in
set_option maxHeartbeats 8000000 in
theorem zbu_1 {Z : zCtx} (hZ : zOk Z zMX11_init) (hR : zCan Z 8 271 31301) (hN : zNew Z 1 271) (hO : zAO Z) {u m t : Nat → Option Nat} {Es : List (List zE)} (hE : Es.flatten.length = 8) (hnext : AW Z 103 30163 204 [some (.ref 0), some (.int 2)] [] (zbH (va_up u (Int32.toNatClampNeg 1) (some 96)) m t ++ [(Es ++ [kLives 96 6 dLives]).flatten]).flatten) : AW Z 95 30109 204 [some (.ref 0), some (.int 1)] [] (zbH u m t ++ [Es.flatten]).flatten := by
  refine AW.run hZ (zRoom_of hR (by decide) (by decide)) [210] 400 ?_
  show AW Z 95 30109 210 [some (.ref 0), some (.int 1)] [.int 17, .int 1] (zbH u m t ++ [Es.flatten]).flatten
  refine AW.run hZ (zRoom_of hR (by decide) (by decide)) [] 1 ?_
  show (((17 : Int32) ≤ 1 → AW Z 95 30109 236 [some (.ref 0), some (.int 1)] [] (zbH u m t ++ [Es.flatten]).flatten) ∧ (¬ ((17 : Int32) ≤ 1) → AW Z 95 30109 213 [some (.ref 0), some (.int 1)] [] (zbH u m t ++ [Es.flatten]).flatten))
  refine ⟨fun h => absurd h (by decide), fun h => ?_⟩
  refine AW.run hZ (zRoom_of hR (by decide) (by decide)) [218] 400 ?_
  show AW Z 95 30109 218 [some (.ref 0), some (.int 1)] [.int 1, .ref 62] (zbH u m t ++ [Es.flatten]).flatten
  refine AW.newB (ci := 3) (N := 12) (C := "BorrowedLives$Lives") (T := zT3) (fs := [.null, .null, .null, .null, .null, .null, .null, .null, .int 0, .int 0, .int 0, .int 0]) (show List.map List.length (zbH u m t ++ [Es.flatten]) = [1, 5, 8, 6, 1, 8, 6, 4, 4, 3, 8, 8, 1, 4, 1, 1, 1, 5, 8, 1, 4, 8] from (show [1, 5, 8, 6, 1, 8, 6, 4, 4, 3, 8, 8, 1, 4, 1, 1, 1, 5, 8, 1, 4, Es.flatten.length] = [1, 5, 8, 6, 1, 8, 6, 4, 4, 3, 8, 8, 1, 4, 1, 1, 1, 5, 8, 1, 4, 8] from by rw [hE])) hZ hR hN rfl rfl rfl (zIn_mem (k := 329) (by decide +kernel)) (zIn_mem (k := 330) (by decide +kernel)) (zIn_mem (k := 114) (by decide +kernel)) rfl (by decide) (by decide) (by decide) rfl rfl ?_
  show AW Z 96 30121 221 [some (.ref 0), some (.int 1)] [.ref 96, .int 1, .ref 62] ((zbH u m t ++ [Es.flatten]) ++ ([[.inr (3, [.null, .null, .null, .null, .null, .null, .null, .null, .int 0, .int 0, .int 0, .int 0])]] : List (List zE))).flatten
  refine AW.run hZ (zRoom_of hR (by decide) (by decide)) [226] 400 ?_
  show AW Z 96 30121 226 [some (.ref 0), some (.int 1)] [.ref 6, .ref 96, .ref 96, .int 1, .ref 62] ((zbH u m t ++ [Es.flatten]) ++ ([[.inr (3, [.null, .null, .null, .null, .null, .null, .null, .null, .int 0, .int 0, .int 0, .int 0])]] : List (List zE))).flatten
  refine AW.callIcN (nX := 22) (XA := (zbH u m t ++ [Es.flatten])) (YA := [kTown 0 8 dTown, kLaws 8 dLaws]) rfl hZ hR hN (c_Lives_init dTown dLaws) zMX3_init_ok rfl rfl rfl zK_BorrowedLives_51 zI_X3_init rfl [1, 5, 8, 6, 1, 8, 6, 4, 4, 3, 8, 8, 1, 4, 1, 1, 1, 5, 8, 1, 4, 8, 1] [2, 3] [6, 7, 8, 9, 10, 11, 12, 13, 14, 15, 16, 17, 18, 19, 96] (show List.map List.length ((zbH u m t ++ [Es.flatten]) ++ ([[.inr (3, [.null, .null, .null, .null, .null, .null, .null, .null, .int 0, .int 0, .int 0, .int 0])]] : List (List zE))) = [1, 5, 8, 6, 1, 8, 6, 4, 4, 3, 8, 8, 1, 4, 1, 1, 1, 5, 8, 1, 4, 8, 1] from (show [1, 5, 8, 6, 1, 8, 6, 4, 4, 3, 8, 8, 1, 4, 1, 1, 1, 5, 8, 1, 4, Es.flatten.length, 1] = [1, 5, 8, 6, 1, 8, 6, 4, 4, 3, 8, 8, 1, 4, 1, 1, 1, 5, 8, 1, 4, 8, 1] from by rw [hE])) rfl rfl (by first | decide | rfl) (by first | decide | rfl) (by first | decide | rfl) (by first | decide | rfl) (by first | decide | rfl) (by first | decide | rfl) (by first | decide | rfl) (by first | decide | rfl) rfl rfl ?_
  rintro v cc ⟨rfl, rfl⟩
  refine ⟨[kTown 0 8 dTown, kLaws 8 dLaws], _, _, rfl, rfl, ?_⟩
  show AW Z 103 30163 229 [some (.ref 0), some (.int 1)] [.ref 96, .int 1, .ref 62] (((zbH u m t ++ [Es.flatten]) ++ [[_]]).flatten ++ _)
  refine AW.objB ?_
  show AW Z 103 30163 229 [some (.ref 0), some (.int 1)] [.ref 96, .int 1, .ref 62] ((zbH u m t ++ [Es.flatten]) ++ [kLives 96 6 dLives]).flatten
  refine AW.aastB (t := 4) (N := 17) (q := 62) (w := 96) (ci := 3) (c := 12) (dd := 22) (show List.map List.length ((zbH u m t ++ [Es.flatten]) ++ [kLives 96 6 dLives]) = [1, 5, 8, 6, 1, 8, 6, 4, 4, 3, 8, 8, 1, 4, 1, 1, 1, 5, 8, 1, 4, 8, 8] from (show [1, 5, 8, 6, 1, 8, 6, 4, 4, 3, 8, 8, 1, 4, 1, 1, 1, 5, 8, 1, 4, Es.flatten.length, 8] = [1, 5, 8, 6, 1, 8, 6, 4, 4, 3, 8, 8, 1, 4, 1, 1, 1, 5, 8, 1, 4, 8, 8] from by rw [hE])) hZ rfl rfl rfl rfl rfl rfl rfl rfl (show ¬ ((1 : Int32) < 0 ∨ 17 ≤ Int32.toNatClampNeg 1) from by decide) ?_
  show AW Z 103 30163 230 [some (.ref 0), some (.int 1)] [] ((zbH (va_up u (Int32.toNatClampNeg 1) (some 96)) m t ++ [Es.flatten]) ++ [kLives 96 6 dLives]).flatten
  refine AW.joinB ?_
  refine AW.run hZ (zRoom_of hR (by decide) (by decide)) [204] 400 ?_
  exact hnext
set_option maxRecDepth 40000 in
set_option maxHeartbeats 8000000 in
theorem zbu_2 {Z : zCtx} (hZ : zOk Z zMX11_init) (hR : zCan Z 8 271 31301) (hN : zNew Z 1 271) (hO : zAO Z) {u m t : Nat → Option Nat} {Es : List (List zE)} (hE : Es.flatten.length = 16) (hnext : AW Z 111 30217 204 [some (.ref 0), some (.int 3)] [] (zbH (va_up u (Int32.toNatClampNeg 2) (some 104)) m t ++ [(Es ++ [kLives 104 6 dLives]).flatten]).flatten) : AW Z 103 30163 204 [some (.ref 0), some (.int 2)] [] (zbH u m t ++ [Es.flatten]).flatten := by
  refine AW.run hZ (zRoom_of hR (by decide) (by decide)) [210] 400 ?_
  show AW Z 103 30163 210 [some (.ref 0), some (.int 2)] [.int 17, .int 2] (zbH u m t ++ [Es.flatten]).flatten
  refine AW.run hZ (zRoom_of hR (by decide) (by decide)) [] 1 ?_
  show (((17 : Int32) ≤ 2 → AW Z 103 30163 236 [some (.ref 0), some (.int 2)] [] (zbH u m t ++ [Es.flatten]).flatten) ∧ (¬ ((17 : Int32) ≤ 2) → AW Z 103 30163 213 [some (.ref 0), some (.int 2)] [] (zbH u m t ++ [Es.flatten]).flatten))
  refine ⟨fun h => absurd h (by decide), fun h => ?_⟩
  refine AW.run hZ (zRoom_of hR (by decide) (by decide)) [218] 400 ?_
  show AW Z 103 30163 218 [some (.ref 0), some (.int 2)] [.int 2, .ref 62] (zbH u m t ++ [Es.flatten]).flatten
  refine AW.newB (ci := 3) (N := 12) (C := "BorrowedLives$Lives") (T := zT3) (fs := [.null, .null, .null, .null, .null, .null, .null, .null, .int 0, .int 0, .int 0, .int 0]) (show List.map List.length (zbH u m t ++ [Es.flatten]) = [1, 5, 8, 6, 1, 8, 6, 4, 4, 3, 8, 8, 1, 4, 1, 1, 1, 5, 8, 1, 4, 16] from (show [1, 5, 8, 6, 1, 8, 6, 4, 4, 3, 8, 8, 1, 4, 1, 1, 1, 5, 8, 1, 4, Es.flatten.length] = [1, 5, 8, 6, 1, 8, 6, 4, 4, 3, 8, 8, 1, 4, 1, 1, 1, 5, 8, 1, 4, 16] from by rw [hE])) hZ hR hN rfl rfl rfl (zIn_mem (k := 329) (by decide +kernel)) (zIn_mem (k := 330) (by decide +kernel)) (zIn_mem (k := 114) (by decide +kernel)) rfl (by decide) (by decide) (by decide) rfl rfl ?_
  show AW Z 104 30175 221 [some (.ref 0), some (.int 2)] [.ref 104, .int 2, .ref 62] ((zbH u m t ++ [Es.flatten]) ++ ([[.inr (3, [.null, .null, .null, .null, .null, .null, .null, .null, .int 0, .int 0, .int 0, .int 0])]] : List (List zE))).flatten
  refine AW.run hZ (zRoom_of hR (by decide) (by decide)) [226] 400 ?_
  show AW Z 104 30175 226 [some (.ref 0), some (.int 2)] [.ref 6, .ref 104, .ref 104, .int 2, .ref 62] ((zbH u m t ++ [Es.flatten]) ++ ([[.inr (3, [.null, .null, .null, .null, .null, .null, .null, .null, .int 0, .int 0, .int 0, .int 0])]] : List (List zE))).flatten
  refine AW.callIcN (nX := 22) (XA := (zbH u m t ++ [Es.flatten])) (YA := [kTown 0 8 dTown, kLaws 8 dLaws]) rfl hZ hR hN (c_Lives_init dTown dLaws) zMX3_init_ok rfl rfl rfl zK_BorrowedLives_51 zI_X3_init rfl [1, 5, 8, 6, 1, 8, 6, 4, 4, 3, 8, 8, 1, 4, 1, 1, 1, 5, 8, 1, 4, 16, 1] [2, 3] [6, 7, 8, 9, 10, 11, 12, 13, 14, 15, 16, 17, 18, 19, 104] (show List.map List.length ((zbH u m t ++ [Es.flatten]) ++ ([[.inr (3, [.null, .null, .null, .null, .null, .null, .null, .null, .int 0, .int 0, .int 0, .int 0])]] : List (List zE))) = [1, 5, 8, 6, 1, 8, 6, 4, 4, 3, 8, 8, 1, 4, 1, 1, 1, 5, 8, 1, 4, 16, 1] from (show [1, 5, 8, 6, 1, 8, 6, 4, 4, 3, 8, 8, 1, 4, 1, 1, 1, 5, 8, 1, 4, Es.flatten.length, 1] = [1, 5, 8, 6, 1, 8, 6, 4, 4, 3, 8, 8, 1, 4, 1, 1, 1, 5, 8, 1, 4, 16, 1] from by rw [hE])) rfl rfl (by first | decide | rfl) (by first | decide | rfl) (by first | decide | rfl) (by first | decide | rfl) (by first | decide | rfl) (by first | decide | rfl) (by first | decide | rfl) (by first | decide | rfl) rfl rfl ?_
  rintro v cc ⟨rfl, rfl⟩
  refine ⟨[kTown 0 8 dTown, kLaws 8 dLaws], _, _, rfl, rfl, ?_⟩
  show AW Z 111 30217 229 [some (.ref 0), some (.int 2)] [.ref 104, .int 2, .ref 62] (((zbH u m t ++ [Es.flatten]) ++ [[_]]).flatten ++ _)
  refine AW.objB ?_
  show AW Z 111 30217 229 [some (.ref 0), some (.int 2)] [.ref 104, .int 2, .ref 62] ((zbH u m t ++ [Es.flatten]) ++ [kLives 104 6 dLives]).flatten
  refine AW.aastB (t := 4) (N := 17) (q := 62) (w := 104) (ci := 3) (c := 12) (dd := 22) (show List.map List.length ((zbH u m t ++ [Es.flatten]) ++ [kLives 104 6 dLives]) = [1, 5, 8, 6, 1, 8, 6, 4, 4, 3, 8, 8, 1, 4, 1, 1, 1, 5, 8, 1, 4, 16, 8] from (show [1, 5, 8, 6, 1, 8, 6, 4, 4, 3, 8, 8, 1, 4, 1, 1, 1, 5, 8, 1, 4, Es.flatten.length, 8] = [1, 5, 8, 6, 1, 8, 6, 4, 4, 3, 8, 8, 1, 4, 1, 1, 1, 5, 8, 1, 4, 16, 8] from by rw [hE])) hZ rfl rfl rfl rfl rfl rfl rfl rfl (show ¬ ((2 : Int32) < 0 ∨ 17 ≤ Int32.toNatClampNeg 2) from by decide) ?_
  show AW Z 111 30217 230 [some (.ref 0), some (.int 2)] [] ((zbH (va_up u (Int32.toNatClampNeg 2) (some 104)) m t ++ [Es.flatten]) ++ [kLives 104 6 dLives]).flatten
  refine AW.joinB ?_
  refine AW.run hZ (zRoom_of hR (by decide) (by decide)) [204] 400 ?_
  exact hnext
set_option maxRecDepth 40000 in
set_option maxHeartbeats 8000000 in
theorem zbu_3 {Z : zCtx} (hZ : zOk Z zMX11_init) (hR : zCan Z 8 271 31301) (hN : zNew Z 1 271) (hO : zAO Z) {u m t : Nat → Option Nat} {Es : List (List zE)} (hE : Es.flatten.length = 24) (hnext : AW Z 119 30271 204 [some (.ref 0), some (.int 4)] [] (zbH (va_up u (Int32.toNatClampNeg 3) (some 112)) m t ++ [(Es ++ [kLives 112 6 dLives]).flatten]).flatten) : AW Z 111 30217 204 [some (.ref 0), some (.int 3)] [] (zbH u m t ++ [Es.flatten]).flatten := by
  refine AW.run hZ (zRoom_of hR (by decide) (by decide)) [210] 400 ?_
  show AW Z 111 30217 210 [some (.ref 0), some (.int 3)] [.int 17, .int 3] (zbH u m t ++ [Es.flatten]).flatten
  refine AW.run hZ (zRoom_of hR (by decide) (by decide)) [] 1 ?_
  show (((17 : Int32) ≤ 3 → AW Z 111 30217 236 [some (.ref 0), some (.int 3)] [] (zbH u m t ++ [Es.flatten]).flatten) ∧ (¬ ((17 : Int32) ≤ 3) → AW Z 111 30217 213 [some (.ref 0), some (.int 3)] [] (zbH u m t ++ [Es.flatten]).flatten))
  refine ⟨fun h => absurd h (by decide), fun h => ?_⟩
  refine AW.run hZ (zRoom_of hR (by decide) (by decide)) [218] 400 ?_
  show AW Z 111 30217 218 [some (.ref 0), some (.int 3)] [.int 3, .ref 62] (zbH u m t ++ [Es.flatten]).flatten
  refine AW.newB (ci := 3) (N := 12) (C := "BorrowedLives$Lives") (T := zT3) (fs := [.null, .null, .null, .null, .null, .null, .null, .null, .int 0, .int 0, .int 0, .int 0]) (show List.map List.length (zbH u m t ++ [Es.flatten]) = [1, 5, 8, 6, 1, 8, 6, 4, 4, 3, 8, 8, 1, 4, 1, 1, 1, 5, 8, 1, 4, 24] from (show [1, 5, 8, 6, 1, 8, 6, 4, 4, 3, 8, 8, 1, 4, 1, 1, 1, 5, 8, 1, 4, Es.flatten.length] = [1, 5, 8, 6, 1, 8, 6, 4, 4, 3, 8, 8, 1, 4, 1, 1, 1, 5, 8, 1, 4, 24] from by rw [hE])) hZ hR hN rfl rfl rfl (zIn_mem (k := 329) (by decide +kernel)) (zIn_mem (k := 330) (by decide +kernel)) (zIn_mem (k := 114) (by decide +kernel)) rfl (by decide) (by decide) (by decide) rfl rfl ?_
  show AW Z 112 30229 221 [some (.ref 0), some (.int 3)] [.ref 112, .int 3, .ref 62] ((zbH u m t ++ [Es.flatten]) ++ ([[.inr (3, [.null, .null, .null, .null, .null, .null, .null, .null, .int 0, .int 0, .int 0, .int 0])]] : List (List zE))).flatten
  refine AW.run hZ (zRoom_of hR (by decide) (by decide)) [226] 400 ?_
  show AW Z 112 30229 226 [some (.ref 0), some (.int 3)] [.ref 6, .ref 112, .ref 112, .int 3, .ref 62] ((zbH u m t ++ [Es.flatten]) ++ ([[.inr (3, [.null, .null, .null, .null, .null, .null, .null, .null, .int 0, .int 0, .int 0, .int 0])]] : List (List zE))).flatten
  refine AW.callIcN (nX := 22) (XA := (zbH u m t ++ [Es.flatten])) (YA := [kTown 0 8 dTown, kLaws 8 dLaws]) rfl hZ hR hN (c_Lives_init dTown dLaws) zMX3_init_ok rfl rfl rfl zK_BorrowedLives_51 zI_X3_init rfl [1, 5, 8, 6, 1, 8, 6, 4, 4, 3, 8, 8, 1, 4, 1, 1, 1, 5, 8, 1, 4, 24, 1] [2, 3] [6, 7, 8, 9, 10, 11, 12, 13, 14, 15, 16, 17, 18, 19, 112] (show List.map List.length ((zbH u m t ++ [Es.flatten]) ++ ([[.inr (3, [.null, .null, .null, .null, .null, .null, .null, .null, .int 0, .int 0, .int 0, .int 0])]] : List (List zE))) = [1, 5, 8, 6, 1, 8, 6, 4, 4, 3, 8, 8, 1, 4, 1, 1, 1, 5, 8, 1, 4, 24, 1] from (show [1, 5, 8, 6, 1, 8, 6, 4, 4, 3, 8, 8, 1, 4, 1, 1, 1, 5, 8, 1, 4, Es.flatten.length, 1] = [1, 5, 8, 6, 1, 8, 6, 4, 4, 3, 8, 8, 1, 4, 1, 1, 1, 5, 8, 1, 4, 24, 1] from by rw [hE])) rfl rfl (by first | decide | rfl) (by first | decide | rfl) (by first | decide | rfl) (by first | decide | rfl) (by first | decide | rfl) (by first | decide | rfl) (by first | decide | rfl) (by first | decide | rfl) rfl rfl ?_
  rintro v cc ⟨rfl, rfl⟩
  refine ⟨[kTown 0 8 dTown, kLaws 8 dLaws], _, _, rfl, rfl, ?_⟩
  show AW Z 119 30271 229 [some (.ref 0), some (.int 3)] [.ref 112, .int 3, .ref 62] (((zbH u m t ++ [Es.flatten]) ++ [[_]]).flatten ++ _)
  refine AW.objB ?_
  show AW Z 119 30271 229 [some (.ref 0), some (.int 3)] [.ref 112, .int 3, .ref 62] ((zbH u m t ++ [Es.flatten]) ++ [kLives 112 6 dLives]).flatten
  refine AW.aastB (t := 4) (N := 17) (q := 62) (w := 112) (ci := 3) (c := 12) (dd := 22) (show List.map List.length ((zbH u m t ++ [Es.flatten]) ++ [kLives 112 6 dLives]) = [1, 5, 8, 6, 1, 8, 6, 4, 4, 3, 8, 8, 1, 4, 1, 1, 1, 5, 8, 1, 4, 24, 8] from (show [1, 5, 8, 6, 1, 8, 6, 4, 4, 3, 8, 8, 1, 4, 1, 1, 1, 5, 8, 1, 4, Es.flatten.length, 8] = [1, 5, 8, 6, 1, 8, 6, 4, 4, 3, 8, 8, 1, 4, 1, 1, 1, 5, 8, 1, 4, 24, 8] from by rw [hE])) hZ rfl rfl rfl rfl rfl rfl rfl rfl (show ¬ ((3 : Int32) < 0 ∨ 17 ≤ Int32.toNatClampNeg 3) from by decide) ?_
  show AW Z 119 30271 230 [some (.ref 0), some (.int 3)] [] ((zbH (va_up u (Int32.toNatClampNeg 3) (some 112)) m t ++ [Es.flatten]) ++ [kLives 112 6 dLives]).flatten
  refine AW.joinB ?_
  refine AW.run hZ (zRoom_of hR (by decide) (by decide)) [204] 400 ?_
  exact hnext
set_option maxRecDepth 40000 in
set_option maxHeartbeats 8000000 in
theorem zbu_4 {Z : zCtx} (hZ : zOk Z zMX11_init) (hR : zCan Z 8 271 31301) (hN : zNew Z 1 271) (hO : zAO Z) {u m t : Nat → Option Nat} {Es : List (List zE)} (hE : Es.flatten.length = 32) (hnext : AW Z 127 30325 204 [some (.ref 0), some (.int 5)] [] (zbH (va_up u (Int32.toNatClampNeg 4) (some 120)) m t ++ [(Es ++ [kLives 120 6 dLives]).flatten]).flatten) : AW Z 119 30271 204 [some (.ref 0), some (.int 4)] [] (zbH u m t ++ [Es.flatten]).flatten := by
  refine AW.run hZ (zRoom_of hR (by decide) (by decide)) [210] 400 ?_
  show AW Z 119 30271 210 [some (.ref 0), some (.int 4)] [.int 17, .int 4] (zbH u m t ++ [Es.flatten]).flatten
  refine AW.run hZ (zRoom_of hR (by decide) (by decide)) [] 1 ?_
  show (((17 : Int32) ≤ 4 → AW Z 119 30271 236 [some (.ref 0), some (.int 4)] [] (zbH u m t ++ [Es.flatten]).flatten) ∧ (¬ ((17 : Int32) ≤ 4) → AW Z 119 30271 213 [some (.ref 0), some (.int 4)] [] (zbH u m t ++ [Es.flatten]).flatten))
  refine ⟨fun h => absurd h (by decide), fun h => ?_⟩
  refine AW.run hZ (zRoom_of hR (by decide) (by decide)) [218] 400 ?_
  show AW Z 119 30271 218 [some (.ref 0), some (.int 4)] [.int 4, .ref 62] (zbH u m t ++ [Es.flatten]).flatten
  refine AW.newB (ci := 3) (N := 12) (C := "BorrowedLives$Lives") (T := zT3) (fs := [.null, .null, .null, .null, .null, .null, .null, .null, .int 0, .int 0, .int 0, .int 0]) (show List.map List.length (zbH u m t ++ [Es.flatten]) = [1, 5, 8, 6, 1, 8, 6, 4, 4, 3, 8, 8, 1, 4, 1, 1, 1, 5, 8, 1, 4, 32] from (show [1, 5, 8, 6, 1, 8, 6, 4, 4, 3, 8, 8, 1, 4, 1, 1, 1, 5, 8, 1, 4, Es.flatten.length] = [1, 5, 8, 6, 1, 8, 6, 4, 4, 3, 8, 8, 1, 4, 1, 1, 1, 5, 8, 1, 4, 32] from by rw [hE])) hZ hR hN rfl rfl rfl (zIn_mem (k := 329) (by decide +kernel)) (zIn_mem (k := 330) (by decide +kernel)) (zIn_mem (k := 114) (by decide +kernel)) rfl (by decide) (by decide) (by decide) rfl rfl ?_
  show AW Z 120 30283 221 [some (.ref 0), some (.int 4)] [.ref 120, .int 4, .ref 62] ((zbH u m t ++ [Es.flatten]) ++ ([[.inr (3, [.null, .null, .null, .null, .null, .null, .null, .null, .int 0, .int 0, .int 0, .int 0])]] : List (List zE))).flatten
  refine AW.run hZ (zRoom_of hR (by decide) (by decide)) [226] 400 ?_
  show AW Z 120 30283 226 [some (.ref 0), some (.int 4)] [.ref 6, .ref 120, .ref 120, .int 4, .ref 62] ((zbH u m t ++ [Es.flatten]) ++ ([[.inr (3, [.null, .null, .null, .null, .null, .null, .null, .null, .int 0, .int 0, .int 0, .int 0])]] : List (List zE))).flatten
  refine AW.callIcN (nX := 22) (XA := (zbH u m t ++ [Es.flatten])) (YA := [kTown 0 8 dTown, kLaws 8 dLaws]) rfl hZ hR hN (c_Lives_init dTown dLaws) zMX3_init_ok rfl rfl rfl zK_BorrowedLives_51 zI_X3_init rfl [1, 5, 8, 6, 1, 8, 6, 4, 4, 3, 8, 8, 1, 4, 1, 1, 1, 5, 8, 1, 4, 32, 1] [2, 3] [6, 7, 8, 9, 10, 11, 12, 13, 14, 15, 16, 17, 18, 19, 120] (show List.map List.length ((zbH u m t ++ [Es.flatten]) ++ ([[.inr (3, [.null, .null, .null, .null, .null, .null, .null, .null, .int 0, .int 0, .int 0, .int 0])]] : List (List zE))) = [1, 5, 8, 6, 1, 8, 6, 4, 4, 3, 8, 8, 1, 4, 1, 1, 1, 5, 8, 1, 4, 32, 1] from (show [1, 5, 8, 6, 1, 8, 6, 4, 4, 3, 8, 8, 1, 4, 1, 1, 1, 5, 8, 1, 4, Es.flatten.length, 1] = [1, 5, 8, 6, 1, 8, 6, 4, 4, 3, 8, 8, 1, 4, 1, 1, 1, 5, 8, 1, 4, 32, 1] from by rw [hE])) rfl rfl (by first | decide | rfl) (by first | decide | rfl) (by first | decide | rfl) (by first | decide | rfl) (by first | decide | rfl) (by first | decide | rfl) (by first | decide | rfl) (by first | decide | rfl) rfl rfl ?_
  rintro v cc ⟨rfl, rfl⟩
  refine ⟨[kTown 0 8 dTown, kLaws 8 dLaws], _, _, rfl, rfl, ?_⟩
  show AW Z 127 30325 229 [some (.ref 0), some (.int 4)] [.ref 120, .int 4, .ref 62] (((zbH u m t ++ [Es.flatten]) ++ [[_]]).flatten ++ _)
  refine AW.objB ?_
  show AW Z 127 30325 229 [some (.ref 0), some (.int 4)] [.ref 120, .int 4, .ref 62] ((zbH u m t ++ [Es.flatten]) ++ [kLives 120 6 dLives]).flatten
  refine AW.aastB (t := 4) (N := 17) (q := 62) (w := 120) (ci := 3) (c := 12) (dd := 22) (show List.map List.length ((zbH u m t ++ [Es.flatten]) ++ [kLives 120 6 dLives]) = [1, 5, 8, 6, 1, 8, 6, 4, 4, 3, 8, 8, 1, 4, 1, 1, 1, 5, 8, 1, 4, 32, 8] from (show [1, 5, 8, 6, 1, 8, 6, 4, 4, 3, 8, 8, 1, 4, 1, 1, 1, 5, 8, 1, 4, Es.flatten.length, 8] = [1, 5, 8, 6, 1, 8, 6, 4, 4, 3, 8, 8, 1, 4, 1, 1, 1, 5, 8, 1, 4, 32, 8] from by rw [hE])) hZ rfl rfl rfl rfl rfl rfl rfl rfl (show ¬ ((4 : Int32) < 0 ∨ 17 ≤ Int32.toNatClampNeg 4) from by decide) ?_
  show AW Z 127 30325 230 [some (.ref 0), some (.int 4)] [] ((zbH (va_up u (Int32.toNatClampNeg 4) (some 120)) m t ++ [Es.flatten]) ++ [kLives 120 6 dLives]).flatten
  refine AW.joinB ?_
  refine AW.run hZ (zRoom_of hR (by decide) (by decide)) [204] 400 ?_
  exact hnext
set_option maxRecDepth 40000 in
set_option maxHeartbeats 8000000 in
theorem zbu_5 {Z : zCtx} (hZ : zOk Z zMX11_init) (hR : zCan Z 8 271 31301) (hN : zNew Z 1 271) (hO : zAO Z) {u m t : Nat → Option Nat} {Es : List (List zE)} (hE : Es.flatten.length = 40) (hnext : AW Z 135 30379 204 [some (.ref 0), some (.int 6)] [] (zbH (va_up u (Int32.toNatClampNeg 5) (some 128)) m t ++ [(Es ++ [kLives 128 6 dLives]).flatten]).flatten) : AW Z 127 30325 204 [some (.ref 0), some (.int 5)] [] (zbH u m t ++ [Es.flatten]).flatten := by
  refine AW.run hZ (zRoom_of hR (by decide) (by decide)) [210] 400 ?_
  show AW Z 127 30325 210 [some (.ref 0), some (.int 5)] [.int 17, .int 5] (zbH u m t ++ [Es.flatten]).flatten
  refine AW.run hZ (zRoom_of hR (by decide) (by decide)) [] 1 ?_
  show (((17 : Int32) ≤ 5 → AW Z 127 30325 236 [some (.ref 0), some (.int 5)] [] (zbH u m t ++ [Es.flatten]).flatten) ∧ (¬ ((17 : Int32) ≤ 5) → AW Z 127 30325 213 [some (.ref 0), some (.int 5)] [] (zbH u m t ++ [Es.flatten]).flatten))
  refine ⟨fun h => absurd h (by decide), fun h => ?_⟩
  refine AW.run hZ (zRoom_of hR (by decide) (by decide)) [218] 400 ?_
  show AW Z 127 30325 218 [some (.ref 0), some (.int 5)] [.int 5, .ref 62] (zbH u m t ++ [Es.flatten]).flatten
  refine AW.newB (ci := 3) (N := 12) (C := "BorrowedLives$Lives") (T := zT3) (fs := [.null, .null, .null, .null, .null, .null, .null, .null, .int 0, .int 0, .int 0, .int 0]) (show List.map List.length (zbH u m t ++ [Es.flatten]) = [1, 5, 8, 6, 1, 8, 6, 4, 4, 3, 8, 8, 1, 4, 1, 1, 1, 5, 8, 1, 4, 40] from (show [1, 5, 8, 6, 1, 8, 6, 4, 4, 3, 8, 8, 1, 4, 1, 1, 1, 5, 8, 1, 4, Es.flatten.length] = [1, 5, 8, 6, 1, 8, 6, 4, 4, 3, 8, 8, 1, 4, 1, 1, 1, 5, 8, 1, 4, 40] from by rw [hE])) hZ hR hN rfl rfl rfl (zIn_mem (k := 329) (by decide +kernel)) (zIn_mem (k := 330) (by decide +kernel)) (zIn_mem (k := 114) (by decide +kernel)) rfl (by decide) (by decide) (by decide) rfl rfl ?_
  show AW Z 128 30337 221 [some (.ref 0), some (.int 5)] [.ref 128, .int 5, .ref 62] ((zbH u m t ++ [Es.flatten]) ++ ([[.inr (3, [.null, .null, .null, .null, .null, .null, .null, .null, .int 0, .int 0, .int 0, .int 0])]] : List (List zE))).flatten
  refine AW.run hZ (zRoom_of hR (by decide) (by decide)) [226] 400 ?_
  show AW Z 128 30337 226 [some (.ref 0), some (.int 5)] [.ref 6, .ref 128, .ref 128, .int 5, .ref 62] ((zbH u m t ++ [Es.flatten]) ++ ([[.inr (3, [.null, .null, .null, .null, .null, .null, .null, .null, .int 0, .int 0, .int 0, .int 0])]] : List (List zE))).flatten
  refine AW.callIcN (nX := 22) (XA := (zbH u m t ++ [Es.flatten])) (YA := [kTown 0 8 dTown, kLaws 8 dLaws]) rfl hZ hR hN (c_Lives_init dTown dLaws) zMX3_init_ok rfl rfl rfl zK_BorrowedLives_51 zI_X3_init rfl [1, 5, 8, 6, 1, 8, 6, 4, 4, 3, 8, 8, 1, 4, 1, 1, 1, 5, 8, 1, 4, 40, 1] [2, 3] [6, 7, 8, 9, 10, 11, 12, 13, 14, 15, 16, 17, 18, 19, 128] (show List.map List.length ((zbH u m t ++ [Es.flatten]) ++ ([[.inr (3, [.null, .null, .null, .null, .null, .null, .null, .null, .int 0, .int 0, .int 0, .int 0])]] : List (List zE))) = [1, 5, 8, 6, 1, 8, 6, 4, 4, 3, 8, 8, 1, 4, 1, 1, 1, 5, 8, 1, 4, 40, 1] from (show [1, 5, 8, 6, 1, 8, 6, 4, 4, 3, 8, 8, 1, 4, 1, 1, 1, 5, 8, 1, 4, Es.flatten.length, 1] = [1, 5, 8, 6, 1, 8, 6, 4, 4, 3, 8, 8, 1, 4, 1, 1, 1, 5, 8, 1, 4, 40, 1] from by rw [hE])) rfl rfl (by first | decide | rfl) (by first | decide | rfl) (by first | decide | rfl) (by first | decide | rfl) (by first | decide | rfl) (by first | decide | rfl) (by first | decide | rfl) (by first | decide | rfl) rfl rfl ?_
  rintro v cc ⟨rfl, rfl⟩
  refine ⟨[kTown 0 8 dTown, kLaws 8 dLaws], _, _, rfl, rfl, ?_⟩
  show AW Z 135 30379 229 [some (.ref 0), some (.int 5)] [.ref 128, .int 5, .ref 62] (((zbH u m t ++ [Es.flatten]) ++ [[_]]).flatten ++ _)
  refine AW.objB ?_
  show AW Z 135 30379 229 [some (.ref 0), some (.int 5)] [.ref 128, .int 5, .ref 62] ((zbH u m t ++ [Es.flatten]) ++ [kLives 128 6 dLives]).flatten
  refine AW.aastB (t := 4) (N := 17) (q := 62) (w := 128) (ci := 3) (c := 12) (dd := 22) (show List.map List.length ((zbH u m t ++ [Es.flatten]) ++ [kLives 128 6 dLives]) = [1, 5, 8, 6, 1, 8, 6, 4, 4, 3, 8, 8, 1, 4, 1, 1, 1, 5, 8, 1, 4, 40, 8] from (show [1, 5, 8, 6, 1, 8, 6, 4, 4, 3, 8, 8, 1, 4, 1, 1, 1, 5, 8, 1, 4, Es.flatten.length, 8] = [1, 5, 8, 6, 1, 8, 6, 4, 4, 3, 8, 8, 1, 4, 1, 1, 1, 5, 8, 1, 4, 40, 8] from by rw [hE])) hZ rfl rfl rfl rfl rfl rfl rfl rfl (show ¬ ((5 : Int32) < 0 ∨ 17 ≤ Int32.toNatClampNeg 5) from by decide) ?_
  show AW Z 135 30379 230 [some (.ref 0), some (.int 5)] [] ((zbH (va_up u (Int32.toNatClampNeg 5) (some 128)) m t ++ [Es.flatten]) ++ [kLives 128 6 dLives]).flatten
  refine AW.joinB ?_
  refine AW.run hZ (zRoom_of hR (by decide) (by decide)) [204] 400 ?_
  exact hnext
set_option maxRecDepth 40000 in
set_option maxHeartbeats 8000000 in
theorem zbu_6 {Z : zCtx} (hZ : zOk Z zMX11_init) (hR : zCan Z 8 271 31301) (hN : zNew Z 1 271) (hO : zAO Z) {u m t : Nat → Option Nat} {Es : List (List zE)} (hE : Es.flatten.length = 48) (hnext : AW Z 143 30433 204 [some (.ref 0), some (.int 7)] [] (zbH (va_up u (Int32.toNatClampNeg 6) (some 136)) m t ++ [(Es ++ [kLives 136 6 dLives]).flatten]).flatten) : AW Z 135 30379 204 [some (.ref 0), some (.int 6)] [] (zbH u m t ++ [Es.flatten]).flatten := by
  refine AW.run hZ (zRoom_of hR (by decide) (by decide)) [210] 400 ?_
  show AW Z 135 30379 210 [some (.ref 0), some (.int 6)] [.int 17, .int 6] (zbH u m t ++ [Es.flatten]).flatten
  refine AW.run hZ (zRoom_of hR (by decide) (by decide)) [] 1 ?_
  show (((17 : Int32) ≤ 6 → AW Z 135 30379 236 [some (.ref 0), some (.int 6)] [] (zbH u m t ++ [Es.flatten]).flatten) ∧ (¬ ((17 : Int32) ≤ 6) → AW Z 135 30379 213 [some (.ref 0), some (.int 6)] [] (zbH u m t ++ [Es.flatten]).flatten))
  refine ⟨fun h => absurd h (by decide), fun h => ?_⟩
  refine AW.run hZ (zRoom_of hR (by decide) (by decide)) [218] 400 ?_
  show AW Z 135 30379 218 [some (.ref 0), some (.int 6)] [.int 6, .ref 62] (zbH u m t ++ [Es.flatten]).flatten
  refine AW.newB (ci := 3) (N := 12) (C := "BorrowedLives$Lives") (T := zT3) (fs := [.null, .null, .null, .null, .null, .null, .null, .null, .int 0, .int 0, .int 0, .int 0]) (show List.map List.length (zbH u m t ++ [Es.flatten]) = [1, 5, 8, 6, 1, 8, 6, 4, 4, 3, 8, 8, 1, 4, 1, 1, 1, 5, 8, 1, 4, 48] from (show [1, 5, 8, 6, 1, 8, 6, 4, 4, 3, 8, 8, 1, 4, 1, 1, 1, 5, 8, 1, 4, Es.flatten.length] = [1, 5, 8, 6, 1, 8, 6, 4, 4, 3, 8, 8, 1, 4, 1, 1, 1, 5, 8, 1, 4, 48] from by rw [hE])) hZ hR hN rfl rfl rfl (zIn_mem (k := 329) (by decide +kernel)) (zIn_mem (k := 330) (by decide +kernel)) (zIn_mem (k := 114) (by decide +kernel)) rfl (by decide) (by decide) (by decide) rfl rfl ?_
  show AW Z 136 30391 221 [some (.ref 0), some (.int 6)] [.ref 136, .int 6, .ref 62] ((zbH u m t ++ [Es.flatten]) ++ ([[.inr (3, [.null, .null, .null, .null, .null, .null, .null, .null, .int 0, .int 0, .int 0, .int 0])]] : List (List zE))).flatten
  refine AW.run hZ (zRoom_of hR (by decide) (by decide)) [226] 400 ?_
  show AW Z 136 30391 226 [some (.ref 0), some (.int 6)] [.ref 6, .ref 136, .ref 136, .int 6, .ref 62] ((zbH u m t ++ [Es.flatten]) ++ ([[.inr (3, [.null, .null, .null, .null, .null, .null, .null, .null, .int 0, .int 0, .int 0, .int 0])]] : List (List zE))).flatten
  refine AW.callIcN (nX := 22) (XA := (zbH u m t ++ [Es.flatten])) (YA := [kTown 0 8 dTown, kLaws 8 dLaws]) rfl hZ hR hN (c_Lives_init dTown dLaws) zMX3_init_ok rfl rfl rfl zK_BorrowedLives_51 zI_X3_init rfl [1, 5, 8, 6, 1, 8, 6, 4, 4, 3, 8, 8, 1, 4, 1, 1, 1, 5, 8, 1, 4, 48, 1] [2, 3] [6, 7, 8, 9, 10, 11, 12, 13, 14, 15, 16, 17, 18, 19, 136] (show List.map List.length ((zbH u m t ++ [Es.flatten]) ++ ([[.inr (3, [.null, .null, .null, .null, .null, .null, .null, .null, .int 0, .int 0, .int 0, .int 0])]] : List (List zE))) = [1, 5, 8, 6, 1, 8, 6, 4, 4, 3, 8, 8, 1, 4, 1, 1, 1, 5, 8, 1, 4, 48, 1] from (show [1, 5, 8, 6, 1, 8, 6, 4, 4, 3, 8, 8, 1, 4, 1, 1, 1, 5, 8, 1, 4, Es.flatten.length, 1] = [1, 5, 8, 6, 1, 8, 6, 4, 4, 3, 8, 8, 1, 4, 1, 1, 1, 5, 8, 1, 4, 48, 1] from by rw [hE])) rfl rfl (by first | decide | rfl) (by first | decide | rfl) (by first | decide | rfl) (by first | decide | rfl) (by first | decide | rfl) (by first | decide | rfl) (by first | decide | rfl) (by first | decide | rfl) rfl rfl ?_
  rintro v cc ⟨rfl, rfl⟩
  refine ⟨[kTown 0 8 dTown, kLaws 8 dLaws], _, _, rfl, rfl, ?_⟩
  show AW Z 143 30433 229 [some (.ref 0), some (.int 6)] [.ref 136, .int 6, .ref 62] (((zbH u m t ++ [Es.flatten]) ++ [[_]]).flatten ++ _)
  refine AW.objB ?_
  show AW Z 143 30433 229 [some (.ref 0), some (.int 6)] [.ref 136, .int 6, .ref 62] ((zbH u m t ++ [Es.flatten]) ++ [kLives 136 6 dLives]).flatten
  refine AW.aastB (t := 4) (N := 17) (q := 62) (w := 136) (ci := 3) (c := 12) (dd := 22) (show List.map List.length ((zbH u m t ++ [Es.flatten]) ++ [kLives 136 6 dLives]) = [1, 5, 8, 6, 1, 8, 6, 4, 4, 3, 8, 8, 1, 4, 1, 1, 1, 5, 8, 1, 4, 48, 8] from (show [1, 5, 8, 6, 1, 8, 6, 4, 4, 3, 8, 8, 1, 4, 1, 1, 1, 5, 8, 1, 4, Es.flatten.length, 8] = [1, 5, 8, 6, 1, 8, 6, 4, 4, 3, 8, 8, 1, 4, 1, 1, 1, 5, 8, 1, 4, 48, 8] from by rw [hE])) hZ rfl rfl rfl rfl rfl rfl rfl rfl (show ¬ ((6 : Int32) < 0 ∨ 17 ≤ Int32.toNatClampNeg 6) from by decide) ?_
  show AW Z 143 30433 230 [some (.ref 0), some (.int 6)] [] ((zbH (va_up u (Int32.toNatClampNeg 6) (some 136)) m t ++ [Es.flatten]) ++ [kLives 136 6 dLives]).flatten
  refine AW.joinB ?_
  refine AW.run hZ (zRoom_of hR (by decide) (by decide)) [204] 400 ?_
  exact hnext
set_option maxRecDepth 40000 in
set_option maxHeartbeats 8000000 in
theorem zbu_7 {Z : zCtx} (hZ : zOk Z zMX11_init) (hR : zCan Z 8 271 31301) (hN : zNew Z 1 271) (hO : zAO Z) {u m t : Nat → Option Nat} {Es : List (List zE)} (hE : Es.flatten.length = 56) (hnext : AW Z 151 30487 204 [some (.ref 0), some (.int 8)] [] (zbH (va_up u (Int32.toNatClampNeg 7) (some 144)) m t ++ [(Es ++ [kLives 144 6 dLives]).flatten]).flatten) : AW Z 143 30433 204 [some (.ref 0), some (.int 7)] [] (zbH u m t ++ [Es.flatten]).flatten := by
  refine AW.run hZ (zRoom_of hR (by decide) (by decide)) [210] 400 ?_
  show AW Z 143 30433 210 [some (.ref 0), some (.int 7)] [.int 17, .int 7] (zbH u m t ++ [Es.flatten]).flatten
  refine AW.run hZ (zRoom_of hR (by decide) (by decide)) [] 1 ?_
  show (((17 : Int32) ≤ 7 → AW Z 143 30433 236 [some (.ref 0), some (.int 7)] [] (zbH u m t ++ [Es.flatten]).flatten) ∧ (¬ ((17 : Int32) ≤ 7) → AW Z 143 30433 213 [some (.ref 0), some (.int 7)] [] (zbH u m t ++ [Es.flatten]).flatten))
  refine ⟨fun h => absurd h (by decide), fun h => ?_⟩
  refine AW.run hZ (zRoom_of hR (by decide) (by decide)) [218] 400 ?_
  show AW Z 143 30433 218 [some (.ref 0), some (.int 7)] [.int 7, .ref 62] (zbH u m t ++ [Es.flatten]).flatten
  refine AW.newB (ci := 3) (N := 12) (C := "BorrowedLives$Lives") (T := zT3) (fs := [.null, .null, .null, .null, .null, .null, .null, .null, .int 0, .int 0, .int 0, .int 0]) (show List.map List.length (zbH u m t ++ [Es.flatten]) = [1, 5, 8, 6, 1, 8, 6, 4, 4, 3, 8, 8, 1, 4, 1, 1, 1, 5, 8, 1, 4, 56] from (show [1, 5, 8, 6, 1, 8, 6, 4, 4, 3, 8, 8, 1, 4, 1, 1, 1, 5, 8, 1, 4, Es.flatten.length] = [1, 5, 8, 6, 1, 8, 6, 4, 4, 3, 8, 8, 1, 4, 1, 1, 1, 5, 8, 1, 4, 56] from by rw [hE])) hZ hR hN rfl rfl rfl (zIn_mem (k := 329) (by decide +kernel)) (zIn_mem (k := 330) (by decide +kernel)) (zIn_mem (k := 114) (by decide +kernel)) rfl (by decide) (by decide) (by decide) rfl rfl ?_
  show AW Z 144 30445 221 [some (.ref 0), some (.int 7)] [.ref 144, .int 7, .ref 62] ((zbH u m t ++ [Es.flatten]) ++ ([[.inr (3, [.null, .null, .null, .null, .null, .null, .null, .null, .int 0, .int 0, .int 0, .int 0])]] : List (List zE))).flatten
  refine AW.run hZ (zRoom_of hR (by decide) (by decide)) [226] 400 ?_
  show AW Z 144 30445 226 [some (.ref 0), some (.int 7)] [.ref 6, .ref 144, .ref 144, .int 7, .ref 62] ((zbH u m t ++ [Es.flatten]) ++ ([[.inr (3, [.null, .null, .null, .null, .null, .null, .null, .null, .int 0, .int 0, .int 0, .int 0])]] : List (List zE))).flatten
  refine AW.callIcN (nX := 22) (XA := (zbH u m t ++ [Es.flatten])) (YA := [kTown 0 8 dTown, kLaws 8 dLaws]) rfl hZ hR hN (c_Lives_init dTown dLaws) zMX3_init_ok rfl rfl rfl zK_BorrowedLives_51 zI_X3_init rfl [1, 5, 8, 6, 1, 8, 6, 4, 4, 3, 8, 8, 1, 4, 1, 1, 1, 5, 8, 1, 4, 56, 1] [2, 3] [6, 7, 8, 9, 10, 11, 12, 13, 14, 15, 16, 17, 18, 19, 144] (show List.map List.length ((zbH u m t ++ [Es.flatten]) ++ ([[.inr (3, [.null, .null, .null, .null, .null, .null, .null, .null, .int 0, .int 0, .int 0, .int 0])]] : List (List zE))) = [1, 5, 8, 6, 1, 8, 6, 4, 4, 3, 8, 8, 1, 4, 1, 1, 1, 5, 8, 1, 4, 56, 1] from (show [1, 5, 8, 6, 1, 8, 6, 4, 4, 3, 8, 8, 1, 4, 1, 1, 1, 5, 8, 1, 4, Es.flatten.length, 1] = [1, 5, 8, 6, 1, 8, 6, 4, 4, 3, 8, 8, 1, 4, 1, 1, 1, 5, 8, 1, 4, 56, 1] from by rw [hE])) rfl rfl (by first | decide | rfl) (by first | decide | rfl) (by first | decide | rfl) (by first | decide | rfl) (by first | decide | rfl) (by first | decide | rfl) (by first | decide | rfl) (by first | decide | rfl) rfl rfl ?_
  rintro v cc ⟨rfl, rfl⟩
  refine ⟨[kTown 0 8 dTown, kLaws 8 dLaws], _, _, rfl, rfl, ?_⟩
  show AW Z 151 30487 229 [some (.ref 0), some (.int 7)] [.ref 144, .int 7, .ref 62] (((zbH u m t ++ [Es.flatten]) ++ [[_]]).flatten ++ _)
  refine AW.objB ?_
  show AW Z 151 30487 229 [some (.ref 0), some (.int 7)] [.ref 144, .int 7, .ref 62] ((zbH u m t ++ [Es.flatten]) ++ [kLives 144 6 dLives]).flatten
  refine AW.aastB (t := 4) (N := 17) (q := 62) (w := 144) (ci := 3) (c := 12) (dd := 22) (show List.map List.length ((zbH u m t ++ [Es.flatten]) ++ [kLives 144 6 dLives]) = [1, 5, 8, 6, 1, 8, 6, 4, 4, 3, 8, 8, 1, 4, 1, 1, 1, 5, 8, 1, 4, 56, 8] from (show [1, 5, 8, 6, 1, 8, 6, 4, 4, 3, 8, 8, 1, 4, 1, 1, 1, 5, 8, 1, 4, Es.flatten.length, 8] = [1, 5, 8, 6, 1, 8, 6, 4, 4, 3, 8, 8, 1, 4, 1, 1, 1, 5, 8, 1, 4, 56, 8] from by rw [hE])) hZ rfl rfl rfl rfl rfl rfl rfl rfl (show ¬ ((7 : Int32) < 0 ∨ 17 ≤ Int32.toNatClampNeg 7) from by decide) ?_
  show AW Z 151 30487 230 [some (.ref 0), some (.int 7)] [] ((zbH (va_up u (Int32.toNatClampNeg 7) (some 144)) m t ++ [Es.flatten]) ++ [kLives 144 6 dLives]).flatten
  refine AW.joinB ?_
  refine AW.run hZ (zRoom_of hR (by decide) (by decide)) [204] 400 ?_
  exact hnext
set_option maxRecDepth 40000 in
set_option maxHeartbeats 8000000 in
theorem zbu_8 {Z : zCtx} (hZ : zOk Z zMX11_init) (hR : zCan Z 8 271 31301) (hN : zNew Z 1 271) (hO : zAO Z) {u m t : Nat → Option Nat} {Es : List (List zE)} (hE : Es.flatten.length = 64) (hnext : AW Z 159 30541 204 [some (.ref 0), some (.int 9)] [] (zbH (va_up u (Int32.toNatClampNeg 8) (some 152)) m t ++ [(Es ++ [kLives 152 6 dLives]).flatten]).flatten) : AW Z 151 30487 204 [some (.ref 0), some (.int 8)] [] (zbH u m t ++ [Es.flatten]).flatten := by
  refine AW.run hZ (zRoom_of hR (by decide) (by decide)) [210] 400 ?_
  show AW Z 151 30487 210 [some (.ref 0), some (.int 8)] [.int 17, .int 8] (zbH u m t ++ [Es.flatten]).flatten
  refine AW.run hZ (zRoom_of hR (by decide) (by decide)) [] 1 ?_
  show (((17 : Int32) ≤ 8 → AW Z 151 30487 236 [some (.ref 0), some (.int 8)] [] (zbH u m t ++ [Es.flatten]).flatten) ∧ (¬ ((17 : Int32) ≤ 8) → AW Z 151 30487 213 [some (.ref 0), some (.int 8)] [] (zbH u m t ++ [Es.flatten]).flatten))
  refine ⟨fun h => absurd h (by decide), fun h => ?_⟩
  refine AW.run hZ (zRoom_of hR (by decide) (by decide)) [218] 400 ?_
  show AW Z 151 30487 218 [some (.ref 0), some (.int 8)] [.int 8, .ref 62] (zbH u m t ++ [Es.flatten]).flatten
  refine AW.newB (ci := 3) (N := 12) (C := "BorrowedLives$Lives") (T := zT3) (fs := [.null, .null, .null, .null, .null, .null, .null, .null, .int 0, .int 0, .int 0, .int 0]) (show List.map List.length (zbH u m t ++ [Es.flatten]) = [1, 5, 8, 6, 1, 8, 6, 4, 4, 3, 8, 8, 1, 4, 1, 1, 1, 5, 8, 1, 4, 64] from (show [1, 5, 8, 6, 1, 8, 6, 4, 4, 3, 8, 8, 1, 4, 1, 1, 1, 5, 8, 1, 4, Es.flatten.length] = [1, 5, 8, 6, 1, 8, 6, 4, 4, 3, 8, 8, 1, 4, 1, 1, 1, 5, 8, 1, 4, 64] from by rw [hE])) hZ hR hN rfl rfl rfl (zIn_mem (k := 329) (by decide +kernel)) (zIn_mem (k := 330) (by decide +kernel)) (zIn_mem (k := 114) (by decide +kernel)) rfl (by decide) (by decide) (by decide) rfl rfl ?_
  show AW Z 152 30499 221 [some (.ref 0), some (.int 8)] [.ref 152, .int 8, .ref 62] ((zbH u m t ++ [Es.flatten]) ++ ([[.inr (3, [.null, .null, .null, .null, .null, .null, .null, .null, .int 0, .int 0, .int 0, .int 0])]] : List (List zE))).flatten
  refine AW.run hZ (zRoom_of hR (by decide) (by decide)) [226] 400 ?_
  show AW Z 152 30499 226 [some (.ref 0), some (.int 8)] [.ref 6, .ref 152, .ref 152, .int 8, .ref 62] ((zbH u m t ++ [Es.flatten]) ++ ([[.inr (3, [.null, .null, .null, .null, .null, .null, .null, .null, .int 0, .int 0, .int 0, .int 0])]] : List (List zE))).flatten
  refine AW.callIcN (nX := 22) (XA := (zbH u m t ++ [Es.flatten])) (YA := [kTown 0 8 dTown, kLaws 8 dLaws]) rfl hZ hR hN (c_Lives_init dTown dLaws) zMX3_init_ok rfl rfl rfl zK_BorrowedLives_51 zI_X3_init rfl [1, 5, 8, 6, 1, 8, 6, 4, 4, 3, 8, 8, 1, 4, 1, 1, 1, 5, 8, 1, 4, 64, 1] [2, 3] [6, 7, 8, 9, 10, 11, 12, 13, 14, 15, 16, 17, 18, 19, 152] (show List.map List.length ((zbH u m t ++ [Es.flatten]) ++ ([[.inr (3, [.null, .null, .null, .null, .null, .null, .null, .null, .int 0, .int 0, .int 0, .int 0])]] : List (List zE))) = [1, 5, 8, 6, 1, 8, 6, 4, 4, 3, 8, 8, 1, 4, 1, 1, 1, 5, 8, 1, 4, 64, 1] from (show [1, 5, 8, 6, 1, 8, 6, 4, 4, 3, 8, 8, 1, 4, 1, 1, 1, 5, 8, 1, 4, Es.flatten.length, 1] = [1, 5, 8, 6, 1, 8, 6, 4, 4, 3, 8, 8, 1, 4, 1, 1, 1, 5, 8, 1, 4, 64, 1] from by rw [hE])) rfl rfl (by first | decide | rfl) (by first | decide | rfl) (by first | decide | rfl) (by first | decide | rfl) (by first | decide | rfl) (by first | decide | rfl) (by first | decide | rfl) (by first | decide | rfl) rfl rfl ?_
  rintro v cc ⟨rfl, rfl⟩
  refine ⟨[kTown 0 8 dTown, kLaws 8 dLaws], _, _, rfl, rfl, ?_⟩
  show AW Z 159 30541 229 [some (.ref 0), some (.int 8)] [.ref 152, .int 8, .ref 62] (((zbH u m t ++ [Es.flatten]) ++ [[_]]).flatten ++ _)
  refine AW.objB ?_
  show AW Z 159 30541 229 [some (.ref 0), some (.int 8)] [.ref 152, .int 8, .ref 62] ((zbH u m t ++ [Es.flatten]) ++ [kLives 152 6 dLives]).flatten
  refine AW.aastB (t := 4) (N := 17) (q := 62) (w := 152) (ci := 3) (c := 12) (dd := 22) (show List.map List.length ((zbH u m t ++ [Es.flatten]) ++ [kLives 152 6 dLives]) = [1, 5, 8, 6, 1, 8, 6, 4, 4, 3, 8, 8, 1, 4, 1, 1, 1, 5, 8, 1, 4, 64, 8] from (show [1, 5, 8, 6, 1, 8, 6, 4, 4, 3, 8, 8, 1, 4, 1, 1, 1, 5, 8, 1, 4, Es.flatten.length, 8] = [1, 5, 8, 6, 1, 8, 6, 4, 4, 3, 8, 8, 1, 4, 1, 1, 1, 5, 8, 1, 4, 64, 8] from by rw [hE])) hZ rfl rfl rfl rfl rfl rfl rfl rfl (show ¬ ((8 : Int32) < 0 ∨ 17 ≤ Int32.toNatClampNeg 8) from by decide) ?_
  show AW Z 159 30541 230 [some (.ref 0), some (.int 8)] [] ((zbH (va_up u (Int32.toNatClampNeg 8) (some 152)) m t ++ [Es.flatten]) ++ [kLives 152 6 dLives]).flatten
  refine AW.joinB ?_
  refine AW.run hZ (zRoom_of hR (by decide) (by decide)) [204] 400 ?_
  exact hnext
set_option maxRecDepth 40000 in
set_option maxHeartbeats 8000000 in
theorem zbu_9 {Z : zCtx} (hZ : zOk Z zMX11_init) (hR : zCan Z 8 271 31301) (hN : zNew Z 1 271) (hO : zAO Z) {u m t : Nat → Option Nat} {Es : List (List zE)} (hE : Es.flatten.length = 72) (hnext : AW Z 167 30595 204 [some (.ref 0), some (.int 10)] [] (zbH (va_up u (Int32.toNatClampNeg 9) (some 160)) m t ++ [(Es ++ [kLives 160 6 dLives]).flatten]).flatten) : AW Z 159 30541 204 [some (.ref 0), some (.int 9)] [] (zbH u m t ++ [Es.flatten]).flatten := by
  refine AW.run hZ (zRoom_of hR (by decide) (by decide)) [210] 400 ?_
  show AW Z 159 30541 210 [some (.ref 0), some (.int 9)] [.int 17, .int 9] (zbH u m t ++ [Es.flatten]).flatten
  refine AW.run hZ (zRoom_of hR (by decide) (by decide)) [] 1 ?_
  show (((17 : Int32) ≤ 9 → AW Z 159 30541 236 [some (.ref 0), some (.int 9)] [] (zbH u m t ++ [Es.flatten]).flatten) ∧ (¬ ((17 : Int32) ≤ 9) → AW Z 159 30541 213 [some (.ref 0), some (.int 9)] [] (zbH u m t ++ [Es.flatten]).flatten))
  refine ⟨fun h => absurd h (by decide), fun h => ?_⟩
  refine AW.run hZ (zRoom_of hR (by decide) (by decide)) [218] 400 ?_
  show AW Z 159 30541 218 [some (.ref 0), some (.int 9)] [.int 9, .ref 62] (zbH u m t ++ [Es.flatten]).flatten
  refine AW.newB (ci := 3) (N := 12) (C := "BorrowedLives$Lives") (T := zT3) (fs := [.null, .null, .null, .null, .null, .null, .null, .null, .int 0, .int 0, .int 0, .int 0]) (show List.map List.length (zbH u m t ++ [Es.flatten]) = [1, 5, 8, 6, 1, 8, 6, 4, 4, 3, 8, 8, 1, 4, 1, 1, 1, 5, 8, 1, 4, 72] from (show [1, 5, 8, 6, 1, 8, 6, 4, 4, 3, 8, 8, 1, 4, 1, 1, 1, 5, 8, 1, 4, Es.flatten.length] = [1, 5, 8, 6, 1, 8, 6, 4, 4, 3, 8, 8, 1, 4, 1, 1, 1, 5, 8, 1, 4, 72] from by rw [hE])) hZ hR hN rfl rfl rfl (zIn_mem (k := 329) (by decide +kernel)) (zIn_mem (k := 330) (by decide +kernel)) (zIn_mem (k := 114) (by decide +kernel)) rfl (by decide) (by decide) (by decide) rfl rfl ?_
  show AW Z 160 30553 221 [some (.ref 0), some (.int 9)] [.ref 160, .int 9, .ref 62] ((zbH u m t ++ [Es.flatten]) ++ ([[.inr (3, [.null, .null, .null, .null, .null, .null, .null, .null, .int 0, .int 0, .int 0, .int 0])]] : List (List zE))).flatten
  refine AW.run hZ (zRoom_of hR (by decide) (by decide)) [226] 400 ?_
  show AW Z 160 30553 226 [some (.ref 0), some (.int 9)] [.ref 6, .ref 160, .ref 160, .int 9, .ref 62] ((zbH u m t ++ [Es.flatten]) ++ ([[.inr (3, [.null, .null, .null, .null, .null, .null, .null, .null, .int 0, .int 0, .int 0, .int 0])]] : List (List zE))).flatten
  refine AW.callIcN (nX := 22) (XA := (zbH u m t ++ [Es.flatten])) (YA := [kTown 0 8 dTown, kLaws 8 dLaws]) rfl hZ hR hN (c_Lives_init dTown dLaws) zMX3_init_ok rfl rfl rfl zK_BorrowedLives_51 zI_X3_init rfl [1, 5, 8, 6, 1, 8, 6, 4, 4, 3, 8, 8, 1, 4, 1, 1, 1, 5, 8, 1, 4, 72, 1] [2, 3] [6, 7, 8, 9, 10, 11, 12, 13, 14, 15, 16, 17, 18, 19, 160] (show List.map List.length ((zbH u m t ++ [Es.flatten]) ++ ([[.inr (3, [.null, .null, .null, .null, .null, .null, .null, .null, .int 0, .int 0, .int 0, .int 0])]] : List (List zE))) = [1, 5, 8, 6, 1, 8, 6, 4, 4, 3, 8, 8, 1, 4, 1, 1, 1, 5, 8, 1, 4, 72, 1] from (show [1, 5, 8, 6, 1, 8, 6, 4, 4, 3, 8, 8, 1, 4, 1, 1, 1, 5, 8, 1, 4, Es.flatten.length, 1] = [1, 5, 8, 6, 1, 8, 6, 4, 4, 3, 8, 8, 1, 4, 1, 1, 1, 5, 8, 1, 4, 72, 1] from by rw [hE])) rfl rfl (by first | decide | rfl) (by first | decide | rfl) (by first | decide | rfl) (by first | decide | rfl) (by first | decide | rfl) (by first | decide | rfl) (by first | decide | rfl) (by first | decide | rfl) rfl rfl ?_
  rintro v cc ⟨rfl, rfl⟩
  refine ⟨[kTown 0 8 dTown, kLaws 8 dLaws], _, _, rfl, rfl, ?_⟩
  show AW Z 167 30595 229 [some (.ref 0), some (.int 9)] [.ref 160, .int 9, .ref 62] (((zbH u m t ++ [Es.flatten]) ++ [[_]]).flatten ++ _)
  refine AW.objB ?_
  show AW Z 167 30595 229 [some (.ref 0), some (.int 9)] [.ref 160, .int 9, .ref 62] ((zbH u m t ++ [Es.flatten]) ++ [kLives 160 6 dLives]).flatten
  refine AW.aastB (t := 4) (N := 17) (q := 62) (w := 160) (ci := 3) (c := 12) (dd := 22) (show List.map List.length ((zbH u m t ++ [Es.flatten]) ++ [kLives 160 6 dLives]) = [1, 5, 8, 6, 1, 8, 6, 4, 4, 3, 8, 8, 1, 4, 1, 1, 1, 5, 8, 1, 4, 72, 8] from (show [1, 5, 8, 6, 1, 8, 6, 4, 4, 3, 8, 8, 1, 4, 1, 1, 1, 5, 8, 1, 4, Es.flatten.length, 8] = [1, 5, 8, 6, 1, 8, 6, 4, 4, 3, 8, 8, 1, 4, 1, 1, 1, 5, 8, 1, 4, 72, 8] from by rw [hE])) hZ rfl rfl rfl rfl rfl rfl rfl rfl (show ¬ ((9 : Int32) < 0 ∨ 17 ≤ Int32.toNatClampNeg 9) from by decide) ?_
  show AW Z 167 30595 230 [some (.ref 0), some (.int 9)] [] ((zbH (va_up u (Int32.toNatClampNeg 9) (some 160)) m t ++ [Es.flatten]) ++ [kLives 160 6 dLives]).flatten
  refine AW.joinB ?_
  refine AW.run hZ (zRoom_of hR (by decide) (by decide)) [204] 400 ?_
  exact hnext
set_option maxRecDepth 40000 in
set_option maxHeartbeats 8000000 in
theorem zbu_10 {Z : zCtx} (hZ : zOk Z zMX11_init) (hR : zCan Z 8 271 31301) (hN : zNew Z 1 271) (hO : zAO Z) {u m t : Nat → Option Nat} {Es : List (List zE)} (hE : Es.flatten.length = 80) (hnext : AW Z 175 30649 204 [some (.ref 0), some (.int 11)] [] (zbH (va_up u (Int32.toNatClampNeg 10) (some 168)) m t ++ [(Es ++ [kLives 168 6 dLives]).flatten]).flatten) : AW Z 167 30595 204 [some (.ref 0), some (.int 10)] [] (zbH u m t ++ [Es.flatten]).flatten := by
  refine AW.run hZ (zRoom_of hR (by decide) (by decide)) [210] 400 ?_
  show AW Z 167 30595 210 [some (.ref 0), some (.int 10)] [.int 17, .int 10] (zbH u m t ++ [Es.flatten]).flatten
  refine AW.run hZ (zRoom_of hR (by decide) (by decide)) [] 1 ?_
  show (((17 : Int32) ≤ 10 → AW Z 167 30595 236 [some (.ref 0), some (.int 10)] [] (zbH u m t ++ [Es.flatten]).flatten) ∧ (¬ ((17 : Int32) ≤ 10) → AW Z 167 30595 213 [some (.ref 0), some (.int 10)] [] (zbH u m t ++ [Es.flatten]).flatten))
  refine ⟨fun h => absurd h (by decide), fun h => ?_⟩
  refine AW.run hZ (zRoom_of hR (by decide) (by decide)) [218] 400 ?_
  show AW Z 167 30595 218 [some (.ref 0), some (.int 10)] [.int 10, .ref 62] (zbH u m t ++ [Es.flatten]).flatten
  refine AW.newB (ci := 3) (N := 12) (C := "BorrowedLives$Lives") (T := zT3) (fs := [.null, .null, .null, .null, .null, .null, .null, .null, .int 0, .int 0, .int 0, .int 0]) (show List.map List.length (zbH u m t ++ [Es.flatten]) = [1, 5, 8, 6, 1, 8, 6, 4, 4, 3, 8, 8, 1, 4, 1, 1, 1, 5, 8, 1, 4, 80] from (show [1, 5, 8, 6, 1, 8, 6, 4, 4, 3, 8, 8, 1, 4, 1, 1, 1, 5, 8, 1, 4, Es.flatten.length] = [1, 5, 8, 6, 1, 8, 6, 4, 4, 3, 8, 8, 1, 4, 1, 1, 1, 5, 8, 1, 4, 80] from by rw [hE])) hZ hR hN rfl rfl rfl (zIn_mem (k := 329) (by decide +kernel)) (zIn_mem (k := 330) (by decide +kernel)) (zIn_mem (k := 114) (by decide +kernel)) rfl (by decide) (by decide) (by decide) rfl rfl ?_
  show AW Z 168 30607 221 [some (.ref 0), some (.int 10)] [.ref 168, .int 10, .ref 62] ((zbH u m t ++ [Es.flatten]) ++ ([[.inr (3, [.null, .null, .null, .null, .null, .null, .null, .null, .int 0, .int 0, .int 0, .int 0])]] : List (List zE))).flatten
  refine AW.run hZ (zRoom_of hR (by decide) (by decide)) [226] 400 ?_
  show AW Z 168 30607 226 [some (.ref 0), some (.int 10)] [.ref 6, .ref 168, .ref 168, .int 10, .ref 62] ((zbH u m t ++ [Es.flatten]) ++ ([[.inr (3, [.null, .null, .null, .null, .null, .null, .null, .null, .int 0, .int 0, .int 0, .int 0])]] : List (List zE))).flatten
  refine AW.callIcN (nX := 22) (XA := (zbH u m t ++ [Es.flatten])) (YA := [kTown 0 8 dTown, kLaws 8 dLaws]) rfl hZ hR hN (c_Lives_init dTown dLaws) zMX3_init_ok rfl rfl rfl zK_BorrowedLives_51 zI_X3_init rfl [1, 5, 8, 6, 1, 8, 6, 4, 4, 3, 8, 8, 1, 4, 1, 1, 1, 5, 8, 1, 4, 80, 1] [2, 3] [6, 7, 8, 9, 10, 11, 12, 13, 14, 15, 16, 17, 18, 19, 168] (show List.map List.length ((zbH u m t ++ [Es.flatten]) ++ ([[.inr (3, [.null, .null, .null, .null, .null, .null, .null, .null, .int 0, .int 0, .int 0, .int 0])]] : List (List zE))) = [1, 5, 8, 6, 1, 8, 6, 4, 4, 3, 8, 8, 1, 4, 1, 1, 1, 5, 8, 1, 4, 80, 1] from (show [1, 5, 8, 6, 1, 8, 6, 4, 4, 3, 8, 8, 1, 4, 1, 1, 1, 5, 8, 1, 4, Es.flatten.length, 1] = [1, 5, 8, 6, 1, 8, 6, 4, 4, 3, 8, 8, 1, 4, 1, 1, 1, 5, 8, 1, 4, 80, 1] from by rw [hE])) rfl rfl (by first | decide | rfl) (by first | decide | rfl) (by first | decide | rfl) (by first | decide | rfl) (by first | decide | rfl) (by first | decide | rfl) (by first | decide | rfl) (by first | decide | rfl) rfl rfl ?_
  rintro v cc ⟨rfl, rfl⟩
  refine ⟨[kTown 0 8 dTown, kLaws 8 dLaws], _, _, rfl, rfl, ?_⟩
  show AW Z 175 30649 229 [some (.ref 0), some (.int 10)] [.ref 168, .int 10, .ref 62] (((zbH u m t ++ [Es.flatten]) ++ [[_]]).flatten ++ _)
  refine AW.objB ?_
  show AW Z 175 30649 229 [some (.ref 0), some (.int 10)] [.ref 168, .int 10, .ref 62] ((zbH u m t ++ [Es.flatten]) ++ [kLives 168 6 dLives]).flatten
  refine AW.aastB (t := 4) (N := 17) (q := 62) (w := 168) (ci := 3) (c := 12) (dd := 22) (show List.map List.length ((zbH u m t ++ [Es.flatten]) ++ [kLives 168 6 dLives]) = [1, 5, 8, 6, 1, 8, 6, 4, 4, 3, 8, 8, 1, 4, 1, 1, 1, 5, 8, 1, 4, 80, 8] from (show [1, 5, 8, 6, 1, 8, 6, 4, 4, 3, 8, 8, 1, 4, 1, 1, 1, 5, 8, 1, 4, Es.flatten.length, 8] = [1, 5, 8, 6, 1, 8, 6, 4, 4, 3, 8, 8, 1, 4, 1, 1, 1, 5, 8, 1, 4, 80, 8] from by rw [hE])) hZ rfl rfl rfl rfl rfl rfl rfl rfl (show ¬ ((10 : Int32) < 0 ∨ 17 ≤ Int32.toNatClampNeg 10) from by decide) ?_
  show AW Z 175 30649 230 [some (.ref 0), some (.int 10)] [] ((zbH (va_up u (Int32.toNatClampNeg 10) (some 168)) m t ++ [Es.flatten]) ++ [kLives 168 6 dLives]).flatten
  refine AW.joinB ?_
  refine AW.run hZ (zRoom_of hR (by decide) (by decide)) [204] 400 ?_
  exact hnext
set_option maxRecDepth 40000 in
set_option maxHeartbeats 8000000 in
theorem zbu_11 {Z : zCtx} (hZ : zOk Z zMX11_init) (hR : zCan Z 8 271 31301) (hN : zNew Z 1 271) (hO : zAO Z) {u m t : Nat → Option Nat} {Es : List (List zE)} (hE : Es.flatten.length = 88) (hnext : AW Z 183 30703 204 [some (.ref 0), some (.int 12)] [] (zbH (va_up u (Int32.toNatClampNeg 11) (some 176)) m t ++ [(Es ++ [kLives 176 6 dLives]).flatten]).flatten) : AW Z 175 30649 204 [some (.ref 0), some (.int 11)] [] (zbH u m t ++ [Es.flatten]).flatten := by
  refine AW.run hZ (zRoom_of hR (by decide) (by decide)) [210] 400 ?_
  show AW Z 175 30649 210 [some (.ref 0), some (.int 11)] [.int 17, .int 11] (zbH u m t ++ [Es.flatten]).flatten
  refine AW.run hZ (zRoom_of hR (by decide) (by decide)) [] 1 ?_
  show (((17 : Int32) ≤ 11 → AW Z 175 30649 236 [some (.ref 0), some (.int 11)] [] (zbH u m t ++ [Es.flatten]).flatten) ∧ (¬ ((17 : Int32) ≤ 11) → AW Z 175 30649 213 [some (.ref 0), some (.int 11)] [] (zbH u m t ++ [Es.flatten]).flatten))
  refine ⟨fun h => absurd h (by decide), fun h => ?_⟩
  refine AW.run hZ (zRoom_of hR (by decide) (by decide)) [218] 400 ?_
  show AW Z 175 30649 218 [some (.ref 0), some (.int 11)] [.int 11, .ref 62] (zbH u m t ++ [Es.flatten]).flatten
  refine AW.newB (ci := 3) (N := 12) (C := "BorrowedLives$Lives") (T := zT3) (fs := [.null, .null, .null, .null, .null, .null, .null, .null, .int 0, .int 0, .int 0, .int 0]) (show List.map List.length (zbH u m t ++ [Es.flatten]) = [1, 5, 8, 6, 1, 8, 6, 4, 4, 3, 8, 8, 1, 4, 1, 1, 1, 5, 8, 1, 4, 88] from (show [1, 5, 8, 6, 1, 8, 6, 4, 4, 3, 8, 8, 1, 4, 1, 1, 1, 5, 8, 1, 4, Es.flatten.length] = [1, 5, 8, 6, 1, 8, 6, 4, 4, 3, 8, 8, 1, 4, 1, 1, 1, 5, 8, 1, 4, 88] from by rw [hE])) hZ hR hN rfl rfl rfl (zIn_mem (k := 329) (by decide +kernel)) (zIn_mem (k := 330) (by decide +kernel)) (zIn_mem (k := 114) (by decide +kernel)) rfl (by decide) (by decide) (by decide) rfl rfl ?_
  show AW Z 176 30661 221 [some (.ref 0), some (.int 11)] [.ref 176, .int 11, .ref 62] ((zbH u m t ++ [Es.flatten]) ++ ([[.inr (3, [.null, .null, .null, .null, .null, .null, .null, .null, .int 0, .int 0, .int 0, .int 0])]] : List (List zE))).flatten
  refine AW.run hZ (zRoom_of hR (by decide) (by decide)) [226] 400 ?_
  show AW Z 176 30661 226 [some (.ref 0), some (.int 11)] [.ref 6, .ref 176, .ref 176, .int 11, .ref 62] ((zbH u m t ++ [Es.flatten]) ++ ([[.inr (3, [.null, .null, .null, .null, .null, .null, .null, .null, .int 0, .int 0, .int 0, .int 0])]] : List (List zE))).flatten
  refine AW.callIcN (nX := 22) (XA := (zbH u m t ++ [Es.flatten])) (YA := [kTown 0 8 dTown, kLaws 8 dLaws]) rfl hZ hR hN (c_Lives_init dTown dLaws) zMX3_init_ok rfl rfl rfl zK_BorrowedLives_51 zI_X3_init rfl [1, 5, 8, 6, 1, 8, 6, 4, 4, 3, 8, 8, 1, 4, 1, 1, 1, 5, 8, 1, 4, 88, 1] [2, 3] [6, 7, 8, 9, 10, 11, 12, 13, 14, 15, 16, 17, 18, 19, 176] (show List.map List.length ((zbH u m t ++ [Es.flatten]) ++ ([[.inr (3, [.null, .null, .null, .null, .null, .null, .null, .null, .int 0, .int 0, .int 0, .int 0])]] : List (List zE))) = [1, 5, 8, 6, 1, 8, 6, 4, 4, 3, 8, 8, 1, 4, 1, 1, 1, 5, 8, 1, 4, 88, 1] from (show [1, 5, 8, 6, 1, 8, 6, 4, 4, 3, 8, 8, 1, 4, 1, 1, 1, 5, 8, 1, 4, Es.flatten.length, 1] = [1, 5, 8, 6, 1, 8, 6, 4, 4, 3, 8, 8, 1, 4, 1, 1, 1, 5, 8, 1, 4, 88, 1] from by rw [hE])) rfl rfl (by first | decide | rfl) (by first | decide | rfl) (by first | decide | rfl) (by first | decide | rfl) (by first | decide | rfl) (by first | decide | rfl) (by first | decide | rfl) (by first | decide | rfl) rfl rfl ?_
  rintro v cc ⟨rfl, rfl⟩
  refine ⟨[kTown 0 8 dTown, kLaws 8 dLaws], _, _, rfl, rfl, ?_⟩
  show AW Z 183 30703 229 [some (.ref 0), some (.int 11)] [.ref 176, .int 11, .ref 62] (((zbH u m t ++ [Es.flatten]) ++ [[_]]).flatten ++ _)
  refine AW.objB ?_
  show AW Z 183 30703 229 [some (.ref 0), some (.int 11)] [.ref 176, .int 11, .ref 62] ((zbH u m t ++ [Es.flatten]) ++ [kLives 176 6 dLives]).flatten
  refine AW.aastB (t := 4) (N := 17) (q := 62) (w := 176) (ci := 3) (c := 12) (dd := 22) (show List.map List.length ((zbH u m t ++ [Es.flatten]) ++ [kLives 176 6 dLives]) = [1, 5, 8, 6, 1, 8, 6, 4, 4, 3, 8, 8, 1, 4, 1, 1, 1, 5, 8, 1, 4, 88, 8] from (show [1, 5, 8, 6, 1, 8, 6, 4, 4, 3, 8, 8, 1, 4, 1, 1, 1, 5, 8, 1, 4, Es.flatten.length, 8] = [1, 5, 8, 6, 1, 8, 6, 4, 4, 3, 8, 8, 1, 4, 1, 1, 1, 5, 8, 1, 4, 88, 8] from by rw [hE])) hZ rfl rfl rfl rfl rfl rfl rfl rfl (show ¬ ((11 : Int32) < 0 ∨ 17 ≤ Int32.toNatClampNeg 11) from by decide) ?_
  show AW Z 183 30703 230 [some (.ref 0), some (.int 11)] [] ((zbH (va_up u (Int32.toNatClampNeg 11) (some 176)) m t ++ [Es.flatten]) ++ [kLives 176 6 dLives]).flatten
  refine AW.joinB ?_
  refine AW.run hZ (zRoom_of hR (by decide) (by decide)) [204] 400 ?_
  exact hnext
set_option maxRecDepth 40000 in
set_option maxHeartbeats 8000000 in
theorem zbu_12 {Z : zCtx} (hZ : zOk Z zMX11_init) (hR : zCan Z 8 271 31301) (hN : zNew Z 1 271) (hO : zAO Z) {u m t : Nat → Option Nat} {Es : List (List zE)} (hE : Es.flatten.length = 96) (hnext : AW Z 191 30757 204 [some (.ref 0), some (.int 13)] [] (zbH (va_up u (Int32.toNatClampNeg 12) (some 184)) m t ++ [(Es ++ [kLives 184 6 dLives]).flatten]).flatten) : AW Z 183 30703 204 [some (.ref 0), some (.int 12)] [] (zbH u m t ++ [Es.flatten]).flatten := by
  refine AW.run hZ (zRoom_of hR (by decide) (by decide)) [210] 400 ?_
  show AW Z 183 30703 210 [some (.ref 0), some (.int 12)] [.int 17, .int 12] (zbH u m t ++ [Es.flatten]).flatten
  refine AW.run hZ (zRoom_of hR (by decide) (by decide)) [] 1 ?_
  show (((17 : Int32) ≤ 12 → AW Z 183 30703 236 [some (.ref 0), some (.int 12)] [] (zbH u m t ++ [Es.flatten]).flatten) ∧ (¬ ((17 : Int32) ≤ 12) → AW Z 183 30703 213 [some (.ref 0), some (.int 12)] [] (zbH u m t ++ [Es.flatten]).flatten))
  refine ⟨fun h => absurd h (by decide), fun h => ?_⟩
  refine AW.run hZ (zRoom_of hR (by decide) (by decide)) [218] 400 ?_
  show AW Z 183 30703 218 [some (.ref 0), some (.int 12)] [.int 12, .ref 62] (zbH u m t ++ [Es.flatten]).flatten
  refine AW.newB (ci := 3) (N := 12) (C := "BorrowedLives$Lives") (T := zT3) (fs := [.null, .null, .null, .null, .null, .null, .null, .null, .int 0, .int 0, .int 0, .int 0]) (show List.map List.length (zbH u m t ++ [Es.flatten]) = [1, 5, 8, 6, 1, 8, 6, 4, 4, 3, 8, 8, 1, 4, 1, 1, 1, 5, 8, 1, 4, 96] from (show [1, 5, 8, 6, 1, 8, 6, 4, 4, 3, 8, 8, 1, 4, 1, 1, 1, 5, 8, 1, 4, Es.flatten.length] = [1, 5, 8, 6, 1, 8, 6, 4, 4, 3, 8, 8, 1, 4, 1, 1, 1, 5, 8, 1, 4, 96] from by rw [hE])) hZ hR hN rfl rfl rfl (zIn_mem (k := 329) (by decide +kernel)) (zIn_mem (k := 330) (by decide +kernel)) (zIn_mem (k := 114) (by decide +kernel)) rfl (by decide) (by decide) (by decide) rfl rfl ?_
  show AW Z 184 30715 221 [some (.ref 0), some (.int 12)] [.ref 184, .int 12, .ref 62] ((zbH u m t ++ [Es.flatten]) ++ ([[.inr (3, [.null, .null, .null, .null, .null, .null, .null, .null, .int 0, .int 0, .int 0, .int 0])]] : List (List zE))).flatten
  refine AW.run hZ (zRoom_of hR (by decide) (by decide)) [226] 400 ?_
  show AW Z 184 30715 226 [some (.ref 0), some (.int 12)] [.ref 6, .ref 184, .ref 184, .int 12, .ref 62] ((zbH u m t ++ [Es.flatten]) ++ ([[.inr (3, [.null, .null, .null, .null, .null, .null, .null, .null, .int 0, .int 0, .int 0, .int 0])]] : List (List zE))).flatten
  refine AW.callIcN (nX := 22) (XA := (zbH u m t ++ [Es.flatten])) (YA := [kTown 0 8 dTown, kLaws 8 dLaws]) rfl hZ hR hN (c_Lives_init dTown dLaws) zMX3_init_ok rfl rfl rfl zK_BorrowedLives_51 zI_X3_init rfl [1, 5, 8, 6, 1, 8, 6, 4, 4, 3, 8, 8, 1, 4, 1, 1, 1, 5, 8, 1, 4, 96, 1] [2, 3] [6, 7, 8, 9, 10, 11, 12, 13, 14, 15, 16, 17, 18, 19, 184] (show List.map List.length ((zbH u m t ++ [Es.flatten]) ++ ([[.inr (3, [.null, .null, .null, .null, .null, .null, .null, .null, .int 0, .int 0, .int 0, .int 0])]] : List (List zE))) = [1, 5, 8, 6, 1, 8, 6, 4, 4, 3, 8, 8, 1, 4, 1, 1, 1, 5, 8, 1, 4, 96, 1] from (show [1, 5, 8, 6, 1, 8, 6, 4, 4, 3, 8, 8, 1, 4, 1, 1, 1, 5, 8, 1, 4, Es.flatten.length, 1] = [1, 5, 8, 6, 1, 8, 6, 4, 4, 3, 8, 8, 1, 4, 1, 1, 1, 5, 8, 1, 4, 96, 1] from by rw [hE])) rfl rfl (by first | decide | rfl) (by first | decide | rfl) (by first | decide | rfl) (by first | decide | rfl) (by first | decide | rfl) (by first | decide | rfl) (by first | decide | rfl) (by first | decide | rfl) rfl rfl ?_
  rintro v cc ⟨rfl, rfl⟩
  refine ⟨[kTown 0 8 dTown, kLaws 8 dLaws], _, _, rfl, rfl, ?_⟩
  show AW Z 191 30757 229 [some (.ref 0), some (.int 12)] [.ref 184, .int 12, .ref 62] (((zbH u m t ++ [Es.flatten]) ++ [[_]]).flatten ++ _)
  refine AW.objB ?_
  show AW Z 191 30757 229 [some (.ref 0), some (.int 12)] [.ref 184, .int 12, .ref 62] ((zbH u m t ++ [Es.flatten]) ++ [kLives 184 6 dLives]).flatten
  refine AW.aastB (t := 4) (N := 17) (q := 62) (w := 184) (ci := 3) (c := 12) (dd := 22) (show List.map List.length ((zbH u m t ++ [Es.flatten]) ++ [kLives 184 6 dLives]) = [1, 5, 8, 6, 1, 8, 6, 4, 4, 3, 8, 8, 1, 4, 1, 1, 1, 5, 8, 1, 4, 96, 8] from (show [1, 5, 8, 6, 1, 8, 6, 4, 4, 3, 8, 8, 1, 4, 1, 1, 1, 5, 8, 1, 4, Es.flatten.length, 8] = [1, 5, 8, 6, 1, 8, 6, 4, 4, 3, 8, 8, 1, 4, 1, 1, 1, 5, 8, 1, 4, 96, 8] from by rw [hE])) hZ rfl rfl rfl rfl rfl rfl rfl rfl (show ¬ ((12 : Int32) < 0 ∨ 17 ≤ Int32.toNatClampNeg 12) from by decide) ?_
  show AW Z 191 30757 230 [some (.ref 0), some (.int 12)] [] ((zbH (va_up u (Int32.toNatClampNeg 12) (some 184)) m t ++ [Es.flatten]) ++ [kLives 184 6 dLives]).flatten
  refine AW.joinB ?_
  refine AW.run hZ (zRoom_of hR (by decide) (by decide)) [204] 400 ?_
  exact hnext
set_option maxRecDepth 40000 in
set_option maxHeartbeats 8000000 in
theorem zbu_13 {Z : zCtx} (hZ : zOk Z zMX11_init) (hR : zCan Z 8 271 31301) (hN : zNew Z 1 271) (hO : zAO Z) {u m t : Nat → Option Nat} {Es : List (List zE)} (hE : Es.flatten.length = 104) (hnext : AW Z 199 30811 204 [some (.ref 0), some (.int 14)] [] (zbH (va_up u (Int32.toNatClampNeg 13) (some 192)) m t ++ [(Es ++ [kLives 192 6 dLives]).flatten]).flatten) : AW Z 191 30757 204 [some (.ref 0), some (.int 13)] [] (zbH u m t ++ [Es.flatten]).flatten := by
  refine AW.run hZ (zRoom_of hR (by decide) (by decide)) [210] 400 ?_
  show AW Z 191 30757 210 [some (.ref 0), some (.int 13)] [.int 17, .int 13] (zbH u m t ++ [Es.flatten]).flatten
  refine AW.run hZ (zRoom_of hR (by decide) (by decide)) [] 1 ?_
  show (((17 : Int32) ≤ 13 → AW Z 191 30757 236 [some (.ref 0), some (.int 13)] [] (zbH u m t ++ [Es.flatten]).flatten) ∧ (¬ ((17 : Int32) ≤ 13) → AW Z 191 30757 213 [some (.ref 0), some (.int 13)] [] (zbH u m t ++ [Es.flatten]).flatten))
  refine ⟨fun h => absurd h (by decide), fun h => ?_⟩
  refine AW.run hZ (zRoom_of hR (by decide) (by decide)) [218] 400 ?_
  show AW Z 191 30757 218 [some (.ref 0), some (.int 13)] [.int 13, .ref 62] (zbH u m t ++ [Es.flatten]).flatten
  refine AW.newB (ci := 3) (N := 12) (C := "BorrowedLives$Lives") (T := zT3) (fs := [.null, .null, .null, .null, .null, .null, .null, .null, .int 0, .int 0, .int 0, .int 0]) (show List.map List.length (zbH u m t ++ [Es.flatten]) = [1, 5, 8, 6, 1, 8, 6, 4, 4, 3, 8, 8, 1, 4, 1, 1, 1, 5, 8, 1, 4, 104] from (show [1, 5, 8, 6, 1, 8, 6, 4, 4, 3, 8, 8, 1, 4, 1, 1, 1, 5, 8, 1, 4, Es.flatten.length] = [1, 5, 8, 6, 1, 8, 6, 4, 4, 3, 8, 8, 1, 4, 1, 1, 1, 5, 8, 1, 4, 104] from by rw [hE])) hZ hR hN rfl rfl rfl (zIn_mem (k := 329) (by decide +kernel)) (zIn_mem (k := 330) (by decide +kernel)) (zIn_mem (k := 114) (by decide +kernel)) rfl (by decide) (by decide) (by decide) rfl rfl ?_
  show AW Z 192 30769 221 [some (.ref 0), some (.int 13)] [.ref 192, .int 13, .ref 62] ((zbH u m t ++ [Es.flatten]) ++ ([[.inr (3, [.null, .null, .null, .null, .null, .null, .null, .null, .int 0, .int 0, .int 0, .int 0])]] : List (List zE))).flatten
  refine AW.run hZ (zRoom_of hR (by decide) (by decide)) [226] 400 ?_
  show AW Z 192 30769 226 [some (.ref 0), some (.int 13)] [.ref 6, .ref 192, .ref 192, .int 13, .ref 62] ((zbH u m t ++ [Es.flatten]) ++ ([[.inr (3, [.null, .null, .null, .null, .null, .null, .null, .null, .int 0, .int 0, .int 0, .int 0])]] : List (List zE))).flatten
  refine AW.callIcN (nX := 22) (XA := (zbH u m t ++ [Es.flatten])) (YA := [kTown 0 8 dTown, kLaws 8 dLaws]) rfl hZ hR hN (c_Lives_init dTown dLaws) zMX3_init_ok rfl rfl rfl zK_BorrowedLives_51 zI_X3_init rfl [1, 5, 8, 6, 1, 8, 6, 4, 4, 3, 8, 8, 1, 4, 1, 1, 1, 5, 8, 1, 4, 104, 1] [2, 3] [6, 7, 8, 9, 10, 11, 12, 13, 14, 15, 16, 17, 18, 19, 192] (show List.map List.length ((zbH u m t ++ [Es.flatten]) ++ ([[.inr (3, [.null, .null, .null, .null, .null, .null, .null, .null, .int 0, .int 0, .int 0, .int 0])]] : List (List zE))) = [1, 5, 8, 6, 1, 8, 6, 4, 4, 3, 8, 8, 1, 4, 1, 1, 1, 5, 8, 1, 4, 104, 1] from (show [1, 5, 8, 6, 1, 8, 6, 4, 4, 3, 8, 8, 1, 4, 1, 1, 1, 5, 8, 1, 4, Es.flatten.length, 1] = [1, 5, 8, 6, 1, 8, 6, 4, 4, 3, 8, 8, 1, 4, 1, 1, 1, 5, 8, 1, 4, 104, 1] from by rw [hE])) rfl rfl (by first | decide | rfl) (by first | decide | rfl) (by first | decide | rfl) (by first | decide | rfl) (by first | decide | rfl) (by first | decide | rfl) (by first | decide | rfl) (by first | decide | rfl) rfl rfl ?_
  rintro v cc ⟨rfl, rfl⟩
  refine ⟨[kTown 0 8 dTown, kLaws 8 dLaws], _, _, rfl, rfl, ?_⟩
  show AW Z 199 30811 229 [some (.ref 0), some (.int 13)] [.ref 192, .int 13, .ref 62] (((zbH u m t ++ [Es.flatten]) ++ [[_]]).flatten ++ _)
  refine AW.objB ?_
  show AW Z 199 30811 229 [some (.ref 0), some (.int 13)] [.ref 192, .int 13, .ref 62] ((zbH u m t ++ [Es.flatten]) ++ [kLives 192 6 dLives]).flatten
  refine AW.aastB (t := 4) (N := 17) (q := 62) (w := 192) (ci := 3) (c := 12) (dd := 22) (show List.map List.length ((zbH u m t ++ [Es.flatten]) ++ [kLives 192 6 dLives]) = [1, 5, 8, 6, 1, 8, 6, 4, 4, 3, 8, 8, 1, 4, 1, 1, 1, 5, 8, 1, 4, 104, 8] from (show [1, 5, 8, 6, 1, 8, 6, 4, 4, 3, 8, 8, 1, 4, 1, 1, 1, 5, 8, 1, 4, Es.flatten.length, 8] = [1, 5, 8, 6, 1, 8, 6, 4, 4, 3, 8, 8, 1, 4, 1, 1, 1, 5, 8, 1, 4, 104, 8] from by rw [hE])) hZ rfl rfl rfl rfl rfl rfl rfl rfl (show ¬ ((13 : Int32) < 0 ∨ 17 ≤ Int32.toNatClampNeg 13) from by decide) ?_
  show AW Z 199 30811 230 [some (.ref 0), some (.int 13)] [] ((zbH (va_up u (Int32.toNatClampNeg 13) (some 192)) m t ++ [Es.flatten]) ++ [kLives 192 6 dLives]).flatten
  refine AW.joinB ?_
  refine AW.run hZ (zRoom_of hR (by decide) (by decide)) [204] 400 ?_
  exact hnext
set_option maxRecDepth 40000 in
set_option maxHeartbeats 8000000 in
theorem zbu_14 {Z : zCtx} (hZ : zOk Z zMX11_init) (hR : zCan Z 8 271 31301) (hN : zNew Z 1 271) (hO : zAO Z) {u m t : Nat → Option Nat} {Es : List (List zE)} (hE : Es.flatten.length = 112) (hnext : AW Z 207 30865 204 [some (.ref 0), some (.int 15)] [] (zbH (va_up u (Int32.toNatClampNeg 14) (some 200)) m t ++ [(Es ++ [kLives 200 6 dLives]).flatten]).flatten) : AW Z 199 30811 204 [some (.ref 0), some (.int 14)] [] (zbH u m t ++ [Es.flatten]).flatten := by
  refine AW.run hZ (zRoom_of hR (by decide) (by decide)) [210] 400 ?_
  show AW Z 199 30811 210 [some (.ref 0), some (.int 14)] [.int 17, .int 14] (zbH u m t ++ [Es.flatten]).flatten
  refine AW.run hZ (zRoom_of hR (by decide) (by decide)) [] 1 ?_
  show (((17 : Int32) ≤ 14 → AW Z 199 30811 236 [some (.ref 0), some (.int 14)] [] (zbH u m t ++ [Es.flatten]).flatten) ∧ (¬ ((17 : Int32) ≤ 14) → AW Z 199 30811 213 [some (.ref 0), some (.int 14)] [] (zbH u m t ++ [Es.flatten]).flatten))
  refine ⟨fun h => absurd h (by decide), fun h => ?_⟩
  refine AW.run hZ (zRoom_of hR (by decide) (by decide)) [218] 400 ?_
  show AW Z 199 30811 218 [some (.ref 0), some (.int 14)] [.int 14, .ref 62] (zbH u m t ++ [Es.flatten]).flatten
  refine AW.newB (ci := 3) (N := 12) (C := "BorrowedLives$Lives") (T := zT3) (fs := [.null, .null, .null, .null, .null, .null, .null, .null, .int 0, .int 0, .int 0, .int 0]) (show List.map List.length (zbH u m t ++ [Es.flatten]) = [1, 5, 8, 6, 1, 8, 6, 4, 4, 3, 8, 8, 1, 4, 1, 1, 1, 5, 8, 1, 4, 112] from (show [1, 5, 8, 6, 1, 8, 6, 4, 4, 3, 8, 8, 1, 4, 1, 1, 1, 5, 8, 1, 4, Es.flatten.length] = [1, 5, 8, 6, 1, 8, 6, 4, 4, 3, 8, 8, 1, 4, 1, 1, 1, 5, 8, 1, 4, 112] from by rw [hE])) hZ hR hN rfl rfl rfl (zIn_mem (k := 329) (by decide +kernel)) (zIn_mem (k := 330) (by decide +kernel)) (zIn_mem (k := 114) (by decide +kernel)) rfl (by decide) (by decide) (by decide) rfl rfl ?_
  show AW Z 200 30823 221 [some (.ref 0), some (.int 14)] [.ref 200, .int 14, .ref 62] ((zbH u m t ++ [Es.flatten]) ++ ([[.inr (3, [.null, .null, .null, .null, .null, .null, .null, .null, .int 0, .int 0, .int 0, .int 0])]] : List (List zE))).flatten
  refine AW.run hZ (zRoom_of hR (by decide) (by decide)) [226] 400 ?_
  show AW Z 200 30823 226 [some (.ref 0), some (.int 14)] [.ref 6, .ref 200, .ref 200, .int 14, .ref 62] ((zbH u m t ++ [Es.flatten]) ++ ([[.inr (3, [.null, .null, .null, .null, .null, .null, .null, .null, .int 0, .int 0, .int 0, .int 0])]] : List (List zE))).flatten
  refine AW.callIcN (nX := 22) (XA := (zbH u m t ++ [Es.flatten])) (YA := [kTown 0 8 dTown, kLaws 8 dLaws]) rfl hZ hR hN (c_Lives_init dTown dLaws) zMX3_init_ok rfl rfl rfl zK_BorrowedLives_51 zI_X3_init rfl [1, 5, 8, 6, 1, 8, 6, 4, 4, 3, 8, 8, 1, 4, 1, 1, 1, 5, 8, 1, 4, 112, 1] [2, 3] [6, 7, 8, 9, 10, 11, 12, 13, 14, 15, 16, 17, 18, 19, 200] (show List.map List.length ((zbH u m t ++ [Es.flatten]) ++ ([[.inr (3, [.null, .null, .null, .null, .null, .null, .null, .null, .int 0, .int 0, .int 0, .int 0])]] : List (List zE))) = [1, 5, 8, 6, 1, 8, 6, 4, 4, 3, 8, 8, 1, 4, 1, 1, 1, 5, 8, 1, 4, 112, 1] from (show [1, 5, 8, 6, 1, 8, 6, 4, 4, 3, 8, 8, 1, 4, 1, 1, 1, 5, 8, 1, 4, Es.flatten.length, 1] = [1, 5, 8, 6, 1, 8, 6, 4, 4, 3, 8, 8, 1, 4, 1, 1, 1, 5, 8, 1, 4, 112, 1] from by rw [hE])) rfl rfl (by first | decide | rfl) (by first | decide | rfl) (by first | decide | rfl) (by first | decide | rfl) (by first | decide | rfl) (by first | decide | rfl) (by first | decide | rfl) (by first | decide | rfl) rfl rfl ?_
  rintro v cc ⟨rfl, rfl⟩
  refine ⟨[kTown 0 8 dTown, kLaws 8 dLaws], _, _, rfl, rfl, ?_⟩
  show AW Z 207 30865 229 [some (.ref 0), some (.int 14)] [.ref 200, .int 14, .ref 62] (((zbH u m t ++ [Es.flatten]) ++ [[_]]).flatten ++ _)
  refine AW.objB ?_
  show AW Z 207 30865 229 [some (.ref 0), some (.int 14)] [.ref 200, .int 14, .ref 62] ((zbH u m t ++ [Es.flatten]) ++ [kLives 200 6 dLives]).flatten
  refine AW.aastB (t := 4) (N := 17) (q := 62) (w := 200) (ci := 3) (c := 12) (dd := 22) (show List.map List.length ((zbH u m t ++ [Es.flatten]) ++ [kLives 200 6 dLives]) = [1, 5, 8, 6, 1, 8, 6, 4, 4, 3, 8, 8, 1, 4, 1, 1, 1, 5, 8, 1, 4, 112, 8] from (show [1, 5, 8, 6, 1, 8, 6, 4, 4, 3, 8, 8, 1, 4, 1, 1, 1, 5, 8, 1, 4, Es.flatten.length, 8] = [1, 5, 8, 6, 1, 8, 6, 4, 4, 3, 8, 8, 1, 4, 1, 1, 1, 5, 8, 1, 4, 112, 8] from by rw [hE])) hZ rfl rfl rfl rfl rfl rfl rfl rfl (show ¬ ((14 : Int32) < 0 ∨ 17 ≤ Int32.toNatClampNeg 14) from by decide) ?_
  show AW Z 207 30865 230 [some (.ref 0), some (.int 14)] [] ((zbH (va_up u (Int32.toNatClampNeg 14) (some 200)) m t ++ [Es.flatten]) ++ [kLives 200 6 dLives]).flatten
  refine AW.joinB ?_
  refine AW.run hZ (zRoom_of hR (by decide) (by decide)) [204] 400 ?_
  exact hnext
set_option maxRecDepth 40000 in
set_option maxHeartbeats 8000000 in
theorem zbu_15 {Z : zCtx} (hZ : zOk Z zMX11_init) (hR : zCan Z 8 271 31301) (hN : zNew Z 1 271) (hO : zAO Z) {u m t : Nat → Option Nat} {Es : List (List zE)} (hE : Es.flatten.length = 120) (hnext : AW Z 215 30919 204 [some (.ref 0), some (.int 16)] [] (zbH (va_up u (Int32.toNatClampNeg 15) (some 208)) m t ++ [(Es ++ [kLives 208 6 dLives]).flatten]).flatten) : AW Z 207 30865 204 [some (.ref 0), some (.int 15)] [] (zbH u m t ++ [Es.flatten]).flatten := by
  refine AW.run hZ (zRoom_of hR (by decide) (by decide)) [210] 400 ?_
  show AW Z 207 30865 210 [some (.ref 0), some (.int 15)] [.int 17, .int 15] (zbH u m t ++ [Es.flatten]).flatten
  refine AW.run hZ (zRoom_of hR (by decide) (by decide)) [] 1 ?_
  show (((17 : Int32) ≤ 15 → AW Z 207 30865 236 [some (.ref 0), some (.int 15)] [] (zbH u m t ++ [Es.flatten]).flatten) ∧ (¬ ((17 : Int32) ≤ 15) → AW Z 207 30865 213 [some (.ref 0), some (.int 15)] [] (zbH u m t ++ [Es.flatten]).flatten))
  refine ⟨fun h => absurd h (by decide), fun h => ?_⟩
  refine AW.run hZ (zRoom_of hR (by decide) (by decide)) [218] 400 ?_
  show AW Z 207 30865 218 [some (.ref 0), some (.int 15)] [.int 15, .ref 62] (zbH u m t ++ [Es.flatten]).flatten
  refine AW.newB (ci := 3) (N := 12) (C := "BorrowedLives$Lives") (T := zT3) (fs := [.null, .null, .null, .null, .null, .null, .null, .null, .int 0, .int 0, .int 0, .int 0]) (show List.map List.length (zbH u m t ++ [Es.flatten]) = [1, 5, 8, 6, 1, 8, 6, 4, 4, 3, 8, 8, 1, 4, 1, 1, 1, 5, 8, 1, 4, 120] from (show [1, 5, 8, 6, 1, 8, 6, 4, 4, 3, 8, 8, 1, 4, 1, 1, 1, 5, 8, 1, 4, Es.flatten.length] = [1, 5, 8, 6, 1, 8, 6, 4, 4, 3, 8, 8, 1, 4, 1, 1, 1, 5, 8, 1, 4, 120] from by rw [hE])) hZ hR hN rfl rfl rfl (zIn_mem (k := 329) (by decide +kernel)) (zIn_mem (k := 330) (by decide +kernel)) (zIn_mem (k := 114) (by decide +kernel)) rfl (by decide) (by decide) (by decide) rfl rfl ?_
  show AW Z 208 30877 221 [some (.ref 0), some (.int 15)] [.ref 208, .int 15, .ref 62] ((zbH u m t ++ [Es.flatten]) ++ ([[.inr (3, [.null, .null, .null, .null, .null, .null, .null, .null, .int 0, .int 0, .int 0, .int 0])]] : List (List zE))).flatten
  refine AW.run hZ (zRoom_of hR (by decide) (by decide)) [226] 400 ?_
  show AW Z 208 30877 226 [some (.ref 0), some (.int 15)] [.ref 6, .ref 208, .ref 208, .int 15, .ref 62] ((zbH u m t ++ [Es.flatten]) ++ ([[.inr (3, [.null, .null, .null, .null, .null, .null, .null, .null, .int 0, .int 0, .int 0, .int 0])]] : List (List zE))).flatten
  refine AW.callIcN (nX := 22) (XA := (zbH u m t ++ [Es.flatten])) (YA := [kTown 0 8 dTown, kLaws 8 dLaws]) rfl hZ hR hN (c_Lives_init dTown dLaws) zMX3_init_ok rfl rfl rfl zK_BorrowedLives_51 zI_X3_init rfl [1, 5, 8, 6, 1, 8, 6, 4, 4, 3, 8, 8, 1, 4, 1, 1, 1, 5, 8, 1, 4, 120, 1] [2, 3] [6, 7, 8, 9, 10, 11, 12, 13, 14, 15, 16, 17, 18, 19, 208] (show List.map List.length ((zbH u m t ++ [Es.flatten]) ++ ([[.inr (3, [.null, .null, .null, .null, .null, .null, .null, .null, .int 0, .int 0, .int 0, .int 0])]] : List (List zE))) = [1, 5, 8, 6, 1, 8, 6, 4, 4, 3, 8, 8, 1, 4, 1, 1, 1, 5, 8, 1, 4, 120, 1] from (show [1, 5, 8, 6, 1, 8, 6, 4, 4, 3, 8, 8, 1, 4, 1, 1, 1, 5, 8, 1, 4, Es.flatten.length, 1] = [1, 5, 8, 6, 1, 8, 6, 4, 4, 3, 8, 8, 1, 4, 1, 1, 1, 5, 8, 1, 4, 120, 1] from by rw [hE])) rfl rfl (by first | decide | rfl) (by first | decide | rfl) (by first | decide | rfl) (by first | decide | rfl) (by first | decide | rfl) (by first | decide | rfl) (by first | decide | rfl) (by first | decide | rfl) rfl rfl ?_
  rintro v cc ⟨rfl, rfl⟩
  refine ⟨[kTown 0 8 dTown, kLaws 8 dLaws], _, _, rfl, rfl, ?_⟩
  show AW Z 215 30919 229 [some (.ref 0), some (.int 15)] [.ref 208, .int 15, .ref 62] (((zbH u m t ++ [Es.flatten]) ++ [[_]]).flatten ++ _)
  refine AW.objB ?_
  show AW Z 215 30919 229 [some (.ref 0), some (.int 15)] [.ref 208, .int 15, .ref 62] ((zbH u m t ++ [Es.flatten]) ++ [kLives 208 6 dLives]).flatten
  refine AW.aastB (t := 4) (N := 17) (q := 62) (w := 208) (ci := 3) (c := 12) (dd := 22) (show List.map List.length ((zbH u m t ++ [Es.flatten]) ++ [kLives 208 6 dLives]) = [1, 5, 8, 6, 1, 8, 6, 4, 4, 3, 8, 8, 1, 4, 1, 1, 1, 5, 8, 1, 4, 120, 8] from (show [1, 5, 8, 6, 1, 8, 6, 4, 4, 3, 8, 8, 1, 4, 1, 1, 1, 5, 8, 1, 4, Es.flatten.length, 8] = [1, 5, 8, 6, 1, 8, 6, 4, 4, 3, 8, 8, 1, 4, 1, 1, 1, 5, 8, 1, 4, 120, 8] from by rw [hE])) hZ rfl rfl rfl rfl rfl rfl rfl rfl (show ¬ ((15 : Int32) < 0 ∨ 17 ≤ Int32.toNatClampNeg 15) from by decide) ?_
  show AW Z 215 30919 230 [some (.ref 0), some (.int 15)] [] ((zbH (va_up u (Int32.toNatClampNeg 15) (some 208)) m t ++ [Es.flatten]) ++ [kLives 208 6 dLives]).flatten
  refine AW.joinB ?_
  refine AW.run hZ (zRoom_of hR (by decide) (by decide)) [204] 400 ?_
  exact hnext
set_option maxRecDepth 40000 in
set_option maxHeartbeats 8000000 in
theorem zbu_16 {Z : zCtx} (hZ : zOk Z zMX11_init) (hR : zCan Z 8 271 31301) (hN : zNew Z 1 271) (hO : zAO Z) {u m t : Nat → Option Nat} {Es : List (List zE)} (hE : Es.flatten.length = 128) (hnext : AW Z 223 30973 204 [some (.ref 0), some (.int 17)] [] (zbH (va_up u (Int32.toNatClampNeg 16) (some 216)) m t ++ [(Es ++ [kLives 216 6 dLives]).flatten]).flatten) : AW Z 215 30919 204 [some (.ref 0), some (.int 16)] [] (zbH u m t ++ [Es.flatten]).flatten := by
  refine AW.run hZ (zRoom_of hR (by decide) (by decide)) [210] 400 ?_
  show AW Z 215 30919 210 [some (.ref 0), some (.int 16)] [.int 17, .int 16] (zbH u m t ++ [Es.flatten]).flatten
  refine AW.run hZ (zRoom_of hR (by decide) (by decide)) [] 1 ?_
  show (((17 : Int32) ≤ 16 → AW Z 215 30919 236 [some (.ref 0), some (.int 16)] [] (zbH u m t ++ [Es.flatten]).flatten) ∧ (¬ ((17 : Int32) ≤ 16) → AW Z 215 30919 213 [some (.ref 0), some (.int 16)] [] (zbH u m t ++ [Es.flatten]).flatten))
  refine ⟨fun h => absurd h (by decide), fun h => ?_⟩
  refine AW.run hZ (zRoom_of hR (by decide) (by decide)) [218] 400 ?_
  show AW Z 215 30919 218 [some (.ref 0), some (.int 16)] [.int 16, .ref 62] (zbH u m t ++ [Es.flatten]).flatten
  refine AW.newB (ci := 3) (N := 12) (C := "BorrowedLives$Lives") (T := zT3) (fs := [.null, .null, .null, .null, .null, .null, .null, .null, .int 0, .int 0, .int 0, .int 0]) (show List.map List.length (zbH u m t ++ [Es.flatten]) = [1, 5, 8, 6, 1, 8, 6, 4, 4, 3, 8, 8, 1, 4, 1, 1, 1, 5, 8, 1, 4, 128] from (show [1, 5, 8, 6, 1, 8, 6, 4, 4, 3, 8, 8, 1, 4, 1, 1, 1, 5, 8, 1, 4, Es.flatten.length] = [1, 5, 8, 6, 1, 8, 6, 4, 4, 3, 8, 8, 1, 4, 1, 1, 1, 5, 8, 1, 4, 128] from by rw [hE])) hZ hR hN rfl rfl rfl (zIn_mem (k := 329) (by decide +kernel)) (zIn_mem (k := 330) (by decide +kernel)) (zIn_mem (k := 114) (by decide +kernel)) rfl (by decide) (by decide) (by decide) rfl rfl ?_
  show AW Z 216 30931 221 [some (.ref 0), some (.int 16)] [.ref 216, .int 16, .ref 62] ((zbH u m t ++ [Es.flatten]) ++ ([[.inr (3, [.null, .null, .null, .null, .null, .null, .null, .null, .int 0, .int 0, .int 0, .int 0])]] : List (List zE))).flatten
  refine AW.run hZ (zRoom_of hR (by decide) (by decide)) [226] 400 ?_
  show AW Z 216 30931 226 [some (.ref 0), some (.int 16)] [.ref 6, .ref 216, .ref 216, .int 16, .ref 62] ((zbH u m t ++ [Es.flatten]) ++ ([[.inr (3, [.null, .null, .null, .null, .null, .null, .null, .null, .int 0, .int 0, .int 0, .int 0])]] : List (List zE))).flatten
  refine AW.callIcN (nX := 22) (XA := (zbH u m t ++ [Es.flatten])) (YA := [kTown 0 8 dTown, kLaws 8 dLaws]) rfl hZ hR hN (c_Lives_init dTown dLaws) zMX3_init_ok rfl rfl rfl zK_BorrowedLives_51 zI_X3_init rfl [1, 5, 8, 6, 1, 8, 6, 4, 4, 3, 8, 8, 1, 4, 1, 1, 1, 5, 8, 1, 4, 128, 1] [2, 3] [6, 7, 8, 9, 10, 11, 12, 13, 14, 15, 16, 17, 18, 19, 216] (show List.map List.length ((zbH u m t ++ [Es.flatten]) ++ ([[.inr (3, [.null, .null, .null, .null, .null, .null, .null, .null, .int 0, .int 0, .int 0, .int 0])]] : List (List zE))) = [1, 5, 8, 6, 1, 8, 6, 4, 4, 3, 8, 8, 1, 4, 1, 1, 1, 5, 8, 1, 4, 128, 1] from (show [1, 5, 8, 6, 1, 8, 6, 4, 4, 3, 8, 8, 1, 4, 1, 1, 1, 5, 8, 1, 4, Es.flatten.length, 1] = [1, 5, 8, 6, 1, 8, 6, 4, 4, 3, 8, 8, 1, 4, 1, 1, 1, 5, 8, 1, 4, 128, 1] from by rw [hE])) rfl rfl (by first | decide | rfl) (by first | decide | rfl) (by first | decide | rfl) (by first | decide | rfl) (by first | decide | rfl) (by first | decide | rfl) (by first | decide | rfl) (by first | decide | rfl) rfl rfl ?_
  rintro v cc ⟨rfl, rfl⟩
  refine ⟨[kTown 0 8 dTown, kLaws 8 dLaws], _, _, rfl, rfl, ?_⟩
  show AW Z 223 30973 229 [some (.ref 0), some (.int 16)] [.ref 216, .int 16, .ref 62] (((zbH u m t ++ [Es.flatten]) ++ [[_]]).flatten ++ _)
  refine AW.objB ?_
  show AW Z 223 30973 229 [some (.ref 0), some (.int 16)] [.ref 216, .int 16, .ref 62] ((zbH u m t ++ [Es.flatten]) ++ [kLives 216 6 dLives]).flatten
  refine AW.aastB (t := 4) (N := 17) (q := 62) (w := 216) (ci := 3) (c := 12) (dd := 22) (show List.map List.length ((zbH u m t ++ [Es.flatten]) ++ [kLives 216 6 dLives]) = [1, 5, 8, 6, 1, 8, 6, 4, 4, 3, 8, 8, 1, 4, 1, 1, 1, 5, 8, 1, 4, 128, 8] from (show [1, 5, 8, 6, 1, 8, 6, 4, 4, 3, 8, 8, 1, 4, 1, 1, 1, 5, 8, 1, 4, Es.flatten.length, 8] = [1, 5, 8, 6, 1, 8, 6, 4, 4, 3, 8, 8, 1, 4, 1, 1, 1, 5, 8, 1, 4, 128, 8] from by rw [hE])) hZ rfl rfl rfl rfl rfl rfl rfl rfl (show ¬ ((16 : Int32) < 0 ∨ 17 ≤ Int32.toNatClampNeg 16) from by decide) ?_
  show AW Z 223 30973 230 [some (.ref 0), some (.int 16)] [] ((zbH (va_up u (Int32.toNatClampNeg 16) (some 216)) m t ++ [Es.flatten]) ++ [kLives 216 6 dLives]).flatten
  refine AW.joinB ?_
  refine AW.run hZ (zRoom_of hR (by decide) (by decide)) [204] 400 ?_
  exact hnext
set_option maxRecDepth 40000 in
set_option maxHeartbeats 8000000 in
theorem zbu_x {Z : zCtx} (hZ : zOk Z zMX11_init) (hR : zCan Z 8 271 31301) (hN : zNew Z 1 271) (hO : zAO Z) {u m t : Nat → Option Nat} {Es : List (List zE)} (hnext : AW Z 223 30973 238 [some (.ref 0), some (.int 0)] [] (zbH u m t ++ [Es.flatten]).flatten) : AW Z 223 30973 204 [some (.ref 0), some (.int 17)] [] (zbH u m t ++ [Es.flatten]).flatten := by
  refine AW.run hZ (zRoom_of hR (by decide) (by decide)) [210] 400 ?_
  show AW Z 223 30973 210 [some (.ref 0), some (.int 17)] [.int 17, .int 17] (zbH u m t ++ [Es.flatten]).flatten
  refine AW.run hZ (zRoom_of hR (by decide) (by decide)) [] 1 ?_
  show (((17 : Int32) ≤ 17 → AW Z 223 30973 236 [some (.ref 0), some (.int 17)] [] (zbH u m t ++ [Es.flatten]).flatten) ∧ (¬ ((17 : Int32) ≤ 17) → AW Z 223 30973 213 [some (.ref 0), some (.int 17)] [] (zbH u m t ++ [Es.flatten]).flatten))
  refine ⟨fun h => ?_, fun h => absurd (by decide) h⟩
  refine AW.run hZ (zRoom_of hR (by decide) (by decide)) [238] 400 ?_
  exact hnext
set_option maxRecDepth 40000 in
set_option maxHeartbeats 8000000 in
theorem zbm_0 {Z : zCtx} (hZ : zOk Z zMX11_init) (hR : zCan Z 8 271 31301) (hN : zNew Z 1 271) (hO : zAO Z) {u m t : Nat → Option Nat} {Es : List (List zE)} (hE : Es.flatten.length = 136) (hnext : AW Z 231 31027 264 [some (.ref 0), some (.int 0)] [] (zbH u (va_up m (Int32.toNatClampNeg 0) (some 224)) t ++ [(Es ++ [kLives 224 6 dLives]).flatten]).flatten) : AW Z 223 30973 238 [some (.ref 0), some (.int 0)] [] (zbH u m t ++ [Es.flatten]).flatten := by
  refine AW.run hZ (zRoom_of hR (by decide) (by decide)) [244] 400 ?_
  show AW Z 223 30973 244 [some (.ref 0), some (.int 0)] [.int 4, .int 0] (zbH u m t ++ [Es.flatten]).flatten
  refine AW.run hZ (zRoom_of hR (by decide) (by decide)) [] 1 ?_
  show (((4 : Int32) ≤ 0 → AW Z 223 30973 283 [some (.ref 0), some (.int 0)] [] (zbH u m t ++ [Es.flatten]).flatten) ∧ (¬ ((4 : Int32) ≤ 0) → AW Z 223 30973 247 [some (.ref 0), some (.int 0)] [] (zbH u m t ++ [Es.flatten]).flatten))
  refine ⟨fun h => absurd h (by decide), fun h => ?_⟩
  refine AW.run hZ (zRoom_of hR (by decide) (by decide)) [252] 400 ?_
  show AW Z 223 30973 252 [some (.ref 0), some (.int 0)] [.int 0, .ref 67] (zbH u m t ++ [Es.flatten]).flatten
  refine AW.newB (ci := 3) (N := 12) (C := "BorrowedLives$Lives") (T := zT3) (fs := [.null, .null, .null, .null, .null, .null, .null, .null, .int 0, .int 0, .int 0, .int 0]) (show List.map List.length (zbH u m t ++ [Es.flatten]) = [1, 5, 8, 6, 1, 8, 6, 4, 4, 3, 8, 8, 1, 4, 1, 1, 1, 5, 8, 1, 4, 136] from (show [1, 5, 8, 6, 1, 8, 6, 4, 4, 3, 8, 8, 1, 4, 1, 1, 1, 5, 8, 1, 4, Es.flatten.length] = [1, 5, 8, 6, 1, 8, 6, 4, 4, 3, 8, 8, 1, 4, 1, 1, 1, 5, 8, 1, 4, 136] from by rw [hE])) hZ hR hN rfl rfl rfl (zIn_mem (k := 329) (by decide +kernel)) (zIn_mem (k := 330) (by decide +kernel)) (zIn_mem (k := 114) (by decide +kernel)) rfl (by decide) (by decide) (by decide) rfl rfl ?_
  show AW Z 224 30985 255 [some (.ref 0), some (.int 0)] [.ref 224, .int 0, .ref 67] ((zbH u m t ++ [Es.flatten]) ++ ([[.inr (3, [.null, .null, .null, .null, .null, .null, .null, .null, .int 0, .int 0, .int 0, .int 0])]] : List (List zE))).flatten
  refine AW.run hZ (zRoom_of hR (by decide) (by decide)) [260] 400 ?_
  show AW Z 224 30985 260 [some (.ref 0), some (.int 0)] [.ref 6, .ref 224, .ref 224, .int 0, .ref 67] ((zbH u m t ++ [Es.flatten]) ++ ([[.inr (3, [.null, .null, .null, .null, .null, .null, .null, .null, .int 0, .int 0, .int 0, .int 0])]] : List (List zE))).flatten
  refine AW.callIcN (nX := 22) (XA := (zbH u m t ++ [Es.flatten])) (YA := [kTown 0 8 dTown, kLaws 8 dLaws]) rfl hZ hR hN (c_Lives_init dTown dLaws) zMX3_init_ok rfl rfl rfl zK_BorrowedLives_51 zI_X3_init rfl [1, 5, 8, 6, 1, 8, 6, 4, 4, 3, 8, 8, 1, 4, 1, 1, 1, 5, 8, 1, 4, 136, 1] [2, 3] [6, 7, 8, 9, 10, 11, 12, 13, 14, 15, 16, 17, 18, 19, 224] (show List.map List.length ((zbH u m t ++ [Es.flatten]) ++ ([[.inr (3, [.null, .null, .null, .null, .null, .null, .null, .null, .int 0, .int 0, .int 0, .int 0])]] : List (List zE))) = [1, 5, 8, 6, 1, 8, 6, 4, 4, 3, 8, 8, 1, 4, 1, 1, 1, 5, 8, 1, 4, 136, 1] from (show [1, 5, 8, 6, 1, 8, 6, 4, 4, 3, 8, 8, 1, 4, 1, 1, 1, 5, 8, 1, 4, Es.flatten.length, 1] = [1, 5, 8, 6, 1, 8, 6, 4, 4, 3, 8, 8, 1, 4, 1, 1, 1, 5, 8, 1, 4, 136, 1] from by rw [hE])) rfl rfl (by first | decide | rfl) (by first | decide | rfl) (by first | decide | rfl) (by first | decide | rfl) (by first | decide | rfl) (by first | decide | rfl) (by first | decide | rfl) (by first | decide | rfl) rfl rfl ?_
  rintro v cc ⟨rfl, rfl⟩
  refine ⟨[kTown 0 8 dTown, kLaws 8 dLaws], _, _, rfl, rfl, ?_⟩
  show AW Z 231 31027 263 [some (.ref 0), some (.int 0)] [.ref 224, .int 0, .ref 67] (((zbH u m t ++ [Es.flatten]) ++ [[_]]).flatten ++ _)
  refine AW.objB ?_
  show AW Z 231 31027 263 [some (.ref 0), some (.int 0)] [.ref 224, .int 0, .ref 67] ((zbH u m t ++ [Es.flatten]) ++ [kLives 224 6 dLives]).flatten
  refine AW.aastB (t := 4) (N := 4) (q := 67) (w := 224) (ci := 3) (c := 14) (dd := 22) (show List.map List.length ((zbH u m t ++ [Es.flatten]) ++ [kLives 224 6 dLives]) = [1, 5, 8, 6, 1, 8, 6, 4, 4, 3, 8, 8, 1, 4, 1, 1, 1, 5, 8, 1, 4, 136, 8] from (show [1, 5, 8, 6, 1, 8, 6, 4, 4, 3, 8, 8, 1, 4, 1, 1, 1, 5, 8, 1, 4, Es.flatten.length, 8] = [1, 5, 8, 6, 1, 8, 6, 4, 4, 3, 8, 8, 1, 4, 1, 1, 1, 5, 8, 1, 4, 136, 8] from by rw [hE])) hZ rfl rfl rfl rfl rfl rfl rfl rfl (show ¬ ((0 : Int32) < 0 ∨ 4 ≤ Int32.toNatClampNeg 0) from by decide) ?_
  show AW Z 231 31027 264 [some (.ref 0), some (.int 0)] [] ((zbH u (va_up m (Int32.toNatClampNeg 0) (some 224)) t ++ [Es.flatten]) ++ [kLives 224 6 dLives]).flatten
  refine AW.joinB ?_
  exact hnext
set_option maxRecDepth 40000 in
set_option maxHeartbeats 8000000 in
theorem zbt_0 {Z : zCtx} (hZ : zOk Z zMX11_init) (hR : zCan Z 8 271 31301) (hN : zNew Z 1 271) (hO : zAO Z) {u m t : Nat → Option Nat} {Es : List (List zE)} (hE : Es.flatten.length = 144) (hnext : AW Z 235 31055 238 [some (.ref 0), some (.int 1)] [] (zbH u m (va_up t (Int32.toNatClampNeg 0) (some 232)) ++ [(Es ++ [kTales 232 dTales]).flatten]).flatten) : AW Z 231 31027 264 [some (.ref 0), some (.int 0)] [] (zbH u m t ++ [Es.flatten]).flatten := by
  refine AW.run hZ (zRoom_of hR (by decide) (by decide)) [269] 400 ?_
  show AW Z 231 31027 269 [some (.ref 0), some (.int 0)] [.int 0, .ref 68] (zbH u m t ++ [Es.flatten]).flatten
  refine AW.newB (ci := 6) (N := 4) (C := "BorrowedLives$Tales") (T := zT6) (fs := [.int 0, .null, .null, .null]) (show List.map List.length (zbH u m t ++ [Es.flatten]) = [1, 5, 8, 6, 1, 8, 6, 4, 4, 3, 8, 8, 1, 4, 1, 1, 1, 5, 8, 1, 4, 144] from (show [1, 5, 8, 6, 1, 8, 6, 4, 4, 3, 8, 8, 1, 4, 1, 1, 1, 5, 8, 1, 4, Es.flatten.length] = [1, 5, 8, 6, 1, 8, 6, 4, 4, 3, 8, 8, 1, 4, 1, 1, 1, 5, 8, 1, 4, 144] from by rw [hE])) hZ hR hN rfl rfl rfl (zIn_mem (k := 392) (by decide +kernel)) (zIn_mem (k := 393) (by decide +kernel)) (zIn_mem (k := 115) (by decide +kernel)) rfl (by decide) (by decide) (by decide) rfl rfl ?_
  show AW Z 232 31031 272 [some (.ref 0), some (.int 0)] [.ref 232, .int 0, .ref 68] ((zbH u m t ++ [Es.flatten]) ++ ([[.inr (6, [.int 0, .null, .null, .null])]] : List (List zE))).flatten
  refine AW.run hZ (zRoom_of hR (by decide) (by decide)) [273] 400 ?_
  show AW Z 232 31031 273 [some (.ref 0), some (.int 0)] [.ref 232, .ref 232, .int 0, .ref 68] ((zbH u m t ++ [Es.flatten]) ++ ([[.inr (6, [.int 0, .null, .null, .null])]] : List (List zE))).flatten
  refine AW.callIcN (nX := 22) (XA := (zbH u m t ++ [Es.flatten])) (YA := []) rfl hZ hR hN c_Tales_init zMX6_init_ok rfl rfl rfl zK_BorrowedLives_74 zI_X6_init rfl [1, 5, 8, 6, 1, 8, 6, 4, 4, 3, 8, 8, 1, 4, 1, 1, 1, 5, 8, 1, 4, 144, 1] [] [232] (show List.map List.length ((zbH u m t ++ [Es.flatten]) ++ ([[.inr (6, [.int 0, .null, .null, .null])]] : List (List zE))) = [1, 5, 8, 6, 1, 8, 6, 4, 4, 3, 8, 8, 1, 4, 1, 1, 1, 5, 8, 1, 4, 144, 1] from (show [1, 5, 8, 6, 1, 8, 6, 4, 4, 3, 8, 8, 1, 4, 1, 1, 1, 5, 8, 1, 4, Es.flatten.length, 1] = [1, 5, 8, 6, 1, 8, 6, 4, 4, 3, 8, 8, 1, 4, 1, 1, 1, 5, 8, 1, 4, 144, 1] from by rw [hE])) rfl rfl (by first | decide | rfl) (by first | decide | rfl) (by first | decide | rfl) (by first | decide | rfl) (by first | decide | rfl) (by first | decide | rfl) (by first | decide | rfl) (by first | decide | rfl) rfl rfl ?_
  rintro v cc ⟨rfl, rfl⟩
  refine ⟨[], _, _, rfl, rfl, ?_⟩
  show AW Z 235 31055 276 [some (.ref 0), some (.int 0)] [.ref 232, .int 0, .ref 68] (((zbH u m t ++ [Es.flatten]) ++ [[_]]).flatten ++ _)
  refine AW.objB ?_
  show AW Z 235 31055 276 [some (.ref 0), some (.int 0)] [.ref 232, .int 0, .ref 68] ((zbH u m t ++ [Es.flatten]) ++ [kTales 232 dTales]).flatten
  refine AW.aastB (t := 5) (N := 4) (q := 68) (w := 232) (ci := 6) (c := 15) (dd := 22) (show List.map List.length ((zbH u m t ++ [Es.flatten]) ++ [kTales 232 dTales]) = [1, 5, 8, 6, 1, 8, 6, 4, 4, 3, 8, 8, 1, 4, 1, 1, 1, 5, 8, 1, 4, 144, 4] from (show [1, 5, 8, 6, 1, 8, 6, 4, 4, 3, 8, 8, 1, 4, 1, 1, 1, 5, 8, 1, 4, Es.flatten.length, 4] = [1, 5, 8, 6, 1, 8, 6, 4, 4, 3, 8, 8, 1, 4, 1, 1, 1, 5, 8, 1, 4, 144, 4] from by rw [hE])) hZ rfl rfl rfl rfl rfl rfl rfl rfl (show ¬ ((0 : Int32) < 0 ∨ 4 ≤ Int32.toNatClampNeg 0) from by decide) ?_
  show AW Z 235 31055 277 [some (.ref 0), some (.int 0)] [] ((zbH u m (va_up t (Int32.toNatClampNeg 0) (some 232)) ++ [Es.flatten]) ++ [kTales 232 dTales]).flatten
  refine AW.joinB ?_
  refine AW.run hZ (zRoom_of hR (by decide) (by decide)) [238] 400 ?_
  exact hnext
set_option maxRecDepth 40000 in
set_option maxHeartbeats 8000000 in
theorem zbm_1 {Z : zCtx} (hZ : zOk Z zMX11_init) (hR : zCan Z 8 271 31301) (hN : zNew Z 1 271) (hO : zAO Z) {u m t : Nat → Option Nat} {Es : List (List zE)} (hE : Es.flatten.length = 148) (hnext : AW Z 243 31109 264 [some (.ref 0), some (.int 1)] [] (zbH u (va_up m (Int32.toNatClampNeg 1) (some 236)) t ++ [(Es ++ [kLives 236 6 dLives]).flatten]).flatten) : AW Z 235 31055 238 [some (.ref 0), some (.int 1)] [] (zbH u m t ++ [Es.flatten]).flatten := by
  refine AW.run hZ (zRoom_of hR (by decide) (by decide)) [244] 400 ?_
  show AW Z 235 31055 244 [some (.ref 0), some (.int 1)] [.int 4, .int 1] (zbH u m t ++ [Es.flatten]).flatten
  refine AW.run hZ (zRoom_of hR (by decide) (by decide)) [] 1 ?_
  show (((4 : Int32) ≤ 1 → AW Z 235 31055 283 [some (.ref 0), some (.int 1)] [] (zbH u m t ++ [Es.flatten]).flatten) ∧ (¬ ((4 : Int32) ≤ 1) → AW Z 235 31055 247 [some (.ref 0), some (.int 1)] [] (zbH u m t ++ [Es.flatten]).flatten))
  refine ⟨fun h => absurd h (by decide), fun h => ?_⟩
  refine AW.run hZ (zRoom_of hR (by decide) (by decide)) [252] 400 ?_
  show AW Z 235 31055 252 [some (.ref 0), some (.int 1)] [.int 1, .ref 67] (zbH u m t ++ [Es.flatten]).flatten
  refine AW.newB (ci := 3) (N := 12) (C := "BorrowedLives$Lives") (T := zT3) (fs := [.null, .null, .null, .null, .null, .null, .null, .null, .int 0, .int 0, .int 0, .int 0]) (show List.map List.length (zbH u m t ++ [Es.flatten]) = [1, 5, 8, 6, 1, 8, 6, 4, 4, 3, 8, 8, 1, 4, 1, 1, 1, 5, 8, 1, 4, 148] from (show [1, 5, 8, 6, 1, 8, 6, 4, 4, 3, 8, 8, 1, 4, 1, 1, 1, 5, 8, 1, 4, Es.flatten.length] = [1, 5, 8, 6, 1, 8, 6, 4, 4, 3, 8, 8, 1, 4, 1, 1, 1, 5, 8, 1, 4, 148] from by rw [hE])) hZ hR hN rfl rfl rfl (zIn_mem (k := 329) (by decide +kernel)) (zIn_mem (k := 330) (by decide +kernel)) (zIn_mem (k := 114) (by decide +kernel)) rfl (by decide) (by decide) (by decide) rfl rfl ?_
  show AW Z 236 31067 255 [some (.ref 0), some (.int 1)] [.ref 236, .int 1, .ref 67] ((zbH u m t ++ [Es.flatten]) ++ ([[.inr (3, [.null, .null, .null, .null, .null, .null, .null, .null, .int 0, .int 0, .int 0, .int 0])]] : List (List zE))).flatten
  refine AW.run hZ (zRoom_of hR (by decide) (by decide)) [260] 400 ?_
  show AW Z 236 31067 260 [some (.ref 0), some (.int 1)] [.ref 6, .ref 236, .ref 236, .int 1, .ref 67] ((zbH u m t ++ [Es.flatten]) ++ ([[.inr (3, [.null, .null, .null, .null, .null, .null, .null, .null, .int 0, .int 0, .int 0, .int 0])]] : List (List zE))).flatten
  refine AW.callIcN (nX := 22) (XA := (zbH u m t ++ [Es.flatten])) (YA := [kTown 0 8 dTown, kLaws 8 dLaws]) rfl hZ hR hN (c_Lives_init dTown dLaws) zMX3_init_ok rfl rfl rfl zK_BorrowedLives_51 zI_X3_init rfl [1, 5, 8, 6, 1, 8, 6, 4, 4, 3, 8, 8, 1, 4, 1, 1, 1, 5, 8, 1, 4, 148, 1] [2, 3] [6, 7, 8, 9, 10, 11, 12, 13, 14, 15, 16, 17, 18, 19, 236] (show List.map List.length ((zbH u m t ++ [Es.flatten]) ++ ([[.inr (3, [.null, .null, .null, .null, .null, .null, .null, .null, .int 0, .int 0, .int 0, .int 0])]] : List (List zE))) = [1, 5, 8, 6, 1, 8, 6, 4, 4, 3, 8, 8, 1, 4, 1, 1, 1, 5, 8, 1, 4, 148, 1] from (show [1, 5, 8, 6, 1, 8, 6, 4, 4, 3, 8, 8, 1, 4, 1, 1, 1, 5, 8, 1, 4, Es.flatten.length, 1] = [1, 5, 8, 6, 1, 8, 6, 4, 4, 3, 8, 8, 1, 4, 1, 1, 1, 5, 8, 1, 4, 148, 1] from by rw [hE])) rfl rfl (by first | decide | rfl) (by first | decide | rfl) (by first | decide | rfl) (by first | decide | rfl) (by first | decide | rfl) (by first | decide | rfl) (by first | decide | rfl) (by first | decide | rfl) rfl rfl ?_
  rintro v cc ⟨rfl, rfl⟩
  refine ⟨[kTown 0 8 dTown, kLaws 8 dLaws], _, _, rfl, rfl, ?_⟩
  show AW Z 243 31109 263 [some (.ref 0), some (.int 1)] [.ref 236, .int 1, .ref 67] (((zbH u m t ++ [Es.flatten]) ++ [[_]]).flatten ++ _)
  refine AW.objB ?_
  show AW Z 243 31109 263 [some (.ref 0), some (.int 1)] [.ref 236, .int 1, .ref 67] ((zbH u m t ++ [Es.flatten]) ++ [kLives 236 6 dLives]).flatten
  refine AW.aastB (t := 4) (N := 4) (q := 67) (w := 236) (ci := 3) (c := 14) (dd := 22) (show List.map List.length ((zbH u m t ++ [Es.flatten]) ++ [kLives 236 6 dLives]) = [1, 5, 8, 6, 1, 8, 6, 4, 4, 3, 8, 8, 1, 4, 1, 1, 1, 5, 8, 1, 4, 148, 8] from (show [1, 5, 8, 6, 1, 8, 6, 4, 4, 3, 8, 8, 1, 4, 1, 1, 1, 5, 8, 1, 4, Es.flatten.length, 8] = [1, 5, 8, 6, 1, 8, 6, 4, 4, 3, 8, 8, 1, 4, 1, 1, 1, 5, 8, 1, 4, 148, 8] from by rw [hE])) hZ rfl rfl rfl rfl rfl rfl rfl rfl (show ¬ ((1 : Int32) < 0 ∨ 4 ≤ Int32.toNatClampNeg 1) from by decide) ?_
  show AW Z 243 31109 264 [some (.ref 0), some (.int 1)] [] ((zbH u (va_up m (Int32.toNatClampNeg 1) (some 236)) t ++ [Es.flatten]) ++ [kLives 236 6 dLives]).flatten
  refine AW.joinB ?_
  exact hnext
set_option maxRecDepth 40000 in
set_option maxHeartbeats 8000000 in
theorem zbt_1 {Z : zCtx} (hZ : zOk Z zMX11_init) (hR : zCan Z 8 271 31301) (hN : zNew Z 1 271) (hO : zAO Z) {u m t : Nat → Option Nat} {Es : List (List zE)} (hE : Es.flatten.length = 156) (hnext : AW Z 247 31137 238 [some (.ref 0), some (.int 2)] [] (zbH u m (va_up t (Int32.toNatClampNeg 1) (some 244)) ++ [(Es ++ [kTales 244 dTales]).flatten]).flatten) : AW Z 243 31109 264 [some (.ref 0), some (.int 1)] [] (zbH u m t ++ [Es.flatten]).flatten := by
  refine AW.run hZ (zRoom_of hR (by decide) (by decide)) [269] 400 ?_
  show AW Z 243 31109 269 [some (.ref 0), some (.int 1)] [.int 1, .ref 68] (zbH u m t ++ [Es.flatten]).flatten
  refine AW.newB (ci := 6) (N := 4) (C := "BorrowedLives$Tales") (T := zT6) (fs := [.int 0, .null, .null, .null]) (show List.map List.length (zbH u m t ++ [Es.flatten]) = [1, 5, 8, 6, 1, 8, 6, 4, 4, 3, 8, 8, 1, 4, 1, 1, 1, 5, 8, 1, 4, 156] from (show [1, 5, 8, 6, 1, 8, 6, 4, 4, 3, 8, 8, 1, 4, 1, 1, 1, 5, 8, 1, 4, Es.flatten.length] = [1, 5, 8, 6, 1, 8, 6, 4, 4, 3, 8, 8, 1, 4, 1, 1, 1, 5, 8, 1, 4, 156] from by rw [hE])) hZ hR hN rfl rfl rfl (zIn_mem (k := 392) (by decide +kernel)) (zIn_mem (k := 393) (by decide +kernel)) (zIn_mem (k := 115) (by decide +kernel)) rfl (by decide) (by decide) (by decide) rfl rfl ?_
  show AW Z 244 31113 272 [some (.ref 0), some (.int 1)] [.ref 244, .int 1, .ref 68] ((zbH u m t ++ [Es.flatten]) ++ ([[.inr (6, [.int 0, .null, .null, .null])]] : List (List zE))).flatten
  refine AW.run hZ (zRoom_of hR (by decide) (by decide)) [273] 400 ?_
  show AW Z 244 31113 273 [some (.ref 0), some (.int 1)] [.ref 244, .ref 244, .int 1, .ref 68] ((zbH u m t ++ [Es.flatten]) ++ ([[.inr (6, [.int 0, .null, .null, .null])]] : List (List zE))).flatten
  refine AW.callIcN (nX := 22) (XA := (zbH u m t ++ [Es.flatten])) (YA := []) rfl hZ hR hN c_Tales_init zMX6_init_ok rfl rfl rfl zK_BorrowedLives_74 zI_X6_init rfl [1, 5, 8, 6, 1, 8, 6, 4, 4, 3, 8, 8, 1, 4, 1, 1, 1, 5, 8, 1, 4, 156, 1] [] [244] (show List.map List.length ((zbH u m t ++ [Es.flatten]) ++ ([[.inr (6, [.int 0, .null, .null, .null])]] : List (List zE))) = [1, 5, 8, 6, 1, 8, 6, 4, 4, 3, 8, 8, 1, 4, 1, 1, 1, 5, 8, 1, 4, 156, 1] from (show [1, 5, 8, 6, 1, 8, 6, 4, 4, 3, 8, 8, 1, 4, 1, 1, 1, 5, 8, 1, 4, Es.flatten.length, 1] = [1, 5, 8, 6, 1, 8, 6, 4, 4, 3, 8, 8, 1, 4, 1, 1, 1, 5, 8, 1, 4, 156, 1] from by rw [hE])) rfl rfl (by first | decide | rfl) (by first | decide | rfl) (by first | decide | rfl) (by first | decide | rfl) (by first | decide | rfl) (by first | decide | rfl) (by first | decide | rfl) (by first | decide | rfl) rfl rfl ?_
  rintro v cc ⟨rfl, rfl⟩
  refine ⟨[], _, _, rfl, rfl, ?_⟩
  show AW Z 247 31137 276 [some (.ref 0), some (.int 1)] [.ref 244, .int 1, .ref 68] (((zbH u m t ++ [Es.flatten]) ++ [[_]]).flatten ++ _)
  refine AW.objB ?_
  show AW Z 247 31137 276 [some (.ref 0), some (.int 1)] [.ref 244, .int 1, .ref 68] ((zbH u m t ++ [Es.flatten]) ++ [kTales 244 dTales]).flatten
  refine AW.aastB (t := 5) (N := 4) (q := 68) (w := 244) (ci := 6) (c := 15) (dd := 22) (show List.map List.length ((zbH u m t ++ [Es.flatten]) ++ [kTales 244 dTales]) = [1, 5, 8, 6, 1, 8, 6, 4, 4, 3, 8, 8, 1, 4, 1, 1, 1, 5, 8, 1, 4, 156, 4] from (show [1, 5, 8, 6, 1, 8, 6, 4, 4, 3, 8, 8, 1, 4, 1, 1, 1, 5, 8, 1, 4, Es.flatten.length, 4] = [1, 5, 8, 6, 1, 8, 6, 4, 4, 3, 8, 8, 1, 4, 1, 1, 1, 5, 8, 1, 4, 156, 4] from by rw [hE])) hZ rfl rfl rfl rfl rfl rfl rfl rfl (show ¬ ((1 : Int32) < 0 ∨ 4 ≤ Int32.toNatClampNeg 1) from by decide) ?_
  show AW Z 247 31137 277 [some (.ref 0), some (.int 1)] [] ((zbH u m (va_up t (Int32.toNatClampNeg 1) (some 244)) ++ [Es.flatten]) ++ [kTales 244 dTales]).flatten
  refine AW.joinB ?_
  refine AW.run hZ (zRoom_of hR (by decide) (by decide)) [238] 400 ?_
  exact hnext
set_option maxRecDepth 40000 in
set_option maxHeartbeats 8000000 in
theorem zbm_2 {Z : zCtx} (hZ : zOk Z zMX11_init) (hR : zCan Z 8 271 31301) (hN : zNew Z 1 271) (hO : zAO Z) {u m t : Nat → Option Nat} {Es : List (List zE)} (hE : Es.flatten.length = 160) (hnext : AW Z 255 31191 264 [some (.ref 0), some (.int 2)] [] (zbH u (va_up m (Int32.toNatClampNeg 2) (some 248)) t ++ [(Es ++ [kLives 248 6 dLives]).flatten]).flatten) : AW Z 247 31137 238 [some (.ref 0), some (.int 2)] [] (zbH u m t ++ [Es.flatten]).flatten := by
  refine AW.run hZ (zRoom_of hR (by decide) (by decide)) [244] 400 ?_
  show AW Z 247 31137 244 [some (.ref 0), some (.int 2)] [.int 4, .int 2] (zbH u m t ++ [Es.flatten]).flatten
  refine AW.run hZ (zRoom_of hR (by decide) (by decide)) [] 1 ?_
  show (((4 : Int32) ≤ 2 → AW Z 247 31137 283 [some (.ref 0), some (.int 2)] [] (zbH u m t ++ [Es.flatten]).flatten) ∧ (¬ ((4 : Int32) ≤ 2) → AW Z 247 31137 247 [some (.ref 0), some (.int 2)] [] (zbH u m t ++ [Es.flatten]).flatten))
  refine ⟨fun h => absurd h (by decide), fun h => ?_⟩
  refine AW.run hZ (zRoom_of hR (by decide) (by decide)) [252] 400 ?_
  show AW Z 247 31137 252 [some (.ref 0), some (.int 2)] [.int 2, .ref 67] (zbH u m t ++ [Es.flatten]).flatten
  refine AW.newB (ci := 3) (N := 12) (C := "BorrowedLives$Lives") (T := zT3) (fs := [.null, .null, .null, .null, .null, .null, .null, .null, .int 0, .int 0, .int 0, .int 0]) (show List.map List.length (zbH u m t ++ [Es.flatten]) = [1, 5, 8, 6, 1, 8, 6, 4, 4, 3, 8, 8, 1, 4, 1, 1, 1, 5, 8, 1, 4, 160] from (show [1, 5, 8, 6, 1, 8, 6, 4, 4, 3, 8, 8, 1, 4, 1, 1, 1, 5, 8, 1, 4, Es.flatten.length] = [1, 5, 8, 6, 1, 8, 6, 4, 4, 3, 8, 8, 1, 4, 1, 1, 1, 5, 8, 1, 4, 160] from by rw [hE])) hZ hR hN rfl rfl rfl (zIn_mem (k := 329) (by decide +kernel)) (zIn_mem (k := 330) (by decide +kernel)) (zIn_mem (k := 114) (by decide +kernel)) rfl (by decide) (by decide) (by decide) rfl rfl ?_
  show AW Z 248 31149 255 [some (.ref 0), some (.int 2)] [.ref 248, .int 2, .ref 67] ((zbH u m t ++ [Es.flatten]) ++ ([[.inr (3, [.null, .null, .null, .null, .null, .null, .null, .null, .int 0, .int 0, .int 0, .int 0])]] : List (List zE))).flatten
  refine AW.run hZ (zRoom_of hR (by decide) (by decide)) [260] 400 ?_
  show AW Z 248 31149 260 [some (.ref 0), some (.int 2)] [.ref 6, .ref 248, .ref 248, .int 2, .ref 67] ((zbH u m t ++ [Es.flatten]) ++ ([[.inr (3, [.null, .null, .null, .null, .null, .null, .null, .null, .int 0, .int 0, .int 0, .int 0])]] : List (List zE))).flatten
  refine AW.callIcN (nX := 22) (XA := (zbH u m t ++ [Es.flatten])) (YA := [kTown 0 8 dTown, kLaws 8 dLaws]) rfl hZ hR hN (c_Lives_init dTown dLaws) zMX3_init_ok rfl rfl rfl zK_BorrowedLives_51 zI_X3_init rfl [1, 5, 8, 6, 1, 8, 6, 4, 4, 3, 8, 8, 1, 4, 1, 1, 1, 5, 8, 1, 4, 160, 1] [2, 3] [6, 7, 8, 9, 10, 11, 12, 13, 14, 15, 16, 17, 18, 19, 248] (show List.map List.length ((zbH u m t ++ [Es.flatten]) ++ ([[.inr (3, [.null, .null, .null, .null, .null, .null, .null, .null, .int 0, .int 0, .int 0, .int 0])]] : List (List zE))) = [1, 5, 8, 6, 1, 8, 6, 4, 4, 3, 8, 8, 1, 4, 1, 1, 1, 5, 8, 1, 4, 160, 1] from (show [1, 5, 8, 6, 1, 8, 6, 4, 4, 3, 8, 8, 1, 4, 1, 1, 1, 5, 8, 1, 4, Es.flatten.length, 1] = [1, 5, 8, 6, 1, 8, 6, 4, 4, 3, 8, 8, 1, 4, 1, 1, 1, 5, 8, 1, 4, 160, 1] from by rw [hE])) rfl rfl (by first | decide | rfl) (by first | decide | rfl) (by first | decide | rfl) (by first | decide | rfl) (by first | decide | rfl) (by first | decide | rfl) (by first | decide | rfl) (by first | decide | rfl) rfl rfl ?_
  rintro v cc ⟨rfl, rfl⟩
  refine ⟨[kTown 0 8 dTown, kLaws 8 dLaws], _, _, rfl, rfl, ?_⟩
  show AW Z 255 31191 263 [some (.ref 0), some (.int 2)] [.ref 248, .int 2, .ref 67] (((zbH u m t ++ [Es.flatten]) ++ [[_]]).flatten ++ _)
  refine AW.objB ?_
  show AW Z 255 31191 263 [some (.ref 0), some (.int 2)] [.ref 248, .int 2, .ref 67] ((zbH u m t ++ [Es.flatten]) ++ [kLives 248 6 dLives]).flatten
  refine AW.aastB (t := 4) (N := 4) (q := 67) (w := 248) (ci := 3) (c := 14) (dd := 22) (show List.map List.length ((zbH u m t ++ [Es.flatten]) ++ [kLives 248 6 dLives]) = [1, 5, 8, 6, 1, 8, 6, 4, 4, 3, 8, 8, 1, 4, 1, 1, 1, 5, 8, 1, 4, 160, 8] from (show [1, 5, 8, 6, 1, 8, 6, 4, 4, 3, 8, 8, 1, 4, 1, 1, 1, 5, 8, 1, 4, Es.flatten.length, 8] = [1, 5, 8, 6, 1, 8, 6, 4, 4, 3, 8, 8, 1, 4, 1, 1, 1, 5, 8, 1, 4, 160, 8] from by rw [hE])) hZ rfl rfl rfl rfl rfl rfl rfl rfl (show ¬ ((2 : Int32) < 0 ∨ 4 ≤ Int32.toNatClampNeg 2) from by decide) ?_
  show AW Z 255 31191 264 [some (.ref 0), some (.int 2)] [] ((zbH u (va_up m (Int32.toNatClampNeg 2) (some 248)) t ++ [Es.flatten]) ++ [kLives 248 6 dLives]).flatten
  refine AW.joinB ?_
  exact hnext
set_option maxRecDepth 40000 in
set_option maxHeartbeats 8000000 in
theorem zbt_2 {Z : zCtx} (hZ : zOk Z zMX11_init) (hR : zCan Z 8 271 31301) (hN : zNew Z 1 271) (hO : zAO Z) {u m t : Nat → Option Nat} {Es : List (List zE)} (hE : Es.flatten.length = 168) (hnext : AW Z 259 31219 238 [some (.ref 0), some (.int 3)] [] (zbH u m (va_up t (Int32.toNatClampNeg 2) (some 256)) ++ [(Es ++ [kTales 256 dTales]).flatten]).flatten) : AW Z 255 31191 264 [some (.ref 0), some (.int 2)] [] (zbH u m t ++ [Es.flatten]).flatten := by
  refine AW.run hZ (zRoom_of hR (by decide) (by decide)) [269] 400 ?_
  show AW Z 255 31191 269 [some (.ref 0), some (.int 2)] [.int 2, .ref 68] (zbH u m t ++ [Es.flatten]).flatten
  refine AW.newB (ci := 6) (N := 4) (C := "BorrowedLives$Tales") (T := zT6) (fs := [.int 0, .null, .null, .null]) (show List.map List.length (zbH u m t ++ [Es.flatten]) = [1, 5, 8, 6, 1, 8, 6, 4, 4, 3, 8, 8, 1, 4, 1, 1, 1, 5, 8, 1, 4, 168] from (show [1, 5, 8, 6, 1, 8, 6, 4, 4, 3, 8, 8, 1, 4, 1, 1, 1, 5, 8, 1, 4, Es.flatten.length] = [1, 5, 8, 6, 1, 8, 6, 4, 4, 3, 8, 8, 1, 4, 1, 1, 1, 5, 8, 1, 4, 168] from by rw [hE])) hZ hR hN rfl rfl rfl (zIn_mem (k := 392) (by decide +kernel)) (zIn_mem (k := 393) (by decide +kernel)) (zIn_mem (k := 115) (by decide +kernel)) rfl (by decide) (by decide) (by decide) rfl rfl ?_
  show AW Z 256 31195 272 [some (.ref 0), some (.int 2)] [.ref 256, .int 2, .ref 68] ((zbH u m t ++ [Es.flatten]) ++ ([[.inr (6, [.int 0, .null, .null, .null])]] : List (List zE))).flatten
  refine AW.run hZ (zRoom_of hR (by decide) (by decide)) [273] 400 ?_
  show AW Z 256 31195 273 [some (.ref 0), some (.int 2)] [.ref 256, .ref 256, .int 2, .ref 68] ((zbH u m t ++ [Es.flatten]) ++ ([[.inr (6, [.int 0, .null, .null, .null])]] : List (List zE))).flatten
  refine AW.callIcN (nX := 22) (XA := (zbH u m t ++ [Es.flatten])) (YA := []) rfl hZ hR hN c_Tales_init zMX6_init_ok rfl rfl rfl zK_BorrowedLives_74 zI_X6_init rfl [1, 5, 8, 6, 1, 8, 6, 4, 4, 3, 8, 8, 1, 4, 1, 1, 1, 5, 8, 1, 4, 168, 1] [] [256] (show List.map List.length ((zbH u m t ++ [Es.flatten]) ++ ([[.inr (6, [.int 0, .null, .null, .null])]] : List (List zE))) = [1, 5, 8, 6, 1, 8, 6, 4, 4, 3, 8, 8, 1, 4, 1, 1, 1, 5, 8, 1, 4, 168, 1] from (show [1, 5, 8, 6, 1, 8, 6, 4, 4, 3, 8, 8, 1, 4, 1, 1, 1, 5, 8, 1, 4, Es.flatten.length, 1] = [1, 5, 8, 6, 1, 8, 6, 4, 4, 3, 8, 8, 1, 4, 1, 1, 1, 5, 8, 1, 4, 168, 1] from by rw [hE])) rfl rfl (by first | decide | rfl) (by first | decide | rfl) (by first | decide | rfl) (by first | decide | rfl) (by first | decide | rfl) (by first | decide | rfl) (by first | decide | rfl) (by first | decide | rfl) rfl rfl ?_
  rintro v cc ⟨rfl, rfl⟩
  refine ⟨[], _, _, rfl, rfl, ?_⟩
  show AW Z 259 31219 276 [some (.ref 0), some (.int 2)] [.ref 256, .int 2, .ref 68] (((zbH u m t ++ [Es.flatten]) ++ [[_]]).flatten ++ _)
  refine AW.objB ?_
  show AW Z 259 31219 276 [some (.ref 0), some (.int 2)] [.ref 256, .int 2, .ref 68] ((zbH u m t ++ [Es.flatten]) ++ [kTales 256 dTales]).flatten
  refine AW.aastB (t := 5) (N := 4) (q := 68) (w := 256) (ci := 6) (c := 15) (dd := 22) (show List.map List.length ((zbH u m t ++ [Es.flatten]) ++ [kTales 256 dTales]) = [1, 5, 8, 6, 1, 8, 6, 4, 4, 3, 8, 8, 1, 4, 1, 1, 1, 5, 8, 1, 4, 168, 4] from (show [1, 5, 8, 6, 1, 8, 6, 4, 4, 3, 8, 8, 1, 4, 1, 1, 1, 5, 8, 1, 4, Es.flatten.length, 4] = [1, 5, 8, 6, 1, 8, 6, 4, 4, 3, 8, 8, 1, 4, 1, 1, 1, 5, 8, 1, 4, 168, 4] from by rw [hE])) hZ rfl rfl rfl rfl rfl rfl rfl rfl (show ¬ ((2 : Int32) < 0 ∨ 4 ≤ Int32.toNatClampNeg 2) from by decide) ?_
  show AW Z 259 31219 277 [some (.ref 0), some (.int 2)] [] ((zbH u m (va_up t (Int32.toNatClampNeg 2) (some 256)) ++ [Es.flatten]) ++ [kTales 256 dTales]).flatten
  refine AW.joinB ?_
  refine AW.run hZ (zRoom_of hR (by decide) (by decide)) [238] 400 ?_
  exact hnext
set_option maxRecDepth 40000 in
set_option maxHeartbeats 8000000 in
theorem zbm_3 {Z : zCtx} (hZ : zOk Z zMX11_init) (hR : zCan Z 8 271 31301) (hN : zNew Z 1 271) (hO : zAO Z) {u m t : Nat → Option Nat} {Es : List (List zE)} (hE : Es.flatten.length = 172) (hnext : AW Z 267 31273 264 [some (.ref 0), some (.int 3)] [] (zbH u (va_up m (Int32.toNatClampNeg 3) (some 260)) t ++ [(Es ++ [kLives 260 6 dLives]).flatten]).flatten) : AW Z 259 31219 238 [some (.ref 0), some (.int 3)] [] (zbH u m t ++ [Es.flatten]).flatten := by
  refine AW.run hZ (zRoom_of hR (by decide) (by decide)) [244] 400 ?_
  show AW Z 259 31219 244 [some (.ref 0), some (.int 3)] [.int 4, .int 3] (zbH u m t ++ [Es.flatten]).flatten
  refine AW.run hZ (zRoom_of hR (by decide) (by decide)) [] 1 ?_
  show (((4 : Int32) ≤ 3 → AW Z 259 31219 283 [some (.ref 0), some (.int 3)] [] (zbH u m t ++ [Es.flatten]).flatten) ∧ (¬ ((4 : Int32) ≤ 3) → AW Z 259 31219 247 [some (.ref 0), some (.int 3)] [] (zbH u m t ++ [Es.flatten]).flatten))
  refine ⟨fun h => absurd h (by decide), fun h => ?_⟩
  refine AW.run hZ (zRoom_of hR (by decide) (by decide)) [252] 400 ?_
  show AW Z 259 31219 252 [some (.ref 0), some (.int 3)] [.int 3, .ref 67] (zbH u m t ++ [Es.flatten]).flatten
  refine AW.newB (ci := 3) (N := 12) (C := "BorrowedLives$Lives") (T := zT3) (fs := [.null, .null, .null, .null, .null, .null, .null, .null, .int 0, .int 0, .int 0, .int 0]) (show List.map List.length (zbH u m t ++ [Es.flatten]) = [1, 5, 8, 6, 1, 8, 6, 4, 4, 3, 8, 8, 1, 4, 1, 1, 1, 5, 8, 1, 4, 172] from (show [1, 5, 8, 6, 1, 8, 6, 4, 4, 3, 8, 8, 1, 4, 1, 1, 1, 5, 8, 1, 4, Es.flatten.length] = [1, 5, 8, 6, 1, 8, 6, 4, 4, 3, 8, 8, 1, 4, 1, 1, 1, 5, 8, 1, 4, 172] from by rw [hE])) hZ hR hN rfl rfl rfl (zIn_mem (k := 329) (by decide +kernel)) (zIn_mem (k := 330) (by decide +kernel)) (zIn_mem (k := 114) (by decide +kernel)) rfl (by decide) (by decide) (by decide) rfl rfl ?_
  show AW Z 260 31231 255 [some (.ref 0), some (.int 3)] [.ref 260, .int 3, .ref 67] ((zbH u m t ++ [Es.flatten]) ++ ([[.inr (3, [.null, .null, .null, .null, .null, .null, .null, .null, .int 0, .int 0, .int 0, .int 0])]] : List (List zE))).flatten
  refine AW.run hZ (zRoom_of hR (by decide) (by decide)) [260] 400 ?_
  show AW Z 260 31231 260 [some (.ref 0), some (.int 3)] [.ref 6, .ref 260, .ref 260, .int 3, .ref 67] ((zbH u m t ++ [Es.flatten]) ++ ([[.inr (3, [.null, .null, .null, .null, .null, .null, .null, .null, .int 0, .int 0, .int 0, .int 0])]] : List (List zE))).flatten
  refine AW.callIcN (nX := 22) (XA := (zbH u m t ++ [Es.flatten])) (YA := [kTown 0 8 dTown, kLaws 8 dLaws]) rfl hZ hR hN (c_Lives_init dTown dLaws) zMX3_init_ok rfl rfl rfl zK_BorrowedLives_51 zI_X3_init rfl [1, 5, 8, 6, 1, 8, 6, 4, 4, 3, 8, 8, 1, 4, 1, 1, 1, 5, 8, 1, 4, 172, 1] [2, 3] [6, 7, 8, 9, 10, 11, 12, 13, 14, 15, 16, 17, 18, 19, 260] (show List.map List.length ((zbH u m t ++ [Es.flatten]) ++ ([[.inr (3, [.null, .null, .null, .null, .null, .null, .null, .null, .int 0, .int 0, .int 0, .int 0])]] : List (List zE))) = [1, 5, 8, 6, 1, 8, 6, 4, 4, 3, 8, 8, 1, 4, 1, 1, 1, 5, 8, 1, 4, 172, 1] from (show [1, 5, 8, 6, 1, 8, 6, 4, 4, 3, 8, 8, 1, 4, 1, 1, 1, 5, 8, 1, 4, Es.flatten.length, 1] = [1, 5, 8, 6, 1, 8, 6, 4, 4, 3, 8, 8, 1, 4, 1, 1, 1, 5, 8, 1, 4, 172, 1] from by rw [hE])) rfl rfl (by first | decide | rfl) (by first | decide | rfl) (by first | decide | rfl) (by first | decide | rfl) (by first | decide | rfl) (by first | decide | rfl) (by first | decide | rfl) (by first | decide | rfl) rfl rfl ?_
  rintro v cc ⟨rfl, rfl⟩
  refine ⟨[kTown 0 8 dTown, kLaws 8 dLaws], _, _, rfl, rfl, ?_⟩
  show AW Z 267 31273 263 [some (.ref 0), some (.int 3)] [.ref 260, .int 3, .ref 67] (((zbH u m t ++ [Es.flatten]) ++ [[_]]).flatten ++ _)
  refine AW.objB ?_
  show AW Z 267 31273 263 [some (.ref 0), some (.int 3)] [.ref 260, .int 3, .ref 67] ((zbH u m t ++ [Es.flatten]) ++ [kLives 260 6 dLives]).flatten
  refine AW.aastB (t := 4) (N := 4) (q := 67) (w := 260) (ci := 3) (c := 14) (dd := 22) (show List.map List.length ((zbH u m t ++ [Es.flatten]) ++ [kLives 260 6 dLives]) = [1, 5, 8, 6, 1, 8, 6, 4, 4, 3, 8, 8, 1, 4, 1, 1, 1, 5, 8, 1, 4, 172, 8] from (show [1, 5, 8, 6, 1, 8, 6, 4, 4, 3, 8, 8, 1, 4, 1, 1, 1, 5, 8, 1, 4, Es.flatten.length, 8] = [1, 5, 8, 6, 1, 8, 6, 4, 4, 3, 8, 8, 1, 4, 1, 1, 1, 5, 8, 1, 4, 172, 8] from by rw [hE])) hZ rfl rfl rfl rfl rfl rfl rfl rfl (show ¬ ((3 : Int32) < 0 ∨ 4 ≤ Int32.toNatClampNeg 3) from by decide) ?_
  show AW Z 267 31273 264 [some (.ref 0), some (.int 3)] [] ((zbH u (va_up m (Int32.toNatClampNeg 3) (some 260)) t ++ [Es.flatten]) ++ [kLives 260 6 dLives]).flatten
  refine AW.joinB ?_
  exact hnext
set_option maxRecDepth 40000 in
set_option maxHeartbeats 8000000 in
theorem zbt_3 {Z : zCtx} (hZ : zOk Z zMX11_init) (hR : zCan Z 8 271 31301) (hN : zNew Z 1 271) (hO : zAO Z) {u m t : Nat → Option Nat} {Es : List (List zE)} (hE : Es.flatten.length = 180) (hnext : AW Z 271 31301 238 [some (.ref 0), some (.int 4)] [] (zbH u m (va_up t (Int32.toNatClampNeg 3) (some 268)) ++ [(Es ++ [kTales 268 dTales]).flatten]).flatten) : AW Z 267 31273 264 [some (.ref 0), some (.int 3)] [] (zbH u m t ++ [Es.flatten]).flatten := by
  refine AW.run hZ (zRoom_of hR (by decide) (by decide)) [269] 400 ?_
  show AW Z 267 31273 269 [some (.ref 0), some (.int 3)] [.int 3, .ref 68] (zbH u m t ++ [Es.flatten]).flatten
  refine AW.newB (ci := 6) (N := 4) (C := "BorrowedLives$Tales") (T := zT6) (fs := [.int 0, .null, .null, .null]) (show List.map List.length (zbH u m t ++ [Es.flatten]) = [1, 5, 8, 6, 1, 8, 6, 4, 4, 3, 8, 8, 1, 4, 1, 1, 1, 5, 8, 1, 4, 180] from (show [1, 5, 8, 6, 1, 8, 6, 4, 4, 3, 8, 8, 1, 4, 1, 1, 1, 5, 8, 1, 4, Es.flatten.length] = [1, 5, 8, 6, 1, 8, 6, 4, 4, 3, 8, 8, 1, 4, 1, 1, 1, 5, 8, 1, 4, 180] from by rw [hE])) hZ hR hN rfl rfl rfl (zIn_mem (k := 392) (by decide +kernel)) (zIn_mem (k := 393) (by decide +kernel)) (zIn_mem (k := 115) (by decide +kernel)) rfl (by decide) (by decide) (by decide) rfl rfl ?_
  show AW Z 268 31277 272 [some (.ref 0), some (.int 3)] [.ref 268, .int 3, .ref 68] ((zbH u m t ++ [Es.flatten]) ++ ([[.inr (6, [.int 0, .null, .null, .null])]] : List (List zE))).flatten
  refine AW.run hZ (zRoom_of hR (by decide) (by decide)) [273] 400 ?_
  show AW Z 268 31277 273 [some (.ref 0), some (.int 3)] [.ref 268, .ref 268, .int 3, .ref 68] ((zbH u m t ++ [Es.flatten]) ++ ([[.inr (6, [.int 0, .null, .null, .null])]] : List (List zE))).flatten
  refine AW.callIcN (nX := 22) (XA := (zbH u m t ++ [Es.flatten])) (YA := []) rfl hZ hR hN c_Tales_init zMX6_init_ok rfl rfl rfl zK_BorrowedLives_74 zI_X6_init rfl [1, 5, 8, 6, 1, 8, 6, 4, 4, 3, 8, 8, 1, 4, 1, 1, 1, 5, 8, 1, 4, 180, 1] [] [268] (show List.map List.length ((zbH u m t ++ [Es.flatten]) ++ ([[.inr (6, [.int 0, .null, .null, .null])]] : List (List zE))) = [1, 5, 8, 6, 1, 8, 6, 4, 4, 3, 8, 8, 1, 4, 1, 1, 1, 5, 8, 1, 4, 180, 1] from (show [1, 5, 8, 6, 1, 8, 6, 4, 4, 3, 8, 8, 1, 4, 1, 1, 1, 5, 8, 1, 4, Es.flatten.length, 1] = [1, 5, 8, 6, 1, 8, 6, 4, 4, 3, 8, 8, 1, 4, 1, 1, 1, 5, 8, 1, 4, 180, 1] from by rw [hE])) rfl rfl (by first | decide | rfl) (by first | decide | rfl) (by first | decide | rfl) (by first | decide | rfl) (by first | decide | rfl) (by first | decide | rfl) (by first | decide | rfl) (by first | decide | rfl) rfl rfl ?_
  rintro v cc ⟨rfl, rfl⟩
  refine ⟨[], _, _, rfl, rfl, ?_⟩
  show AW Z 271 31301 276 [some (.ref 0), some (.int 3)] [.ref 268, .int 3, .ref 68] (((zbH u m t ++ [Es.flatten]) ++ [[_]]).flatten ++ _)
  refine AW.objB ?_
  show AW Z 271 31301 276 [some (.ref 0), some (.int 3)] [.ref 268, .int 3, .ref 68] ((zbH u m t ++ [Es.flatten]) ++ [kTales 268 dTales]).flatten
  refine AW.aastB (t := 5) (N := 4) (q := 68) (w := 268) (ci := 6) (c := 15) (dd := 22) (show List.map List.length ((zbH u m t ++ [Es.flatten]) ++ [kTales 268 dTales]) = [1, 5, 8, 6, 1, 8, 6, 4, 4, 3, 8, 8, 1, 4, 1, 1, 1, 5, 8, 1, 4, 180, 4] from (show [1, 5, 8, 6, 1, 8, 6, 4, 4, 3, 8, 8, 1, 4, 1, 1, 1, 5, 8, 1, 4, Es.flatten.length, 4] = [1, 5, 8, 6, 1, 8, 6, 4, 4, 3, 8, 8, 1, 4, 1, 1, 1, 5, 8, 1, 4, 180, 4] from by rw [hE])) hZ rfl rfl rfl rfl rfl rfl rfl rfl (show ¬ ((3 : Int32) < 0 ∨ 4 ≤ Int32.toNatClampNeg 3) from by decide) ?_
  show AW Z 271 31301 277 [some (.ref 0), some (.int 3)] [] ((zbH u m (va_up t (Int32.toNatClampNeg 3) (some 268)) ++ [Es.flatten]) ++ [kTales 268 dTales]).flatten
  refine AW.joinB ?_
  refine AW.run hZ (zRoom_of hR (by decide) (by decide)) [238] 400 ?_
  exact hnext
/-- the whole of an object of the class -/
def zBX (v0 : VBl) (v1 : VTape) (v2 : VTown) (v3 : VLaws) (v4 : VReader) (v5 : VTown) (v6 : VLaws) (v7 : VYear) (v8 : VYear) (v9 : VLots) (v10 : VLives) (v11 : VLives) (v13 : VTales) (v17 : VForecast) (v18 : VLives) (v19 : VDeeds) (v20 : VPairs) (und : (Nat → VLives)) (mls : (Nat → VLives)) (mts : (Nat → VTales)) : List (List zE) := [kBl 0 v0, kTape 1 v1, kTown 6 14 v2, kLaws 14 v3, kReader 20 1 21 v4, kTown 21 29 v5, kLaws 29 v6, kYear 35 v7, kYear 39 v8, kLots 43 v9, kLives 46 6 v10, kLives 54 6 v11, kBl_undos 0, kTales 63 v13, kBl_markedLives 0, kBl_markedTales 0, kBl_laid (Bl_laid v0), kForecast 70 6 43 46 75 v17, kLives 75 6 v18, kDeeds 83 v19, kPairs 84 v20, kLives 88 6 (und 0), kLives 96 6 (und 1), kLives 104 6 (und 2), kLives 112 6 (und 3), kLives 120 6 (und 4), kLives 128 6 (und 5), kLives 136 6 (und 6), kLives 144 6 (und 7), kLives 152 6 (und 8), kLives 160 6 (und 9), kLives 168 6 (und 10), kLives 176 6 (und 11), kLives 184 6 (und 12), kLives 192 6 (und 13), kLives 200 6 (und 14), kLives 208 6 (und 15), kLives 216 6 (und 16), kLives 224 6 (mls 0), kTales 232 (mts 0), kLives 236 6 (mls 1), kTales 244 (mts 1), kLives 248 6 (mls 2), kTales 256 (mts 2), kLives 260 6 (mls 3), kTales 268 (mts 3)]
def zBcs (v0 : VBl) (v1 : VTape) (v2 : VTown) (v3 : VLaws) (v4 : VReader) (v5 : VTown) (v6 : VLaws) (v7 : VYear) (v8 : VYear) (v9 : VLots) (v10 : VLives) (v11 : VLives) (v13 : VTales) (v17 : VForecast) (v18 : VLives) (v19 : VDeeds) (v20 : VPairs) (und : (Nat → VLives)) (mls : (Nat → VLives)) (mts : (Nat → VTales)) : List zE := (zBX v0 v1 v2 v3 v4 v5 v6 v7 v8 v9 v10 v11 v13 v17 v18 v19 v20 und mls mts).flatten
set_option maxRecDepth 40000 in
set_option maxHeartbeats 8000000 in
theorem zbz_0 {Z : zCtx} (hZ : zOk Z zMX11_init) (hR : zCan Z 8 271 31301) (hN : zNew Z 1 271) (hO : zAO Z) {u m t : Nat → Option Nat} {Es : List (List zE)} (hnext : AW Z 271 31301 283 [some (.ref 0), some (.int 4)] [] (zbH u m t ++ [Es.flatten]).flatten) : AW Z 271 31301 238 [some (.ref 0), some (.int 4)] [] (zbH u m t ++ [Es.flatten]).flatten := by
  refine AW.run hZ (zRoom_of hR (by decide) (by decide)) [244] 400 ?_
  show AW Z 271 31301 244 [some (.ref 0), some (.int 4)] [.int 4, .int 4] (zbH u m t ++ [Es.flatten]).flatten
  refine AW.run hZ (zRoom_of hR (by decide) (by decide)) [] 1 ?_
  show (((4 : Int32) ≤ 4 → AW Z 271 31301 283 [some (.ref 0), some (.int 4)] [] (zbH u m t ++ [Es.flatten]).flatten) ∧ (¬ ((4 : Int32) ≤ 4) → AW Z 271 31301 247 [some (.ref 0), some (.int 4)] [] (zbH u m t ++ [Es.flatten]).flatten))
  refine ⟨fun h => ?_, fun h => absurd (by decide) h⟩
  exact hnext
set_option maxRecDepth 40000 in
set_option maxHeartbeats 8000000 in
theorem zbz_1 {Z : zCtx} (hZ : zOk Z zMX11_init) (hR : zCan Z 8 271 31301) (hN : zNew Z 1 271) (hO : zAO Z) (hE : zEnd Z (1 + 271) 271 31301 (fun v cc => v = none ∧ cc = zBcs dBl dTape dTown dLaws dReader dTown dLaws dYear dYear dLots dLives dLives dTales dForecast dLives dDeeds dPairs (fun _ => dLives) (fun _ => dLives) (fun _ => dTales))) {u m t : Nat → Option Nat} {Es : List (List zE)} (hEl : Es.flatten.length = 184) (hu : ∀ j, j < 17 → u j = (fun j => some (0 + (88 + 8 * j))) j) (hm : ∀ j, j < 4 → m j = (fun j => some (0 + (224 + 12 * j))) j) (ht : ∀ j, j < 4 → t j = (fun j => some (0 + (232 + 12 * j))) j) (hw : (zbH (fun j => some (0 + (88 + 8 * j))) (fun j => some (0 + (224 + 12 * j))) (fun j => some (0 + (232 + 12 * j))) ++ Es).flatten = zBcs dBl dTape dTown dLaws dReader dTown dLaws dYear dYear dLots dLives dLives dTales dForecast dLives dDeeds dPairs (fun _ => dLives) (fun _ => dLives) (fun _ => dTales)) : AW Z 271 31301 283 [some (.ref 0), some (.int 4)] [] (zbH u m t ++ [Es.flatten]).flatten := by
  refine AW.reArrB (t := 4) (N := 17) (q := 62) (c := 12) (g := (fun j => some (0 + (88 + 8 * j)))) (show List.map List.length (zbH u m t ++ [Es.flatten]) = [1, 5, 8, 6, 1, 8, 6, 4, 4, 3, 8, 8, 1, 4, 1, 1, 1, 5, 8, 1, 4, 184] from (show [1, 5, 8, 6, 1, 8, 6, 4, 4, 3, 8, 8, 1, 4, 1, 1, 1, 5, 8, 1, 4, Es.flatten.length] = [1, 5, 8, 6, 1, 8, 6, 4, 4, 3, 8, 8, 1, 4, 1, 1, 1, 5, 8, 1, 4, 184] from by rw [hEl])) rfl rfl hu ?_
  show AW Z 271 31301 283 [some (.ref 0), some (.int 4)] [] (zbH (fun j => some (0 + (88 + 8 * j))) m t ++ [Es.flatten]).flatten
  refine AW.reArrB (t := 4) (N := 4) (q := 67) (c := 14) (g := (fun j => some (0 + (224 + 12 * j)))) (show List.map List.length (zbH (fun j => some (0 + (88 + 8 * j))) m t ++ [Es.flatten]) = [1, 5, 8, 6, 1, 8, 6, 4, 4, 3, 8, 8, 1, 4, 1, 1, 1, 5, 8, 1, 4, 184] from (show [1, 5, 8, 6, 1, 8, 6, 4, 4, 3, 8, 8, 1, 4, 1, 1, 1, 5, 8, 1, 4, Es.flatten.length] = [1, 5, 8, 6, 1, 8, 6, 4, 4, 3, 8, 8, 1, 4, 1, 1, 1, 5, 8, 1, 4, 184] from by rw [hEl])) rfl rfl hm ?_
  show AW Z 271 31301 283 [some (.ref 0), some (.int 4)] [] (zbH (fun j => some (0 + (88 + 8 * j))) (fun j => some (0 + (224 + 12 * j))) t ++ [Es.flatten]).flatten
  refine AW.reArrB (t := 5) (N := 4) (q := 68) (c := 15) (g := (fun j => some (0 + (232 + 12 * j)))) (show List.map List.length (zbH (fun j => some (0 + (88 + 8 * j))) (fun j => some (0 + (224 + 12 * j))) t ++ [Es.flatten]) = [1, 5, 8, 6, 1, 8, 6, 4, 4, 3, 8, 8, 1, 4, 1, 1, 1, 5, 8, 1, 4, 184] from (show [1, 5, 8, 6, 1, 8, 6, 4, 4, 3, 8, 8, 1, 4, 1, 1, 1, 5, 8, 1, 4, Es.flatten.length] = [1, 5, 8, 6, 1, 8, 6, 4, 4, 3, 8, 8, 1, 4, 1, 1, 1, 5, 8, 1, 4, 184] from by rw [hEl])) rfl rfl ht ?_
  show AW Z 271 31301 283 [some (.ref 0), some (.int 4)] [] (zbH (fun j => some (0 + (88 + 8 * j))) (fun j => some (0 + (224 + 12 * j))) (fun j => some (0 + (232 + 12 * j))) ++ [Es.flatten]).flatten
  refine AW.openB ?_
  rw [hw]
  exact AW.vret hZ hE rfl rfl rfl (by decide) (by decide) (by rfl) ⟨rfl, rfl⟩
set_option maxRecDepth 40000 in
set_option maxHeartbeats 8000000 in
theorem zbz_w : (zbH (fun j => some (0 + (88 + 8 * j))) (fun j => some (0 + (224 + 12 * j))) (fun j => some (0 + (232 + 12 * j))) ++ (((((((((((((((((((((((((([] : List (List zE)) ++ [kLives 88 6 dLives]) ++ [kLives 96 6 dLives]) ++ [kLives 104 6 dLives]) ++ [kLives 112 6 dLives]) ++ [kLives 120 6 dLives]) ++ [kLives 128 6 dLives]) ++ [kLives 136 6 dLives]) ++ [kLives 144 6 dLives]) ++ [kLives 152 6 dLives]) ++ [kLives 160 6 dLives]) ++ [kLives 168 6 dLives]) ++ [kLives 176 6 dLives]) ++ [kLives 184 6 dLives]) ++ [kLives 192 6 dLives]) ++ [kLives 200 6 dLives]) ++ [kLives 208 6 dLives]) ++ [kLives 216 6 dLives]) ++ [kLives 224 6 dLives]) ++ [kTales 232 dTales]) ++ [kLives 236 6 dLives]) ++ [kTales 244 dTales]) ++ [kLives 248 6 dLives]) ++ [kTales 256 dTales]) ++ [kLives 260 6 dLives]) ++ [kTales 268 dTales])).flatten = zBcs dBl dTape dTown dLaws dReader dTown dLaws dYear dYear dLots dLives dLives dTales dForecast dLives dDeeds dPairs (fun _ => dLives) (fun _ => dLives) (fun _ => dTales) := rfl
set_option maxRecDepth 40000 in
set_option maxHeartbeats 8000000 in
theorem zbz_e : ((((((((((((((((((((((((((([] : List (List zE)) ++ [kLives 88 6 dLives]) ++ [kLives 96 6 dLives]) ++ [kLives 104 6 dLives]) ++ [kLives 112 6 dLives]) ++ [kLives 120 6 dLives]) ++ [kLives 128 6 dLives]) ++ [kLives 136 6 dLives]) ++ [kLives 144 6 dLives]) ++ [kLives 152 6 dLives]) ++ [kLives 160 6 dLives]) ++ [kLives 168 6 dLives]) ++ [kLives 176 6 dLives]) ++ [kLives 184 6 dLives]) ++ [kLives 192 6 dLives]) ++ [kLives 200 6 dLives]) ++ [kLives 208 6 dLives]) ++ [kLives 216 6 dLives]) ++ [kLives 224 6 dLives]) ++ [kTales 232 dTales]) ++ [kLives 236 6 dLives]) ++ [kTales 244 dTales]) ++ [kLives 248 6 dLives]) ++ [kTales 256 dTales]) ++ [kLives 260 6 dLives]) ++ [kTales 268 dTales])).flatten.length = 184 := rfl
set_option maxRecDepth 40000 in
set_option maxHeartbeats 8000000 in
theorem c_Bl_init : CtA zMX11_init 8 271 271 31301 [.ref 0] ([] ++ [[.inr (11, [.null, .null, .null, .null, .null, .null, .null, .null, .null, .int 0, .int 0, .null, .null, .null, .null, .null, .null, .null])]] : List (List zE)).flatten (fun v cc => v = none ∧ cc = zBcs dBl dTape dTown dLaws dReader dTown dLaws dYear dYear dLots dLives dLives dTales dForecast dLives dDeeds dPairs (fun _ => dLives) (fun _ => dLives) (fun _ => dTales)) := by
  refine CtA.of zMX11_init_ok (by decide) (Nat.le_of_ble_eq_true rfl) ?_
  intro Z hZ hR hN hE hO
  refine zbi_0 hZ hR hN hO ?_
  refine zbi_1 hZ hR hN hO ?_
  refine zbi_2 hZ hR hN hO ?_
  refine zbi_3 hZ hR hN hO ?_
  refine zbi_4 hZ hR hN hO ?_
  refine zbi_5 hZ hR hN hO ?_
  refine zbi_6 hZ hR hN hO ?_
  refine zbi_7 hZ hR hN hO ?_
  refine zbi_8 hZ hR hN hO ?_
  refine zbi_9 hZ hR hN hO ?_
  refine zbi_10 hZ hR hN hO ?_
  refine zbi_11 hZ hR hN hO ?_
  refine zbi_12 hZ hR hN hO ?_
  refine zbi_13 hZ hR hN hO ?_
  refine zbi_14 hZ hR hN hO ?_
  refine zbi_15 hZ hR hN hO ?_
  refine zbi_16 hZ hR hN hO ?_
  refine zbi_17 hZ hR hN hO ?_
  refine zbi_18 hZ hR hN hO ?_
  refine AW.run hZ (zRoom_of hR (by decide) (by decide)) [204] 400 ?_
  show AW Z 87 30055 204 [some (.ref 0), some (.int 0)] [] (zbH (fun _ => none) (fun _ => none) (fun _ => none)).flatten
  refine AW.nilB ?_
  refine zbu_0 hZ hR hN hO rfl ?_
  refine zbu_1 hZ hR hN hO rfl ?_
  refine zbu_2 hZ hR hN hO rfl ?_
  refine zbu_3 hZ hR hN hO rfl ?_
  refine zbu_4 hZ hR hN hO rfl ?_
  refine zbu_5 hZ hR hN hO rfl ?_
  refine zbu_6 hZ hR hN hO rfl ?_
  refine zbu_7 hZ hR hN hO rfl ?_
  refine zbu_8 hZ hR hN hO rfl ?_
  refine zbu_9 hZ hR hN hO rfl ?_
  refine zbu_10 hZ hR hN hO rfl ?_
  refine zbu_11 hZ hR hN hO rfl ?_
  refine zbu_12 hZ hR hN hO rfl ?_
  refine zbu_13 hZ hR hN hO rfl ?_
  refine zbu_14 hZ hR hN hO rfl ?_
  refine zbu_15 hZ hR hN hO rfl ?_
  refine zbu_16 hZ hR hN hO rfl ?_
  refine zbu_x hZ hR hN hO ?_
  refine zbm_0 hZ hR hN hO rfl ?_
  refine zbt_0 hZ hR hN hO rfl ?_
  refine zbm_1 hZ hR hN hO rfl ?_
  refine zbt_1 hZ hR hN hO rfl ?_
  refine zbm_2 hZ hR hN hO rfl ?_
  refine zbt_2 hZ hR hN hO rfl ?_
  refine zbm_3 hZ hR hN hO rfl ?_
  refine zbt_3 hZ hR hN hO rfl ?_
  refine zbz_0 hZ hR hN hO ?_
  exact zbz_1 hZ hR hN hO hE zbz_e (by decide) (by decide) (by decide) zbz_w
