/-! ===== methods that return or throw ===== -/
theorem zKx_261 : zLink "BorrowedLives" 261 ⟨"BorrowedLives$Deeds", "seek", "(LBorrowedLives$Lives;III)V"⟩ := Or.inl (zIn_mem (k := 1357) (by decide +kernel))
theorem zVx_261 : zVirt ⟨"BorrowedLives$Deeds", "seek", "(LBorrowedLives$Lives;III)V"⟩ 4 := ⟨⟨zIn_mem (k := 117) (by decide +kernel), by decide +kernel, by decide +kernel, by decide +kernel⟩, zIn_mem (k := 1358) (by decide +kernel), zIn_mem (k := 1359) (by decide +kernel)⟩
theorem zKx_268 : zLink "BorrowedLives" 268 ⟨"BorrowedLives$Deeds", "deedOf", "(II)I"⟩ := Or.inl (zIn_mem (k := 1377) (by decide +kernel))
theorem zVx_268 : zVirt ⟨"BorrowedLives$Deeds", "deedOf", "(II)I"⟩ 2 := ⟨⟨zIn_mem (k := 117) (by decide +kernel), by decide +kernel, by decide +kernel, by decide +kernel⟩, zIn_mem (k := 1378) (by decide +kernel), zIn_mem (k := 1379) (by decide +kernel)⟩
theorem zKx_297 : zLink "BorrowedLives" 297 ⟨"BorrowedLives", "isGain", "(I)Z"⟩ := Or.inl (zIn_mem (k := 1388) (by decide +kernel))
theorem zVx_297 : zStat ⟨"BorrowedLives", "isGain", "(I)Z"⟩ 1 := ⟨⟨zIn_mem (k := 107) (by decide +kernel), by decide +kernel, by decide +kernel, by decide +kernel⟩, zIn_mem (k := 1389) (by decide +kernel)⟩
theorem zKx_302 : zLink "BorrowedLives" 302 ⟨"BorrowedLives", "isBestCare", "(IIIII)Z"⟩ := Or.inl (zIn_mem (k := 1392) (by decide +kernel))
theorem zVx_302 : zStat ⟨"BorrowedLives", "isBestCare", "(IIIII)Z"⟩ 5 := ⟨⟨zIn_mem (k := 107) (by decide +kernel), by decide +kernel, by decide +kernel, by decide +kernel⟩, zIn_mem (k := 1393) (by decide +kernel)⟩
def zNX : String := "java/util/NoSuchElementException"
def zXrx : ByteArray := prog_30_method_4_code
def zXat : List Cond := zx_at "BorrowedLives" 256 zNX 13 zXrx "java/lang/RuntimeException" ["java/lang/Exception"]
def zXix : List Nat := [128, 1313, 1322, 1324, 1327, 1329, 1314, 1315, 138, 139, 1316, 1321, 1325, 1345, 1303, 1346, 1305, 1347, 1307, 1317, 1319, 1309, 1341, 1342, 1344, 1309, 1332, 1333, 1334, 1335, 1295, 1335, 1336, 1337, 1338, 1297, 1338, 1339, 1340, 1341, 1299, 1331, 1292, 1293, 1300, 1301, 1302, 1304, 1306, 1308, 1312, 1311, 1310]
theorem zXat_ix : zXat = zXix.filterMap (fun i => lw_tbl[i]?) := by decide +kernel
theorem zXat_tbl {w : Cond} (h : w ∈ zXat) : w ∈ lw_tbl := by
  rw [zXat_ix] at h
  obtain ⟨i, -, hi⟩ := List.mem_filterMap.mp h
  exact List.mem_of_getElem? hi
def zXB (w : Cond) : Bool := match w with
  | .declares _ => true
  | .castable _ _ => true
  | _ => false
def zXw : List Cond := zXat.filter (fun w => !goodWord w)
theorem zXw_b : zXw.all zXB = true := by decide +kernel
theorem zXB_warm {w : Cond} (h : zXB w = true) {s U : State} (hW : s.WarmedH U.vm) (hZ : va_Nw w s) : va_Nw w U := by
  cases w <;> first | exact va_Nw.warmD hW hZ | exact va_Nw.warmC hW hZ | simp [zXB] at h
theorem zXB_tab {w : Cond} (h : zXB w = true) : w.onTables = true := by
  cases w <;> first | rfl | simp [zXB] at h
/-- what a throw wants beside the words: outside every world -/
def zXA (A : Nat → Prop) (U : State) (H : Heap) : Prop := (∀ w ∈ zXw, va_Nw w U) ∧ vx_Zq Bundle.tN "UNASSIGNED_STACK" Bundle.steD A U H ∧ vx_Zq Bundle.tN "SUPPRESSED_SENTINEL" Bundle.listD A U H
theorem zXA.moved {A B : Nat → Prop} {s U : State} {H H1 : Heap} (h : zXA A s H) (hW : s.WarmedH U.vm) (hq : ∀ a : Nat, a < H.size → ¬ A a → H1[a]? = H[a]?) (hAB : ∀ q, B q → A q) : zXA B U H1 :=
  ⟨fun w hw => zXB_warm (List.all_eq_true.mp zXw_b w hw) hW (h.1 w hw), ((h.2.1.moved hW.alike).kept hq).narrow hAB, ((h.2.2.moved hW.alike).kept hq).narrow hAB⟩
theorem zXA.same {A : Nat → Prop} {s U : State} {H : Heap} (h : zXA A s H) (hv : s.vm = U.vm) : zXA A U H := by
  have ha : s.vm.Alike U.vm := by rw [hv]; exact Vm.Alike.refl _
  exact ⟨fun w hw => va_Nw.same (zXB_tab (List.all_eq_true.mp zXw_b w hw)) hv (h.1 w hw), h.2.1.moved ha, h.2.2.moved ha⟩
theorem zXA.narrow {A B : Nat → Prop} {s : State} {H : Heap} (h : zXA A s H) (hAB : ∀ q, B q → A q) : zXA B s H := ⟨h.1, h.2.1.narrow hAB, h.2.2.narrow hAB⟩
theorem zXat_all {args : Array Value} {s : State} {A : Nat → Prop} {H : Heap} (hts : ∀ w ∈ zTg, w.before args s = true) (h : zXA A s H) : ∀ w ∈ zXat, w.before args s = true := by
  intro w hw
  by_cases hg : goodWord w = true
  · exact hts w (zTg_mem (zXat_tbl hw) hg)
  · have h2 : w ∈ zXw := List.mem_filter.mpr ⟨hw, by simp [hg]⟩
    exact va_Nw.use (zXB_tab (List.all_eq_true.mp zXw_b w h2)) (h.1 w h2)
theorem zXat_good : (Cond.classLink "BorrowedLives" 252 zNX :: Cond.initialized zNX :: zXat).all vx_ot = true := by decide +kernel
def zPreX (D : va_G) (dA : Nat → ClassId) (adr : Nat → Nat) (cs : List zE) (sz : Nat) : State → Prop := fun U => zPre D dA adr cs sz U ∧ zXA (va_A (zws dA adr cs) sz) U U.heap
def zX (D : va_G) (dA : Nat → ClassId) (adr : Nat → Nat) (ws0 : va_W) (n1 sz : Nat) (PostX : List zE → Prop) : String → State → State → Prop := fun E st t =>
  E = zNX ∧ (∃ cs' : List zE, PostX cs' ∧ cs'.length = n1 ∧ va_P D zcl (zws dA adr cs') t.heap ∧ va_D (va_A ws0 sz) (zws dA adr cs')) ∧ va_F (va_A ws0 sz) st t
/-- a contract that answers or throws -/
def CtX (M : zMth) (d mc ms : Nat) (as : List Value) (cs : List zE) (Post : Option Value → List zE → Prop) (PostX : List zE → Prop) : Prop :=
  ∀ (l : Launch) (D : va_G) (dA : Nat → ClassId) (adr : Nat → Nat) (sz : Nat), l.stackTraces = false →
    vx_Met l M.1 (Cond.code M.1 M.2.1 M.2.2.1 M.2.2.2.1 :: zTg) (zrm d mc ms) (va_Pc (as.map (zv adr)) (zPreX D dA adr cs sz)) (zQ D dA adr (zws dA adr cs) cs.length sz Post) (zX D dA adr (zws dA adr cs) cs.length sz PostX) mc ms (va_A (zws dA adr cs) sz)
theorem zPreX_blind {D : va_G} {dA : Nat → ClassId} {adr : Nat → Nat} {cs : List zE} {sz : Nat} {as : List Value} : FrameBlind (va_Pc as (zPreX D dA adr cs sz)) := by
  intro a U g mk h
  obtain ⟨h0, ⟨h1, h2, h3, h4, h5⟩, h6⟩ := h
  exact ⟨h0, ⟨h1, h2, va_K.moved (u := U) (U := U.calling g mk a) (Vm.Alike.refl U.vm) h3, h4, zAm.same (s := U) (U := U.calling g mk a) h5 rfl⟩, zXA.same (s := U) (U := U.calling g mk a) h6 rfl⟩
def zEndX (Z : zCtx) (n1 mc ms : Nat) (Post : Option Value → List zE → Prop) (PostX : List zE → Prop) : Prop := match Z with
  | (_, _, _, _, s, _, args, below, _, _, D, dA, adr, A, Q) => ∃ ws0 : va_W, A = va_A ws0 s.heap.size ∧ Q = vx_MQ below (zQ D dA adr ws0 n1 s.heap.size Post) (zX D dA adr ws0 n1 s.heap.size PostX) args s mc ms A
def zThr (Z : zCtx) : Prop := match Z with
  | (l, _, _, _, s, _, _, _, _, c, _, _, _, A, _) => zXA A s s.heap ∧ l.stackTraces = false ∧ (∀ x ∈ c.exceptionTable.toList, False)
theorem CtX.of {M : zMth} (hM : zMok M) {d mc ms : Nat} (hd : 1 ≤ d) {as : List Value} {cs : List zE} {Post : Option Value → List zE → Prop} {PostX : List zE → Prop} (hn : (zargs as).length ≤ M.2.2.1)
    (body : ∀ Z : zCtx, zOk Z M → zCan Z d mc ms → zNew Z cs.length 0 → zEndX Z cs.length mc ms Post PostX → zThr Z → AW Z 0 0 0 (zent M.2.2.1 as) [] cs) : CtX M d mc ms as cs Post PostX := by
  intro l D dA adr sz hl9
  obtain ⟨y, cc, nL, ret, lst, C⟩ := M
  refine vx_ofW (cc := cc) (maxL := nL) (ret := ret) hM.2.2.2.2.2 rfl ?_
  intro p e s m args below meth c s₁ B hml htab hv
  obtain ⟨rfl, ⟨hsz, hP, hK, hD0, hAm⟩, hXA⟩ := hv
  have hts0 := atoms_spec (ws := Cond.code y cc nL ret :: zTg) B.pre
  have hts : ∀ w ∈ zTg, w.before (as.map (zv adr)).toArray s = true := fun w hw => hts0 w (List.mem_cons_of_mem _ hw)
  have hown : s.vm.findClass C.1 = some m.cls := by
    have h := findClass_of_methodNamed B.named
    rwa [hM.2.2.2.1] at h
  have hnm : meth.name = y.name := (name_of_methodNamed B.named B.method).1
  subst hsz
  have hD := hD0.self (sz := s.heap.size)
  have hA : ∀ q : Nat, s.heap.size ≤ q → va_A (zws dA adr cs) s.heap.size q := fun q h => Or.inr h
  rw [lg_entry_eq]
  have hle : (lg_sl (as.map (zv adr))).length ≤ nL := by rw [zargs_len]; exact hn
  have hl := lv_entry (as.map (zv adr)) (n := nL) hle
  exact body (l, p, e, (headSpec (Cond.code y cc nL ret :: zTg) (zrm d mc ms)).room, s, m, (as.map (zv adr)).toArray, below, meth, c, D, dA, adr, va_A (zws dA adr cs) s.heap.size, vx_MQ below (zQ D dA adr (zws dA adr cs) cs.length s.heap.size Post) (zX D dA adr (zws dA adr cs) cs.length s.heap.size PostX) (as.map (zv adr)).toArray s mc ms (va_A (zws dA adr cs) s.heap.size))
    ⟨B.exec, B.bytes, hml, B.returns, hown, hts, B.notSynchronized, hK, hA, hAm, ⟨hd, by show 64 ≤ 64 * d; omega⟩, hM, hnm⟩
    ⟨Nat.le_refl _, Nat.le_refl _, Nat.le_refl _, Nat.le_refl _⟩ ⟨fun i hi => absurd hi (Nat.not_lt_zero i), cs, rfl, rfl⟩ ⟨_, rfl, rfl⟩ ⟨hXA, hl9, htab⟩
    s.heap [] _ hP hD va_S.rf
    ⟨by rw [hml]; show (zent nL as).length = nL; have h9 : (zargs as).length ≤ nL := hn; simp only [zent, List.length_append, List.length_replicate]; omega, _, by rw [hml]; exact hl, fun i v hi => by
      have h1 : (zargs as)[i]? = some (some v) := by
        unfold zent at hi
        rw [List.getElem?_append] at hi
        split at hi
        · exact hi
        · simp [List.getElem?_replicate] at hi
      have h2 := zargs_at adr as 0 i v h1
      rwa [Nat.zero_add] at h2⟩
section ZBX
variable {Z : zCtx} {M M' : zMth} {k n d nf mc ms n0 n1 pc d' idx np : Nat} {lv : List (Option Value)} {st rest as : List Value} {cs : List zE} {it : zIt} {Post : Option Value → List zE → Prop} {PostX : List zE → Prop}
theorem AW.iretX {x : Int32} {ty : FieldType} (hZ : zOk Z M) (hE : zEndX Z n1 mc ms Post PostX) (hit : zget M.2.2.2.2.1 pc = some it) (hop : it.2.1 = .ireturn) (hty : M.2.2.2.1 = some ty) (hnar : narrow ty (.int x) = .int x) (hk : k ≤ mc) (hn : n ≤ ms) (hlen : cs.length = n1) (hp : Post (some (.int x)) cs) : AW Z k n pc lv [.int x] cs := by
  obtain ⟨hi, rfl⟩ := zget_mem hit
  obtain ⟨pc, op, len, v, a, b, c, sw⟩ := it
  obtain ⟨l, p, e, R, s, m, args, below, meth, cd, D, dA, adr, A, Q⟩ := Z
  obtain ⟨y, cc, nL, ret, lst, C⟩ := M
  obtain ⟨hx, hb, hml, hr, hown, hts, hlocks, hK0, hA, hAm, hR, hM, hnm⟩ := hZ
  obtain ⟨ws0, rfl, rfl⟩ := hE
  have hdec := hM.dec hi
  have hit2 := hM.itB hi
  dsimp only at hx hb hml hr hown hts hlocks hK0 hA hAm hR hdec hit2 hop hty
  subst hop; subst hty
  have hlen1 : len = 1 := eq_of_beq hit2
  subst hlen1
  intro H locs ls hP hD hS hl
  refine vx_ret ?_
  refine W.widen hk hn ?_
  exact W.zret (v := x) hx hb hr hnar (fun t ht hW => ⟨⟨some (.int x), cs, rfl, hp, hlen, by rw [ht]; exact hP, va_K.moved hW.alike hK0, hD⟩, hS.F ht⟩) hS.2.2 hdec
theorem zx_post {l : Launch} {s : State} {D : va_G} {dA : Nat → ClassId} {adr : Nat → Nat} {ws0 : va_W} {H : Heap} {locs : List Loc} (hlen : cs.length = n1) (hp : PostX cs) (hP : va_P D zcl (zws dA adr cs) H) (hD : va_D (va_A ws0 s.heap.size) (zws dA adr cs)) (hS : va_S (va_A ws0 s.heap.size) s.heap H locs) :
    ∀ t : State, s.vm.Alike t.vm → H.size ≤ t.heap.size → (∀ q : Nat, q < H.size → t.heap[q]? = H[q]?) → zX D dA adr ws0 n1 s.heap.size PostX zNX s t := by
  intro t _ h1 h2
  refine ⟨rfl, ⟨cs, hp, hlen, fun i q hq => (hP i q hq).kept (h2 _ (vx_lt hP hq)), hD⟩, Nat.le_trans hS.1 h1, fun q h3 h4 => ?_⟩
  rw [h2 q (Nat.lt_of_lt_of_le h3 hS.1)]
  exact hS.2.1 q h3 h4
theorem zXrx_0 : decode zXrx 0 = .ok (.aload_n 0, 1) := by decide +kernel
theorem zXrx_1 : decode zXrx 1 = .ok (.aload_n 1, 1) := by decide +kernel
theorem zXrx_2 : decode zXrx 2 = .ok (.invokespecial 13, 3) := by decide +kernel
theorem zXrx_5 : decode zXrx 5 = .ok (.return_, 1) := by decide +kernel
theorem AW.throwS {is sk : Nat} {text : String} (hZ : zOk Z M) (hR : zCan Z d mc ms) (hd : 6 ≤ d) (hE : zEndX Z n1 mc ms Post PostX) (hT : zThr Z) (how : M.2.2.2.2.2.1 = "BorrowedLives") (hstr : ∀ (adr : Nat → Nat) (A : Nat → Prop) (U : State) (H : Heap), zAm adr A U H → vk_R "BorrowedLives" is text (adr sk) U)
    (d0 : decode M.2.1 pc = .ok (.new 252, 3)) (d3 : decode M.2.1 (pc + 3) = .ok (.dup, 1)) (d4 : decode M.2.1 (pc + 4) = .ok (.ldc is, 2)) (d6 : decode M.2.1 (pc + 6) = .ok (.invokespecial 256, 3)) (d9 : decode M.2.1 (pc + 9) = .ok (.athrow, 1))
    (hk : k + 1 ≤ mc) (hn : n + 6 ≤ ms) (hst : Nat.ble (zcsum st) 8 = true) (hlen : cs.length = n1) (hp : PostX cs) : AW Z k n pc lv st cs := by
  obtain ⟨l, p, e, R, s, m, args, below, meth, cd, D, dA, adr, A, Q⟩ := Z
  obtain ⟨y, cb, nL, ret, lst, C⟩ := M
  obtain ⟨hx, hb, hml, hr, hown, hts, hlocks, hK0, hA, hAm, hR0, hM, hnm⟩ := hZ
  obtain ⟨hRf, hRl, hRc, hRs⟩ := hR
  obtain ⟨hXA, hl9, htab⟩ := hT
  obtain ⟨ws0, rfl, rfl⟩ := hE
  dsimp only at hx hb hml hr hown hts hlocks hK0 hA hAm hR0 how d0 d3 d4 d6 d9
  rw [how] at hown
  intro H locs ls hP hD hS hl
  exact zx_throwS (cls := zNX) (sup := "java/lang/RuntimeException") (r := ["java/lang/Exception"]) (ik := 252) (is := is) (ic := 256) (ix := 13) (rx := zXrx) (own := "BorrowedLives") (A := va_A ws0 s.heap.size) hx hb hl9 hown zXrx_0 zXrx_1 zXrx_2 zXrx_5 (by decide +kernel) (by decide +kernel) (by decide +kernel)
    (hts _ (zIn_mem (k := 1291) (by decide +kernel))) (hts _ (zIn_mem (k := 131) (by decide +kernel))) (hstr adr _ _ _ hAm) (zXat_all hts hXA) (fun w hw => List.all_eq_true.mp zXat_good w hw) hXA.2.1 hXA.2.2 hS hl.2.choose_spec.1.1
    d0 d3 d4 d6 d9 (fun x hx9 => (htab x hx9).elim) (by show 1 + 4 < R.frames; omega) (by have h9 := zcat_sum (adr := adr) hst; show _ + (13 * (1 + 2) + 43) ≤ R.locals; omega) (by omega) (by omega) hlocks
    (zx_post (l := l) hlen hp hP hD hS) hS.2.2 hk hn
theorem AW.throwSW {is sk : Nat} {text : String} (hZ : zOk Z M) (hR : zCan Z d mc ms) (hd : 6 ≤ d) (hE : zEndX Z n1 mc ms Post PostX) (hT : zThr Z) (how : M.2.2.2.2.2.1 = "BorrowedLives") (hstr : ∀ (adr : Nat → Nat) (A : Nat → Prop) (U : State) (H : Heap), zAm adr A U H → vk_R "BorrowedLives" is text (adr sk) U)
    (d0 : decode M.2.1 pc = .ok (.new 252, 3)) (d3 : decode M.2.1 (pc + 3) = .ok (.dup, 1)) (d4 : decode M.2.1 (pc + 4) = .ok (.ldc_w is, 3)) (d7 : decode M.2.1 (pc + 7) = .ok (.invokespecial 256, 3)) (d10 : decode M.2.1 (pc + 10) = .ok (.athrow, 1))
    (hk : k + 1 ≤ mc) (hn : n + 6 ≤ ms) (hst : Nat.ble (zcsum st) 8 = true) (hlen : cs.length = n1) (hp : PostX cs) : AW Z k n pc lv st cs := by
  obtain ⟨l, p, e, R, s, m, args, below, meth, cd, D, dA, adr, A, Q⟩ := Z
  obtain ⟨y, cb, nL, ret, lst, C⟩ := M
  obtain ⟨hx, hb, hml, hr, hown, hts, hlocks, hK0, hA, hAm, hR0, hM, hnm⟩ := hZ
  obtain ⟨hRf, hRl, hRc, hRs⟩ := hR
  obtain ⟨hXA, hl9, htab⟩ := hT
  obtain ⟨ws0, rfl, rfl⟩ := hE
  dsimp only at hx hb hml hr hown hts hlocks hK0 hA hAm hR0 how d0 d3 d4 d7 d10
  rw [how] at hown
  intro H locs ls hP hD hS hl
  exact zx_throwSW (cls := zNX) (sup := "java/lang/RuntimeException") (r := ["java/lang/Exception"]) (ik := 252) (is := is) (ic := 256) (ix := 13) (rx := zXrx) (own := "BorrowedLives") (A := va_A ws0 s.heap.size) hx hb hl9 hown zXrx_0 zXrx_1 zXrx_2 zXrx_5 (by decide +kernel) (by decide +kernel) (by decide +kernel)
    (hts _ (zIn_mem (k := 1291) (by decide +kernel))) (hts _ (zIn_mem (k := 131) (by decide +kernel))) (hstr adr _ _ _ hAm) (zXat_all hts hXA) (fun w hw => List.all_eq_true.mp zXat_good w hw) hXA.2.1 hXA.2.2 hS hl.2.choose_spec.1.1
    d0 d3 d4 d7 d10 (fun x hx9 => (htab x hx9).elim) (by show 1 + 4 < R.frames; omega) (by have h9 := zcat_sum (adr := adr) hst; show _ + (13 * (1 + 2) + 43) ≤ R.locals; omega) (by omega) (by omega) hlocks
    (zx_post (l := l) hlen hp hP hD hS) hS.2.2 hk hn
/-- a static method over no cells at all -/
theorem AW.callS0 {r : Int32} (hZ : zOk Z M) (hR : zCan Z d mc ms) (hN : zNew Z n0 nf) (hC : Ct M' d' 0 0 0 as ([] : List (List zE)).flatten (fun v cc => v = some (.int r) ∧ cc = ([] : List (List zE)).flatten)) (hM' : zMok M')
    (hit : zget M.2.2.2.2.1 pc = some it) (hop : it.2.1 = .invokestatic idx) (hlk : zLink M.2.2.2.2.2.1 idx M'.1) (hce : zStat M'.1 np) (hnp : as.length = np) (hd : d' + 1 ≤ d) (hmL : M'.2.2.1 ≤ 45) (hk : k ≤ mc) (hn : n ≤ ms)
    (has : ∀ f : Nat → Nat, as.map (zv f) = as) (hst : st = as.reverse ++ rest) (hr4 : Nat.ble (zcsum rest) 8 = true) (kk : AW Z k n (pc + 3) lv (.int r :: rest) cs) : AW Z k n pc lv st cs := by
  refine AW.callS hZ hR hN hC hM' hit hop hlk hce hnp [] rfl List.nodup_nil (Or.inl rfl) (by decide) hd hmL (by omega) (by omega) (by rw [has]; exact hst) hr4 (fun v cc1 h _ => ?_)
  obtain ⟨rfl, rfl⟩ := h
  have e : zjoin cs [] ((([] : List (List zE)).flatten).map (zre (zrho [] cs.length 0))) = cs := by simp [zjoin, zset]
  rw [e]
  exact kk
end ZBX
set_option maxRecDepth 40000 in
set_option maxHeartbeats 8000000 in
theorem zThrow_254 {Z : zCtx} {d mc ms n1 k n : Nat} {lv : List (Option Value)} {cs : List zE} {Post : Option Value → List zE → Prop} {PostX : List zE → Prop} (hZ : zOk Z zMX11_deeds) (hR : zCan Z d mc ms) (hd : 6 ≤ d) (hE : zEndX Z n1 mc ms Post PostX) (hT : zThr Z) (hk : k + 1 ≤ mc) (hn : n + 6 ≤ ms) (hlen : cs.length = n1) (hp : PostX cs) : AW Z k n 33 lv [] cs :=
  AW.throwS (is := 254) (sk := 1000030) (text := zTx0) hZ hR hd hE hT rfl (fun _ _ _ _ h => h.2.2.2.2.2.2.1) (by decide +kernel) (by decide +kernel) (by decide +kernel) (by decide +kernel) (by decide +kernel) hk hn rfl hlen hp
set_option maxRecDepth 40000 in
set_option maxHeartbeats 8000000 in
theorem zThrow_259 {Z : zCtx} {d mc ms n1 k n : Nat} {lv : List (Option Value)} {cs : List zE} {Post : Option Value → List zE → Prop} {PostX : List zE → Prop} (hZ : zOk Z zMX11_deeds) (hR : zCan Z d mc ms) (hd : 6 ≤ d) (hE : zEndX Z n1 mc ms Post PostX) (hT : zThr Z) (hk : k + 1 ≤ mc) (hn : n + 6 ≤ ms) (hlen : cs.length = n1) (hp : PostX cs) : AW Z k n 55 lv [] cs :=
  AW.throwSW (is := 259) (sk := 1000031) (text := zTx1) hZ hR hd hE hT rfl (fun _ _ _ _ h => h.2.2.2.2.2.2.2.1) (by decide +kernel) (by decide +kernel) (by decide +kernel) (by decide +kernel) (by decide +kernel) hk hn rfl hlen hp
set_option maxRecDepth 40000 in
set_option maxHeartbeats 8000000 in
theorem zThrow_300 {Z : zCtx} {d mc ms n1 k n : Nat} {lv : List (Option Value)} {cs : List zE} {Post : Option Value → List zE → Prop} {PostX : List zE → Prop} (hZ : zOk Z zMX11_rests) (hR : zCan Z d mc ms) (hd : 6 ≤ d) (hE : zEndX Z n1 mc ms Post PostX) (hT : zThr Z) (hk : k + 1 ≤ mc) (hn : n + 6 ≤ ms) (hlen : cs.length = n1) (hp : PostX cs) : AW Z k n 27 lv [] cs :=
  AW.throwSW (is := 300) (sk := 1000032) (text := zTx2) hZ hR hd hE hT rfl (fun _ _ _ _ h => h.2.2.2.2.2.2.2.2.1) (by decide +kernel) (by decide +kernel) (by decide +kernel) (by decide +kernel) (by decide +kernel) hk hn rfl hlen hp
set_option maxRecDepth 40000 in
set_option maxHeartbeats 8000000 in
theorem zThrow_306 {Z : zCtx} {d mc ms n1 k n : Nat} {lv : List (Option Value)} {cs : List zE} {Post : Option Value → List zE → Prop} {PostX : List zE → Prop} (hZ : zOk Z zMX11_rests) (hR : zCan Z d mc ms) (hd : 6 ≤ d) (hE : zEndX Z n1 mc ms Post PostX) (hT : zThr Z) (hk : k + 1 ≤ mc) (hn : n + 6 ≤ ms) (hlen : cs.length = n1) (hp : PostX cs) : AW Z k n 122 lv [] cs :=
  AW.throwSW (is := 306) (sk := 1000033) (text := zTx3) hZ hR hd hE hT rfl (fun _ _ _ _ h => h.2.2.2.2.2.2.2.2.2) (by decide +kernel) (by decide +kernel) (by decide +kernel) (by decide +kernel) (by decide +kernel) hk hn rfl hlen hp
set_option maxRecDepth 40000 in
set_option maxHeartbeats 8000000 in
theorem c_Bl_deeds (N : Nat) (v0 : VBl) (v1 : VTape) (v2 : VTown) (v3 : VLaws) (v4 : VReader) (v5 : VTown) (v6 : VLaws) (v7 : VYear) (v8 : VYear) (v9 : VLots) (v10 : VLives) (v11 : VLives) (v13 : VTales) (v17 : VForecast) (v18 : VLives) (v19 : VDeeds) (v20 : VPairs) (und : (Nat → VLives)) (mls : (Nat → VLives)) (mts : (Nat → VTales)) (a1 : Int32) (a2 : Int32) (a3 : Int32) (a4 : Int32) (R : Unit ⊕ (Int32 × (Nat → Int32) × (Nat → Int32) × Int32 × Int32)) (hf : f_Bl_deeds N v0 v1 v2 v3 v4 v5 v6 v7 v8 v9 v10 v11 v13 v17 v18 v19 v20 und mls mts a1 a2 a3 a4 = some R) : CtX zMX11_deeds 6 1 6 [.ref 0, .int a1, .int a2, .int a3, .int a4] (zBcs v0 v1 v2 v3 v4 v5 v6 v7 v8 v9 v10 v11 v13 v17 v18 v19 v20 und mls mts) (fun v cc => ∃ r, R = Sum.inr r ∧ v = some (.int r.1) ∧ cc = zBcs v0 v1 v2 (Laws_s_facts_stack v3 r.2.1 r.2.2.1) v4 v5 v6 v7 v8 v9 v10 v11 v13 v17 v18 (Deeds_s_bestGood_bestRow v19 r.2.2.2.1 r.2.2.2.2) v20 und mls mts) (fun cc => R = Sum.inl () ∧ cc = zBcs v0 v1 v2 v3 v4 v5 v6 v7 v8 v9 v10 v11 v13 v17 v18 v19 v20 und mls mts) := by
  refine CtX.of zMX11_deeds_ok (by decide) (Nat.le_of_ble_eq_true rfl) ?_
  intro Z hZ hR hN hE hT
  have hRm : zRoom Z 0 0 := zRoom0 Z
  unfold f_Bl_deeds at hf
  show AW Z 0 0 0 [some (.ref 0), some (.int a1), some (.int a2), some (.int a3), some (.int a4)] [] ([kBl 0 v0, kTape 1 v1, kTown 6 14 v2, kLaws 14 v3, kReader 20 1 21 v4, kTown 21 29 v5, kLaws 29 v6, kYear 35 v7, kYear 39 v8, kLots 43 v9, kLives 46 6 v10, kLives 54 6 v11, kBl_undos 0, kTales 63 v13, kBl_markedLives 0, kBl_markedTales 0, kBl_laid (Bl_laid v0), kForecast 70 6 43 46 75 v17, kLives 75 6 v18, kDeeds 83 v19, kPairs 84 v20, kLives 88 6 (und 0), kLives 96 6 (und 1), kLives 104 6 (und 2), kLives 112 6 (und 3), kLives 120 6 (und 4), kLives 128 6 (und 5), kLives 136 6 (und 6), kLives 144 6 (und 7), kLives 152 6 (und 8), kLives 160 6 (und 9), kLives 168 6 (und 10), kLives 176 6 (und 11), kLives 184 6 (und 12), kLives 192 6 (und 13), kLives 200 6 (und 14), kLives 208 6 (und 15), kLives 216 6 (und 16), kLives 224 6 (mls 0), kTales 232 (mts 0), kLives 236 6 (mls 1), kTales 244 (mts 1), kLives 248 6 (mls 2), kTales 256 (mts 2), kLives 260 6 (mls 3), kTales 268 (mts 3)] : List (List zE)).flatten
  refine AW.run hZ hRm [5] 400 ?_
  show AW Z 0 0 5 [some (.ref 0), some (.int a1), some (.int a2), some (.int a3), some (.int a4)] [.int a1, .ref 6] ([kBl 0 v0, kTape 1 v1, kTown 6 14 v2, kLaws 14 v3, kReader 20 1 21 v4, kTown 21 29 v5, kLaws 29 v6, kYear 35 v7, kYear 39 v8, kLots 43 v9, kLives 46 6 v10, kLives 54 6 v11, kBl_undos 0, kTales 63 v13, kBl_markedLives 0, kBl_markedTales 0, kBl_laid (Bl_laid v0), kForecast 70 6 43 46 75 v17, kLives 75 6 v18, kDeeds 83 v19, kPairs 84 v20, kLives 88 6 (und 0), kLives 96 6 (und 1), kLives 104 6 (und 2), kLives 112 6 (und 3), kLives 120 6 (und 4), kLives 128 6 (und 5), kLives 136 6 (und 6), kLives 144 6 (und 7), kLives 152 6 (und 8), kLives 160 6 (und 9), kLives 168 6 (und 10), kLives 176 6 (und 11), kLives 184 6 (und 12), kLives 192 6 (und 13), kLives 200 6 (und 14), kLives 208 6 (und 15), kLives 216 6 (und 16), kLives 224 6 (mls 0), kTales 232 (mts 0), kLives 236 6 (mls 1), kTales 244 (mts 1), kLives 248 6 (mls 2), kTales 256 (mts 2), kLives 260 6 (mls 3), kTales 268 (mts 3)] : List (List zE)).flatten
  obtain ⟨q1, h1, hf⟩ := zbind hf
  refine AW.callVc hZ hR hN (c_Town_has N v2 v3 a1 q1 h1) zMX8_has_ok rfl rfl zK_BorrowedLives_140 zV_X8_has rfl [1, 5, 8, 6, 1, 8, 6, 4, 4, 3, 8, 8, 1, 4, 1, 1, 1, 5, 8, 1, 4, 8, 8, 8, 8, 8, 8, 8, 8, 8, 8, 8, 8, 8, 8, 8, 8, 8, 8, 4, 8, 4, 8, 4, 8, 4] [2, 3] [6, 7, 8, 9, 10, 11, 12, 13, 14, 15, 16, 17, 18, 19] rfl rfl rfl (by decide) (by decide) (by decide) (by decide) (by decide) (by decide) rfl rfl rfl rfl rfl ?_
  rintro v cc ⟨rfl, rfl⟩
  refine ⟨_, rfl, rfl, ?_⟩
  show AW Z 0 0 8 [some (.ref 0), some (.int a1), some (.int a2), some (.int a3), some (.int a4)] [.int q1] ([kBl 0 v0, kTape 1 v1, kTown 6 14 v2, kLaws 14 v3, kReader 20 1 21 v4, kTown 21 29 v5, kLaws 29 v6, kYear 35 v7, kYear 39 v8, kLots 43 v9, kLives 46 6 v10, kLives 54 6 v11, kBl_undos 0, kTales 63 v13, kBl_markedLives 0, kBl_markedTales 0, kBl_laid (Bl_laid v0), kForecast 70 6 43 46 75 v17, kLives 75 6 v18, kDeeds 83 v19, kPairs 84 v20, kLives 88 6 (und 0), kLives 96 6 (und 1), kLives 104 6 (und 2), kLives 112 6 (und 3), kLives 120 6 (und 4), kLives 128 6 (und 5), kLives 136 6 (und 6), kLives 144 6 (und 7), kLives 152 6 (und 8), kLives 160 6 (und 9), kLives 168 6 (und 10), kLives 176 6 (und 11), kLives 184 6 (und 12), kLives 192 6 (und 13), kLives 200 6 (und 14), kLives 208 6 (und 15), kLives 216 6 (und 16), kLives 224 6 (mls 0), kTales 232 (mts 0), kLives 236 6 (mls 1), kTales 244 (mts 1), kLives 248 6 (mls 2), kTales 256 (mts 2), kLives 260 6 (mls 3), kTales 268 (mts 3)] : List (List zE)).flatten
  refine AW.run hZ hRm [16, 33] 400 ?_
  show ((q1 = 0 → AW Z 0 0 33 [some (.ref 0), some (.int a1), some (.int a2), some (.int a3), some (.int a4)] [] ([kBl 0 v0, kTape 1 v1, kTown 6 14 v2, kLaws 14 v3, kReader 20 1 21 v4, kTown 21 29 v5, kLaws 29 v6, kYear 35 v7, kYear 39 v8, kLots 43 v9, kLives 46 6 v10, kLives 54 6 v11, kBl_undos 0, kTales 63 v13, kBl_markedLives 0, kBl_markedTales 0, kBl_laid (Bl_laid v0), kForecast 70 6 43 46 75 v17, kLives 75 6 v18, kDeeds 83 v19, kPairs 84 v20, kLives 88 6 (und 0), kLives 96 6 (und 1), kLives 104 6 (und 2), kLives 112 6 (und 3), kLives 120 6 (und 4), kLives 128 6 (und 5), kLives 136 6 (und 6), kLives 144 6 (und 7), kLives 152 6 (und 8), kLives 160 6 (und 9), kLives 168 6 (und 10), kLives 176 6 (und 11), kLives 184 6 (und 12), kLives 192 6 (und 13), kLives 200 6 (und 14), kLives 208 6 (und 15), kLives 216 6 (und 16), kLives 224 6 (mls 0), kTales 232 (mts 0), kLives 236 6 (mls 1), kTales 244 (mts 1), kLives 248 6 (mls 2), kTales 256 (mts 2), kLives 260 6 (mls 3), kTales 268 (mts 3)] : List (List zE)).flatten) ∧ (¬ (q1 = 0) → AW Z 0 0 16 [some (.ref 0), some (.int a1), some (.int a2), some (.int a3), some (.int a4)] [.int a2, .ref 6] ([kBl 0 v0, kTape 1 v1, kTown 6 14 v2, kLaws 14 v3, kReader 20 1 21 v4, kTown 21 29 v5, kLaws 29 v6, kYear 35 v7, kYear 39 v8, kLots 43 v9, kLives 46 6 v10, kLives 54 6 v11, kBl_undos 0, kTales 63 v13, kBl_markedLives 0, kBl_markedTales 0, kBl_laid (Bl_laid v0), kForecast 70 6 43 46 75 v17, kLives 75 6 v18, kDeeds 83 v19, kPairs 84 v20, kLives 88 6 (und 0), kLives 96 6 (und 1), kLives 104 6 (und 2), kLives 112 6 (und 3), kLives 120 6 (und 4), kLives 128 6 (und 5), kLives 136 6 (und 6), kLives 144 6 (und 7), kLives 152 6 (und 8), kLives 160 6 (und 9), kLives 168 6 (und 10), kLives 176 6 (und 11), kLives 184 6 (und 12), kLives 192 6 (und 13), kLives 200 6 (und 14), kLives 208 6 (und 15), kLives 216 6 (und 16), kLives 224 6 (mls 0), kTales 232 (mts 0), kLives 236 6 (mls 1), kTales 244 (mts 1), kLives 248 6 (mls 2), kTales 256 (mts 2), kLives 260 6 (mls 3), kTales 268 (mts 3)] : List (List zE)).flatten))
  refine ⟨fun c1 => ?_, fun c1 => ?_⟩
  · rw [if_pos c1] at hf
    cases hf
    exact zThrow_254 hZ hR (by decide) hE hT (by decide) (by decide) rfl ⟨rfl, rfl⟩
  rw [if_neg c1] at hf
  obtain ⟨q2, h2, hf⟩ := zbind hf
  refine AW.callVc hZ hR hN (c_Town_has N v2 v3 a2 q2 h2) zMX8_has_ok rfl rfl zK_BorrowedLives_140 zV_X8_has rfl [1, 5, 8, 6, 1, 8, 6, 4, 4, 3, 8, 8, 1, 4, 1, 1, 1, 5, 8, 1, 4, 8, 8, 8, 8, 8, 8, 8, 8, 8, 8, 8, 8, 8, 8, 8, 8, 8, 8, 4, 8, 4, 8, 4, 8, 4] [2, 3] [6, 7, 8, 9, 10, 11, 12, 13, 14, 15, 16, 17, 18, 19] rfl rfl rfl (by decide) (by decide) (by decide) (by decide) (by decide) (by decide) rfl rfl rfl rfl rfl ?_
  rintro v cc ⟨rfl, rfl⟩
  refine ⟨_, rfl, rfl, ?_⟩
  show AW Z 0 0 19 [some (.ref 0), some (.int a1), some (.int a2), some (.int a3), some (.int a4)] [.int q2] ([kBl 0 v0, kTape 1 v1, kTown 6 14 v2, kLaws 14 v3, kReader 20 1 21 v4, kTown 21 29 v5, kLaws 29 v6, kYear 35 v7, kYear 39 v8, kLots 43 v9, kLives 46 6 v10, kLives 54 6 v11, kBl_undos 0, kTales 63 v13, kBl_markedLives 0, kBl_markedTales 0, kBl_laid (Bl_laid v0), kForecast 70 6 43 46 75 v17, kLives 75 6 v18, kDeeds 83 v19, kPairs 84 v20, kLives 88 6 (und 0), kLives 96 6 (und 1), kLives 104 6 (und 2), kLives 112 6 (und 3), kLives 120 6 (und 4), kLives 128 6 (und 5), kLives 136 6 (und 6), kLives 144 6 (und 7), kLives 152 6 (und 8), kLives 160 6 (und 9), kLives 168 6 (und 10), kLives 176 6 (und 11), kLives 184 6 (und 12), kLives 192 6 (und 13), kLives 200 6 (und 14), kLives 208 6 (und 15), kLives 216 6 (und 16), kLives 224 6 (mls 0), kTales 232 (mts 0), kLives 236 6 (mls 1), kTales 244 (mts 1), kLives 248 6 (mls 2), kTales 256 (mts 2), kLives 260 6 (mls 3), kTales 268 (mts 3)] : List (List zE)).flatten
  refine AW.run hZ hRm [33, 43, 55, 77] 400 ?_
  show ((q2 = 0 → AW Z 0 0 33 [some (.ref 0), some (.int a1), some (.int a2), some (.int a3), some (.int a4)] [] ([kBl 0 v0, kTape 1 v1, kTown 6 14 v2, kLaws 14 v3, kReader 20 1 21 v4, kTown 21 29 v5, kLaws 29 v6, kYear 35 v7, kYear 39 v8, kLots 43 v9, kLives 46 6 v10, kLives 54 6 v11, kBl_undos 0, kTales 63 v13, kBl_markedLives 0, kBl_markedTales 0, kBl_laid (Bl_laid v0), kForecast 70 6 43 46 75 v17, kLives 75 6 v18, kDeeds 83 v19, kPairs 84 v20, kLives 88 6 (und 0), kLives 96 6 (und 1), kLives 104 6 (und 2), kLives 112 6 (und 3), kLives 120 6 (und 4), kLives 128 6 (und 5), kLives 136 6 (und 6), kLives 144 6 (und 7), kLives 152 6 (und 8), kLives 160 6 (und 9), kLives 168 6 (und 10), kLives 176 6 (und 11), kLives 184 6 (und 12), kLives 192 6 (und 13), kLives 200 6 (und 14), kLives 208 6 (und 15), kLives 216 6 (und 16), kLives 224 6 (mls 0), kTales 232 (mts 0), kLives 236 6 (mls 1), kTales 244 (mts 1), kLives 248 6 (mls 2), kTales 256 (mts 2), kLives 260 6 (mls 3), kTales 268 (mts 3)] : List (List zE)).flatten) ∧ (¬ (q2 = 0) → ((a3 < 1 → AW Z 0 0 33 [some (.ref 0), some (.int a1), some (.int a2), some (.int a3), some (.int a4)] [] ([kBl 0 v0, kTape 1 v1, kTown 6 14 v2, kLaws 14 v3, kReader 20 1 21 v4, kTown 21 29 v5, kLaws 29 v6, kYear 35 v7, kYear 39 v8, kLots 43 v9, kLives 46 6 v10, kLives 54 6 v11, kBl_undos 0, kTales 63 v13, kBl_markedLives 0, kBl_markedTales 0, kBl_laid (Bl_laid v0), kForecast 70 6 43 46 75 v17, kLives 75 6 v18, kDeeds 83 v19, kPairs 84 v20, kLives 88 6 (und 0), kLives 96 6 (und 1), kLives 104 6 (und 2), kLives 112 6 (und 3), kLives 120 6 (und 4), kLives 128 6 (und 5), kLives 136 6 (und 6), kLives 144 6 (und 7), kLives 152 6 (und 8), kLives 160 6 (und 9), kLives 168 6 (und 10), kLives 176 6 (und 11), kLives 184 6 (und 12), kLives 192 6 (und 13), kLives 200 6 (und 14), kLives 208 6 (und 15), kLives 216 6 (und 16), kLives 224 6 (mls 0), kTales 232 (mts 0), kLives 236 6 (mls 1), kTales 244 (mts 1), kLives 248 6 (mls 2), kTales 256 (mts 2), kLives 260 6 (mls 3), kTales 268 (mts 3)] : List (List zE)).flatten) ∧ (¬ (a3 < 1) → ((a3 ≤ 7 → AW Z 0 0 43 [some (.ref 0), some (.int a1), some (.int a2), some (.int a3), some (.int a4)] [] ([kBl 0 v0, kTape 1 v1, kTown 6 14 v2, kLaws 14 v3, kReader 20 1 21 v4, kTown 21 29 v5, kLaws 29 v6, kYear 35 v7, kYear 39 v8, kLots 43 v9, kLives 46 6 v10, kLives 54 6 v11, kBl_undos 0, kTales 63 v13, kBl_markedLives 0, kBl_markedTales 0, kBl_laid (Bl_laid v0), kForecast 70 6 43 46 75 v17, kLives 75 6 v18, kDeeds 83 v19, kPairs 84 v20, kLives 88 6 (und 0), kLives 96 6 (und 1), kLives 104 6 (und 2), kLives 112 6 (und 3), kLives 120 6 (und 4), kLives 128 6 (und 5), kLives 136 6 (und 6), kLives 144 6 (und 7), kLives 152 6 (und 8), kLives 160 6 (und 9), kLives 168 6 (und 10), kLives 176 6 (und 11), kLives 184 6 (und 12), kLives 192 6 (und 13), kLives 200 6 (und 14), kLives 208 6 (und 15), kLives 216 6 (und 16), kLives 224 6 (mls 0), kTales 232 (mts 0), kLives 236 6 (mls 1), kTales 244 (mts 1), kLives 248 6 (mls 2), kTales 256 (mts 2), kLives 260 6 (mls 3), kTales 268 (mts 3)] : List (List zE)).flatten) ∧ (¬ (a3 ≤ 7) → AW Z 0 0 33 [some (.ref 0), some (.int a1), some (.int a2), some (.int a3), some (.int a4)] [] ([kBl 0 v0, kTape 1 v1, kTown 6 14 v2, kLaws 14 v3, kReader 20 1 21 v4, kTown 21 29 v5, kLaws 29 v6, kYear 35 v7, kYear 39 v8, kLots 43 v9, kLives 46 6 v10, kLives 54 6 v11, kBl_undos 0, kTales 63 v13, kBl_markedLives 0, kBl_markedTales 0, kBl_laid (Bl_laid v0), kForecast 70 6 43 46 75 v17, kLives 75 6 v18, kDeeds 83 v19, kPairs 84 v20, kLives 88 6 (und 0), kLives 96 6 (und 1), kLives 104 6 (und 2), kLives 112 6 (und 3), kLives 120 6 (und 4), kLives 128 6 (und 5), kLives 136 6 (und 6), kLives 144 6 (und 7), kLives 152 6 (und 8), kLives 160 6 (und 9), kLives 168 6 (und 10), kLives 176 6 (und 11), kLives 184 6 (und 12), kLives 192 6 (und 13), kLives 200 6 (und 14), kLives 208 6 (und 15), kLives 216 6 (und 16), kLives 224 6 (mls 0), kTales 232 (mts 0), kLives 236 6 (mls 1), kTales 244 (mts 1), kLives 248 6 (mls 2), kTales 256 (mts 2), kLives 260 6 (mls 3), kTales 268 (mts 3)] : List (List zE)).flatten))))))
  refine ⟨fun c2 => ?_, fun c2 => ⟨fun c3 => ?_, fun c3 => ⟨fun c4 => ?_, fun c4 => ?_⟩⟩⟩
  · rw [if_pos c2] at hf
    cases hf
    exact zThrow_254 hZ hR (by decide) hE hT (by decide) (by decide) rfl ⟨rfl, rfl⟩
  · rw [if_neg c2, if_pos c3] at hf
    cases hf
    exact zThrow_254 hZ hR (by decide) hE hT (by decide) (by decide) rfl ⟨rfl, rfl⟩
  rotate_left
  · rw [if_neg c2, if_neg c3, if_neg c4] at hf
    cases hf
    exact zThrow_254 hZ hR (by decide) hE hT (by decide) (by decide) rfl ⟨rfl, rfl⟩
  rw [if_neg c2, if_neg c3, if_pos c4] at hf
  refine AW.run hZ hRm [55, 77] 400 ?_
  show ((a4 < (-1) → AW Z 0 0 55 [some (.ref 0), some (.int a1), some (.int a2), some (.int a3), some (.int a4)] [] ([kBl 0 v0, kTape 1 v1, kTown 6 14 v2, kLaws 14 v3, kReader 20 1 21 v4, kTown 21 29 v5, kLaws 29 v6, kYear 35 v7, kYear 39 v8, kLots 43 v9, kLives 46 6 v10, kLives 54 6 v11, kBl_undos 0, kTales 63 v13, kBl_markedLives 0, kBl_markedTales 0, kBl_laid (Bl_laid v0), kForecast 70 6 43 46 75 v17, kLives 75 6 v18, kDeeds 83 v19, kPairs 84 v20, kLives 88 6 (und 0), kLives 96 6 (und 1), kLives 104 6 (und 2), kLives 112 6 (und 3), kLives 120 6 (und 4), kLives 128 6 (und 5), kLives 136 6 (und 6), kLives 144 6 (und 7), kLives 152 6 (und 8), kLives 160 6 (und 9), kLives 168 6 (und 10), kLives 176 6 (und 11), kLives 184 6 (und 12), kLives 192 6 (und 13), kLives 200 6 (und 14), kLives 208 6 (und 15), kLives 216 6 (und 16), kLives 224 6 (mls 0), kTales 232 (mts 0), kLives 236 6 (mls 1), kTales 244 (mts 1), kLives 248 6 (mls 2), kTales 256 (mts 2), kLives 260 6 (mls 3), kTales 268 (mts 3)] : List (List zE)).flatten) ∧ (¬ (a4 < (-1)) → ((a4 < a3 → AW Z 0 0 77 [some (.ref 0), some (.int a1), some (.int a2), some (.int a3), some (.int a4)] [.int a3, .int a2, .int a1, .ref 46, .ref 83] ([kBl 0 v0, kTape 1 v1, kTown 6 14 v2, kLaws 14 v3, kReader 20 1 21 v4, kTown 21 29 v5, kLaws 29 v6, kYear 35 v7, kYear 39 v8, kLots 43 v9, kLives 46 6 v10, kLives 54 6 v11, kBl_undos 0, kTales 63 v13, kBl_markedLives 0, kBl_markedTales 0, kBl_laid (Bl_laid v0), kForecast 70 6 43 46 75 v17, kLives 75 6 v18, kDeeds 83 v19, kPairs 84 v20, kLives 88 6 (und 0), kLives 96 6 (und 1), kLives 104 6 (und 2), kLives 112 6 (und 3), kLives 120 6 (und 4), kLives 128 6 (und 5), kLives 136 6 (und 6), kLives 144 6 (und 7), kLives 152 6 (und 8), kLives 160 6 (und 9), kLives 168 6 (und 10), kLives 176 6 (und 11), kLives 184 6 (und 12), kLives 192 6 (und 13), kLives 200 6 (und 14), kLives 208 6 (und 15), kLives 216 6 (und 16), kLives 224 6 (mls 0), kTales 232 (mts 0), kLives 236 6 (mls 1), kTales 244 (mts 1), kLives 248 6 (mls 2), kTales 256 (mts 2), kLives 260 6 (mls 3), kTales 268 (mts 3)] : List (List zE)).flatten) ∧ (¬ (a4 < a3) → AW Z 0 0 55 [some (.ref 0), some (.int a1), some (.int a2), some (.int a3), some (.int a4)] [] ([kBl 0 v0, kTape 1 v1, kTown 6 14 v2, kLaws 14 v3, kReader 20 1 21 v4, kTown 21 29 v5, kLaws 29 v6, kYear 35 v7, kYear 39 v8, kLots 43 v9, kLives 46 6 v10, kLives 54 6 v11, kBl_undos 0, kTales 63 v13, kBl_markedLives 0, kBl_markedTales 0, kBl_laid (Bl_laid v0), kForecast 70 6 43 46 75 v17, kLives 75 6 v18, kDeeds 83 v19, kPairs 84 v20, kLives 88 6 (und 0), kLives 96 6 (und 1), kLives 104 6 (und 2), kLives 112 6 (und 3), kLives 120 6 (und 4), kLives 128 6 (und 5), kLives 136 6 (und 6), kLives 144 6 (und 7), kLives 152 6 (und 8), kLives 160 6 (und 9), kLives 168 6 (und 10), kLives 176 6 (und 11), kLives 184 6 (und 12), kLives 192 6 (und 13), kLives 200 6 (und 14), kLives 208 6 (und 15), kLives 216 6 (und 16), kLives 224 6 (mls 0), kTales 232 (mts 0), kLives 236 6 (mls 1), kTales 244 (mts 1), kLives 248 6 (mls 2), kTales 256 (mts 2), kLives 260 6 (mls 3), kTales 268 (mts 3)] : List (List zE)).flatten))))
  refine ⟨fun c5 => ?_, fun c5 => ⟨fun c6 => ?_, fun c6 => ?_⟩⟩
  · rw [if_pos c5] at hf
    cases hf
    exact zThrow_259 hZ hR (by decide) hE hT (by decide) (by decide) rfl ⟨rfl, rfl⟩
  rotate_left
  · rw [if_neg c5, if_neg c6] at hf
    cases hf
    exact zThrow_259 hZ hR (by decide) hE hT (by decide) (by decide) rfl ⟨rfl, rfl⟩
  rw [if_neg c5, if_pos c6] at hf
  obtain ⟨q3, h3, hf⟩ := zbind hf
  refine AW.callVc hZ hR hN (c_Deeds_seek N v19 v10 v2 v3 a1 a2 a3 q3 h3) zMX0_seek_ok rfl rfl zKx_261 zVx_261 rfl [1, 5, 8, 6, 1, 8, 6, 4, 4, 3, 8, 8, 1, 4, 1, 1, 1, 5, 8, 1, 4, 8, 8, 8, 8, 8, 8, 8, 8, 8, 8, 8, 8, 8, 8, 8, 8, 8, 8, 4, 8, 4, 8, 4, 8, 4] [19, 10, 2, 3] [83, 46, 47, 48, 49, 50, 51, 52, 53, 6, 7, 8, 9, 10, 11, 12, 13, 14, 15, 16, 17, 18, 19] rfl rfl rfl (by decide) (by decide) (by decide) (by decide) (by decide) (by decide) rfl rfl rfl rfl rfl ?_
  rintro v cc ⟨rfl, rfl⟩
  refine ⟨_, rfl, rfl, ?_⟩
  show AW Z 0 0 80 [some (.ref 0), some (.int a1), some (.int a2), some (.int a3), some (.int a4)] [] ([kBl 0 v0, kTape 1 v1, kTown 6 14 v2, kLaws 14 (Laws_s_facts_stack v3 q3.2.2.1 q3.2.2.2), kReader 20 1 21 v4, kTown 21 29 v5, kLaws 29 v6, kYear 35 v7, kYear 39 v8, kLots 43 v9, kLives 46 6 v10, kLives 54 6 v11, kBl_undos 0, kTales 63 v13, kBl_markedLives 0, kBl_markedTales 0, kBl_laid (Bl_laid v0), kForecast 70 6 43 46 75 v17, kLives 75 6 v18, kDeeds 83 (Deeds_s_bestGood_bestRow v19 q3.1 q3.2.1), kPairs 84 v20, kLives 88 6 (und 0), kLives 96 6 (und 1), kLives 104 6 (und 2), kLives 112 6 (und 3), kLives 120 6 (und 4), kLives 128 6 (und 5), kLives 136 6 (und 6), kLives 144 6 (und 7), kLives 152 6 (und 8), kLives 160 6 (und 9), kLives 168 6 (und 10), kLives 176 6 (und 11), kLives 184 6 (und 12), kLives 192 6 (und 13), kLives 200 6 (und 14), kLives 208 6 (und 15), kLives 216 6 (und 16), kLives 224 6 (mls 0), kTales 232 (mts 0), kLives 236 6 (mls 1), kTales 244 (mts 1), kLives 248 6 (mls 2), kTales 256 (mts 2), kLives 260 6 (mls 3), kTales 268 (mts 3)] : List (List zE)).flatten
  refine AW.run hZ hRm [103, 106] 400 ?_
  show ((¬ (a4 = (-1)) → AW Z 0 0 103 [some (.ref 0), some (.int a1), some (.int a2), some (.int a3), some (.int a4)] [.int a4, .int a3, .ref 83] ([kBl 0 v0, kTape 1 v1, kTown 6 14 v2, kLaws 14 (Laws_s_facts_stack v3 q3.2.2.1 q3.2.2.2), kReader 20 1 21 v4, kTown 21 29 v5, kLaws 29 v6, kYear 35 v7, kYear 39 v8, kLots 43 v9, kLives 46 6 v10, kLives 54 6 v11, kBl_undos 0, kTales 63 v13, kBl_markedLives 0, kBl_markedTales 0, kBl_laid (Bl_laid v0), kForecast 70 6 43 46 75 v17, kLives 75 6 v18, kDeeds 83 (Deeds_s_bestGood_bestRow v19 q3.1 q3.2.1), kPairs 84 v20, kLives 88 6 (und 0), kLives 96 6 (und 1), kLives 104 6 (und 2), kLives 112 6 (und 3), kLives 120 6 (und 4), kLives 128 6 (und 5), kLives 136 6 (und 6), kLives 144 6 (und 7), kLives 152 6 (und 8), kLives 160 6 (und 9), kLives 168 6 (und 10), kLives 176 6 (und 11), kLives 184 6 (und 12), kLives 192 6 (und 13), kLives 200 6 (und 14), kLives 208 6 (und 15), kLives 216 6 (und 16), kLives 224 6 (mls 0), kTales 232 (mts 0), kLives 236 6 (mls 1), kTales 244 (mts 1), kLives 248 6 (mls 2), kTales 256 (mts 2), kLives 260 6 (mls 3), kTales 268 (mts 3)] : List (List zE)).flatten) ∧ (a4 = (-1) → AW Z 0 0 106 [some (.ref 0), some (.int a1), some (.int a2), some (.int a3), some (.int a4)] [.int q3.1] ([kBl 0 v0, kTape 1 v1, kTown 6 14 v2, kLaws 14 (Laws_s_facts_stack v3 q3.2.2.1 q3.2.2.2), kReader 20 1 21 v4, kTown 21 29 v5, kLaws 29 v6, kYear 35 v7, kYear 39 v8, kLots 43 v9, kLives 46 6 v10, kLives 54 6 v11, kBl_undos 0, kTales 63 v13, kBl_markedLives 0, kBl_markedTales 0, kBl_laid (Bl_laid v0), kForecast 70 6 43 46 75 v17, kLives 75 6 v18, kDeeds 83 (Deeds_s_bestGood_bestRow v19 q3.1 q3.2.1), kPairs 84 v20, kLives 88 6 (und 0), kLives 96 6 (und 1), kLives 104 6 (und 2), kLives 112 6 (und 3), kLives 120 6 (und 4), kLives 128 6 (und 5), kLives 136 6 (und 6), kLives 144 6 (und 7), kLives 152 6 (und 8), kLives 160 6 (und 9), kLives 168 6 (und 10), kLives 176 6 (und 11), kLives 184 6 (und 12), kLives 192 6 (und 13), kLives 200 6 (und 14), kLives 208 6 (und 15), kLives 216 6 (und 16), kLives 224 6 (mls 0), kTales 232 (mts 0), kLives 236 6 (mls 1), kTales 244 (mts 1), kLives 248 6 (mls 2), kTales 256 (mts 2), kLives 260 6 (mls 3), kTales 268 (mts 3)] : List (List zE)).flatten))
  refine ⟨fun c7 => ?_, fun c7 => ?_⟩
  rotate_left
  · rw [if_pos c7] at hf
    cases hf
    exact AW.iretX hZ hE rfl rfl rfl rfl (by decide) (by decide) rfl ⟨_, rfl, rfl, rfl⟩
  rw [if_neg c7] at hf
  obtain ⟨q4, h4, hf⟩ := zbind hf
  refine AW.callVc hZ hR hN (c_Deeds_deedOf N (Deeds_s_bestGood_bestRow v19 q3.1 q3.2.1) a3 a4 q4 h4) zMX0_deedOf_ok rfl rfl zKx_268 zVx_268 rfl [1, 5, 8, 6, 1, 8, 6, 4, 4, 3, 8, 8, 1, 4, 1, 1, 1, 5, 8, 1, 4, 8, 8, 8, 8, 8, 8, 8, 8, 8, 8, 8, 8, 8, 8, 8, 8, 8, 8, 4, 8, 4, 8, 4, 8, 4] [19] [83] rfl rfl rfl (by decide) (by decide) (by decide) (by decide) (by decide) (by decide) rfl rfl rfl rfl rfl ?_
  rintro v cc ⟨rfl, rfl⟩
  refine ⟨_, rfl, rfl, ?_⟩
  show AW Z 0 0 106 [some (.ref 0), some (.int a1), some (.int a2), some (.int a3), some (.int a4)] [.int q4] ([kBl 0 v0, kTape 1 v1, kTown 6 14 v2, kLaws 14 (Laws_s_facts_stack v3 q3.2.2.1 q3.2.2.2), kReader 20 1 21 v4, kTown 21 29 v5, kLaws 29 v6, kYear 35 v7, kYear 39 v8, kLots 43 v9, kLives 46 6 v10, kLives 54 6 v11, kBl_undos 0, kTales 63 v13, kBl_markedLives 0, kBl_markedTales 0, kBl_laid (Bl_laid v0), kForecast 70 6 43 46 75 v17, kLives 75 6 v18, kDeeds 83 (Deeds_s_bestGood_bestRow v19 q3.1 q3.2.1), kPairs 84 v20, kLives 88 6 (und 0), kLives 96 6 (und 1), kLives 104 6 (und 2), kLives 112 6 (und 3), kLives 120 6 (und 4), kLives 128 6 (und 5), kLives 136 6 (und 6), kLives 144 6 (und 7), kLives 152 6 (und 8), kLives 160 6 (und 9), kLives 168 6 (und 10), kLives 176 6 (und 11), kLives 184 6 (und 12), kLives 192 6 (und 13), kLives 200 6 (und 14), kLives 208 6 (und 15), kLives 216 6 (und 16), kLives 224 6 (mls 0), kTales 232 (mts 0), kLives 236 6 (mls 1), kTales 244 (mts 1), kLives 248 6 (mls 2), kTales 256 (mts 2), kLives 260 6 (mls 3), kTales 268 (mts 3)] : List (List zE)).flatten
  cases hf
  exact AW.iretX hZ hE rfl rfl rfl rfl (by decide) (by decide) rfl ⟨_, rfl, rfl, rfl⟩
set_option maxRecDepth 40000 in
set_option maxHeartbeats 8000000 in
theorem c_Bl_rests_L53 {Z : zCtx} {n1 : Nat} (hZ : zOk Z zMX11_rests) (hR : zCan Z 6 1 6) (hN : zNew Z n1 0) (hRm : zRoom Z 0 0) (N : Nat) {cs : List zE} (a1 a2 a3 a4 : Int32) (y6 : Int32) : ∀ (fuel : Nat) (x5 x7 : Int32) (q : Int32 ⊕ Int32), f_Bl_rests_L53 N fuel a1 a2 a3 a4 y6 x5 x7 = some q → (∀ w, q = Sum.inl w → AW Z 0 0 100 [some (.ref 0), some (.int a1), some (.int a2), some (.int a3), some (.int a4), none, none, none] [.int w] cs) → (∀ w, q = Sum.inr w → AW Z 0 0 110 [some (.ref 0), some (.int a1), some (.int a2), some (.int a3), some (.int a4), some (.int w), some (.int y6), none] [] cs) → AW Z 0 0 53 [some (.ref 0), some (.int a1), some (.int a2), some (.int a3), some (.int a4), some (.int x5), some (.int y6), some (.int x7)] [] cs := by
  intro fuel
  induction fuel with
  | zero =>
    intro x5 x7 q hf hk0 hk1
    simp [f_Bl_rests_L53] at hf
  | succ fuel ih =>
    intro x5 x7 q hf hk0 hk1
    rw [f_Bl_rests_L53] at hf
    refine AW.run hZ hRm [66, 110] 400 ?_
    show ((5 < x7 → AW Z 0 0 110 [some (.ref 0), some (.int a1), some (.int a2), some (.int a3), some (.int a4), some (.int x5), some (.int y6), some (.int x7)] [] cs) ∧ (¬ (5 < x7) → AW Z 0 0 66 [some (.ref 0), some (.int a1), some (.int a2), some (.int a3), some (.int a4), some (.int x5), some (.int y6), some (.int x7)] [.int x7, .int y6, .int a3, .int a2, .int a1] cs))
    refine ⟨fun c1 => ?_, fun c1 => ?_⟩
    · rw [if_pos c1] at hf
      cases hf
      refine AW.forget [true, true, true, true, true, true, true, false] ?_
      show AW Z 0 0 110 [some (.ref 0), some (.int a1), some (.int a2), some (.int a3), some (.int a4), some (.int x5), some (.int y6), none] [] cs
      exact hk1 _ rfl
    rw [if_neg c1] at hf
    obtain ⟨q1, h1, hf⟩ := zbind hf
    refine AW.callS0 hZ hR hN (c_Bl_isBestCare N a1 a2 a3 y6 x7 q1 h1) zMX11_isBestCare_ok rfl rfl zKx_302 zVx_302 rfl (by decide) (by decide) (by decide) (by decide) (fun _ => rfl) rfl rfl ?_
    show AW Z 0 0 69 [some (.ref 0), some (.int a1), some (.int a2), some (.int a3), some (.int a4), some (.int x5), some (.int y6), some (.int x7)] [.int q1] cs
    refine AW.run hZ hRm [53, 79] 400 ?_
    show ((q1 = 0 → AW Z 0 0 53 [some (.ref 0), some (.int a1), some (.int a2), some (.int a3), some (.int a4), some (.int x5), some (.int y6), some (.int (x7 + 1))] [] cs) ∧ (¬ (q1 = 0) → AW Z 0 0 79 [some (.ref 0), some (.int a1), some (.int a2), some (.int a3), some (.int a4), some (.int x5), some (.int y6), some (.int x7)] [.int y6, .int x7, .int a3, .int a2, .int a1] cs))
    refine ⟨fun c2 => ?_, fun c2 => ?_⟩
    · rw [if_pos c2] at hf
      exact ih x5 (x7 + 1) q hf hk0 hk1
    rw [if_neg c2] at hf
    obtain ⟨q2, h2, hf⟩ := zbind hf
    refine AW.callS0 hZ hR hN (c_Bl_isBestCare N a1 a2 a3 x7 y6 q2 h2) zMX11_isBestCare_ok rfl rfl zKx_302 zVx_302 rfl (by decide) (by decide) (by decide) (by decide) (fun _ => rfl) rfl rfl ?_
    show AW Z 0 0 82 [some (.ref 0), some (.int a1), some (.int a2), some (.int a3), some (.int a4), some (.int x5), some (.int y6), some (.int x7)] [.int q2] cs
    refine AW.run hZ hRm [53, 100] 400 ?_
    show ((q2 = 0 → AW Z 0 0 53 [some (.ref 0), some (.int a1), some (.int a2), some (.int a3), some (.int a4), some (.int x5), some (.int y6), some (.int (x7 + 1))] [] cs) ∧ (¬ (q2 = 0) → ((¬ (x5 = a4) → AW Z 0 0 53 [some (.ref 0), some (.int a1), some (.int a2), some (.int a3), some (.int a4), some (.int (x5 + 1)), some (.int y6), some (.int (x7 + 1))] [] cs) ∧ (x5 = a4 → AW Z 0 0 100 [some (.ref 0), some (.int a1), some (.int a2), some (.int a3), some (.int a4), some (.int x5), some (.int y6), some (.int x7)] [.int (10 * y6 + x7)] cs))))
    refine ⟨fun c3 => ?_, fun c3 => ⟨fun c4 => ?_, fun c4 => ?_⟩⟩
    · rw [if_pos c3] at hf
      exact ih x5 (x7 + 1) q hf hk0 hk1
    · rw [if_neg c3, if_neg c4] at hf
      exact ih (x5 + 1) (x7 + 1) q hf hk0 hk1
    · rw [if_neg c3, if_pos c4] at hf
      cases hf
      refine AW.forget [true, true, true, true, true, false, false, false] ?_
      show AW Z 0 0 100 [some (.ref 0), some (.int a1), some (.int a2), some (.int a3), some (.int a4), none, none, none] [.int (10 * y6 + x7)] cs
      exact hk0 _ rfl
set_option maxRecDepth 40000 in
set_option maxHeartbeats 8000000 in
theorem c_Bl_rests_L44 {Z : zCtx} {n1 : Nat} (hZ : zOk Z zMX11_rests) (hR : zCan Z 6 1 6) (hN : zNew Z n1 0) (hRm : zRoom Z 0 0) (N : Nat) {cs : List zE} (a1 a2 a3 a4 : Int32) : ∀ (fuel : Nat) (x5 x6 : Int32) (q : Int32 ⊕ Int32), f_Bl_rests_L44 N fuel a1 a2 a3 a4 x5 x6 = some q → (∀ w, q = Sum.inl w → AW Z 0 0 100 [some (.ref 0), some (.int a1), some (.int a2), some (.int a3), some (.int a4), none, none, none] [.int w] cs) → (∀ w, q = Sum.inr w → AW Z 0 0 116 [some (.ref 0), some (.int a1), some (.int a2), some (.int a3), some (.int a4), some (.int w), none, none] [] cs) → AW Z 0 0 44 [some (.ref 0), some (.int a1), some (.int a2), some (.int a3), some (.int a4), some (.int x5), some (.int x6), none] [] cs := by
  intro fuel
  induction fuel with
  | zero =>
    intro x5 x6 q hf hk0 hk1
    simp [f_Bl_rests_L44] at hf
  | succ fuel ih =>
    intro x5 x6 q hf hk0 hk1
    rw [f_Bl_rests_L44] at hf
    refine AW.run hZ hRm [53, 116] 400 ?_
    show ((5 < x6 → AW Z 0 0 116 [some (.ref 0), some (.int a1), some (.int a2), some (.int a3), some (.int a4), some (.int x5), some (.int x6), none] [] cs) ∧ (¬ (5 < x6) → AW Z 0 0 53 [some (.ref 0), some (.int a1), some (.int a2), some (.int a3), some (.int a4), some (.int x5), some (.int x6), some (.int 0)] [] cs))
    refine ⟨fun c1 => ?_, fun c1 => ?_⟩
    · rw [if_pos c1] at hf
      cases hf
      refine AW.forget [true, true, true, true, true, true, false, false] ?_
      show AW Z 0 0 116 [some (.ref 0), some (.int a1), some (.int a2), some (.int a3), some (.int a4), some (.int x5), none, none] [] cs
      exact hk1 _ rfl
    rw [if_neg c1] at hf
    obtain ⟨q1, h1, hf⟩ := zbind hf
    refine c_Bl_rests_L53 hZ hR hN hRm N a1 a2 a3 a4 x6 N x5 0 q1 h1 (fun w hw => ?_) (fun w hw => ?_)
    · subst hw
      cases hf
      exact hk0 _ rfl
    · subst hw
      refine AW.run hZ hRm [44] 400 ?_
      show AW Z 0 0 44 [some (.ref 0), some (.int a1), some (.int a2), some (.int a3), some (.int a4), some (.int w), some (.int (x6 + 1)), none] [] cs
      exact ih w (x6 + 1) q hf hk0 hk1
set_option maxRecDepth 40000 in
set_option maxHeartbeats 8000000 in
theorem c_Bl_rests (N : Nat) (cs : List zE) (a1 : Int32) (a2 : Int32) (a3 : Int32) (a4 : Int32) (R : Unit ⊕ Int32) (hf : f_Bl_rests N a1 a2 a3 a4 = some R) : CtX zMX11_rests 6 1 6 [.ref 0, .int a1, .int a2, .int a3, .int a4] cs (fun v cc => ∃ r, R = Sum.inr r ∧ v = some (.int r) ∧ cc = cs) (fun cc => R = Sum.inl () ∧ cc = cs) := by
  refine CtX.of zMX11_rests_ok (by decide) (Nat.le_of_ble_eq_true rfl) ?_
  intro Z hZ hR hN hE hT
  have hRm : zRoom Z 0 0 := zRoom0 Z
  unfold f_Bl_rests at hf
  show AW Z 0 0 0 [some (.ref 0), some (.int a1), some (.int a2), some (.int a3), some (.int a4), none, none, none] [] cs
  refine AW.run hZ hRm [1] 400 ?_
  show AW Z 0 0 1 [some (.ref 0), some (.int a1), some (.int a2), some (.int a3), some (.int a4), none, none, none] [.int a1] cs
  obtain ⟨q1, h1, hf⟩ := zbind hf
  refine AW.callS0 hZ hR hN (c_Bl_isGain N a1 q1 h1) zMX11_isGain_ok rfl rfl zKx_297 zVx_297 rfl (by decide) (by decide) (by decide) (by decide) (fun _ => rfl) rfl rfl ?_
  show AW Z 0 0 4 [some (.ref 0), some (.int a1), some (.int a2), some (.int a3), some (.int a4), none, none, none] [.int q1] cs
  refine AW.run hZ hRm [8, 27] 400 ?_
  show ((q1 = 0 → AW Z 0 0 27 [some (.ref 0), some (.int a1), some (.int a2), some (.int a3), some (.int a4), none, none, none] [] cs) ∧ (¬ (q1 = 0) → AW Z 0 0 8 [some (.ref 0), some (.int a1), some (.int a2), some (.int a3), some (.int a4), none, none, none] [.int a2] cs))
  refine ⟨fun c1 => ?_, fun c1 => ?_⟩
  · rw [if_pos c1] at hf
    cases hf
    exact zThrow_300 hZ hR (by decide) hE hT (by decide) (by decide) rfl ⟨rfl, rfl⟩
  rw [if_neg c1] at hf
  obtain ⟨q2, h2, hf⟩ := zbind hf
  refine AW.callS0 hZ hR hN (c_Bl_isGain N a2 q2 h2) zMX11_isGain_ok rfl rfl zKx_297 zVx_297 rfl (by decide) (by decide) (by decide) (by decide) (fun _ => rfl) rfl rfl ?_
  show AW Z 0 0 11 [some (.ref 0), some (.int a1), some (.int a2), some (.int a3), some (.int a4), none, none, none] [.int q2] cs
  refine AW.run hZ hRm [15, 27] 400 ?_
  show ((q2 = 0 → AW Z 0 0 27 [some (.ref 0), some (.int a1), some (.int a2), some (.int a3), some (.int a4), none, none, none] [] cs) ∧ (¬ (q2 = 0) → AW Z 0 0 15 [some (.ref 0), some (.int a1), some (.int a2), some (.int a3), some (.int a4), none, none, none] [.int a3] cs))
  refine ⟨fun c2 => ?_, fun c2 => ?_⟩
  · rw [if_pos c2] at hf
    cases hf
    exact zThrow_300 hZ hR (by decide) hE hT (by decide) (by decide) rfl ⟨rfl, rfl⟩
  rw [if_neg c2] at hf
  obtain ⟨q3, h3, hf⟩ := zbind hf
  refine AW.callS0 hZ hR hN (c_Bl_isGain N a3 q3 h3) zMX11_isGain_ok rfl rfl zKx_297 zVx_297 rfl (by decide) (by decide) (by decide) (by decide) (fun _ => rfl) rfl rfl ?_
  show AW Z 0 0 18 [some (.ref 0), some (.int a1), some (.int a2), some (.int a3), some (.int a4), none, none, none] [.int q3] cs
  refine AW.run hZ hRm [27, 44] 400 ?_
  show ((q3 = 0 → AW Z 0 0 27 [some (.ref 0), some (.int a1), some (.int a2), some (.int a3), some (.int a4), none, none, none] [] cs) ∧ (¬ (q3 = 0) → (((-1) ≤ a4 → AW Z 0 0 44 [some (.ref 0), some (.int a1), some (.int a2), some (.int a3), some (.int a4), some (.int 0), some (.int 0), none] [] cs) ∧ (¬ ((-1) ≤ a4) → AW Z 0 0 27 [some (.ref 0), some (.int a1), some (.int a2), some (.int a3), some (.int a4), none, none, none] [] cs))))
  refine ⟨fun c3 => ?_, fun c3 => ?_⟩
  · rw [if_pos c3] at hf
    cases hf
    exact zThrow_300 hZ hR (by decide) hE hT (by decide) (by decide) rfl ⟨rfl, rfl⟩
  rw [if_neg c3] at hf
  refine ⟨fun c4 => ?_, fun c4 => ?_⟩
  rotate_left
  · rw [if_pos (Int32.not_le.mp c4)] at hf
    cases hf
    exact zThrow_300 hZ hR (by decide) hE hT (by decide) (by decide) rfl ⟨rfl, rfl⟩
  rw [if_neg (Int32.not_lt.mpr c4)] at hf
  obtain ⟨q4, h4, hf⟩ := zbind hf
  refine c_Bl_rests_L44 hZ hR hN hRm N a1 a2 a3 a4 N 0 0 q4 h4 (fun w hw => ?_) (fun w hw => ?_)
  · subst hw
    cases hf
    exact AW.iretX hZ hE rfl rfl rfl rfl (by decide) (by decide) rfl ⟨_, rfl, rfl, rfl⟩
  · subst hw
    refine AW.run hZ hRm [122, 135] 400 ?_
    show ((a4 = (-1) → AW Z 0 0 135 [some (.ref 0), some (.int a1), some (.int a2), some (.int a3), some (.int a4), some (.int w), none, none] [.int w] cs) ∧ (¬ (a4 = (-1)) → AW Z 0 0 122 [some (.ref 0), some (.int a1), some (.int a2), some (.int a3), some (.int a4), some (.int w), none, none] [] cs))
    refine ⟨fun c5 => ?_, fun c5 => ?_⟩
    · have hf : (if a4 = (-1) then some (Sum.inr w) else some (Sum.inl ())) = some R := hf
      rw [if_pos c5] at hf
      cases hf
      exact AW.iretX hZ hE rfl rfl rfl rfl (by decide) (by decide) rfl ⟨_, rfl, rfl, rfl⟩
    · have hf : (if a4 = (-1) then some (Sum.inr w) else some (Sum.inl ())) = some R := hf
      rw [if_neg c5] at hf
      cases hf
      exact zThrow_306 hZ hR (by decide) hE hT (by decide) (by decide) rfl ⟨rfl, rfl⟩
