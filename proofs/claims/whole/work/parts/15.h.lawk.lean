/-! ===== methods whose code is no plain word: the same rows ===== -/
def zMokL (M : zMth) : Prop := zMdec M.2.1 M.2.2.2.2.1 = true ∧ M.2.2.2.2.1.all (zitB M.2.2.2.2.2) = true ∧ zCok M.2.2.2.2.2 = true ∧ M.1.cls = M.2.2.2.2.2.1 ∧ True ∧ plainName M.1.cls = true
theorem zMokL.dec {M : zMth} (h : zMokL M) {it : zIt} (hi : it ∈ M.2.2.2.2.1) : decode M.2.1 it.1 = .ok (it.2.1, it.2.2.1) := of_decide_eq_true (List.all_eq_true.mp h.1 it hi)
theorem zMokL.itB {M : zMth} (h : zMokL M) {it : zIt} (hi : it ∈ M.2.2.2.2.1) : zitB M.2.2.2.2.2 it = true := List.all_eq_true.mp h.2.1 it hi
def zOkL (Z : zCtx) (M : zMth) : Prop := match Z with
  | (_, p, _, R, s, m, args, _, meth, c, D, dA, adr, A, _) => p.tables.exec = Jvm.exec ∧ c.code = M.2.1 ∧ c.maxLocals = M.2.2.1 ∧ meth.sig.returnType = M.2.2.2.1 ∧ s.vm.findClass M.2.2.2.2.2.1 = some m.cls ∧ (∀ w ∈ zTg, w.before args s = true) ∧ meth.locks = false ∧ va_K D zcl (zty dA) s ∧ (∀ q : Nat, s.heap.size ≤ q → A q) ∧ zAm adr A s s.heap ∧ (1 ≤ R.frames ∧ 64 ≤ R.locals) ∧ zMokL M ∧ True
set_option maxHeartbeats 8000000 in
set_option maxRecDepth 100000 in
theorem zstep_soundL {Z : zCtx} {M : zMth} (hZ : zOkL Z M) {k n : Nat} (hcl : zRoom Z k n) {it : zIt} (hi : it ∈ M.2.2.2.2.1) {lv : List (Option Value)} {st : List Value} {cs : List zE} {K : zK} {DD : Prop} (hKK : ∀ pc1 lv1 st1 cs1, K pc1 lv1 st1 cs1 → AW Z k n pc1 lv1 st1 cs1) (hDD : DD → AW Z k n it.1 lv st cs) (h : zstep it it.1 lv st cs K DD) : AW Z k n it.1 lv st cs := by
  obtain ⟨pc, op, len, v, a, b, c, sw⟩ := it
  obtain ⟨l, p, e, R, s, m, args, below, meth, cd, D, dA, adr, A, Q⟩ := Z
  obtain ⟨y, cc, nL, ret, lst, C⟩ := M
  obtain ⟨hx, hb, hml, hr, hown, hts, hlocks, hK0, hA, hAm, hR, hM, hnm⟩ := hZ
  have hcl : k ≤ R.cells ∧ n ≤ R.slots := hcl
  have hdec := hM.dec hi
  have hit := hM.itB hi
  have hCok : zCok C = true := hM.2.2.1
  dsimp only at hx hb hml hr hown hts hlocks hK0 hA hAm hR hdec hit hDD h hKK hi ⊢
  cases op
  case iconst i =>
    simp only [zitB, Bool.and_eq_true, beq_iff_eq] at hit
    obtain ⟨rfl, hv⟩ := hit
    obtain rfl := zvI_eq hv
    simp only [zstep] at h
    intro H locs ls hP hD hS hl
    exact lv_iconst hx hb hdec rfl (hKK _ _ _ _ h H locs ls hP hD hS hl)
  case bipush i =>
    simp only [zitB, Bool.and_eq_true, beq_iff_eq] at hit
    obtain ⟨rfl, hv⟩ := hit
    obtain rfl := zvI_eq hv
    simp only [zstep] at h
    intro H locs ls hP hD hS hl
    exact lv_bipush hx hb hdec rfl (hKK _ _ _ _ h H locs ls hP hD hS hl)
  case sipush i =>
    simp only [zitB, Bool.and_eq_true, beq_iff_eq] at hit
    obtain ⟨rfl, hv⟩ := hit
    obtain rfl := zvI_eq hv
    simp only [zstep] at h
    intro H locs ls hP hD hS hl
    exact lv_sipush hx hb hdec rfl (hKK _ _ _ _ h H locs ls hP hD hS hl)
  case lconst i =>
    simp only [zitB, Bool.and_eq_true, beq_iff_eq] at hit
    obtain ⟨rfl, hv⟩ := hit
    obtain rfl := zvL_eq hv
    simp only [zstep] at h
    intro H locs ls hP hD hS hl
    exact lv_lconst hx hb hdec rfl (hKK _ _ _ _ h H locs ls hP hD hS hl)
  case ldc i =>
    simp only [zitB, Bool.and_eq_true, Bool.or_eq_true, beq_iff_eq] at hit
    obtain ⟨rfl, hv⟩ := hit
    simp only [zstep] at h
    split at h
    · obtain ⟨x, rfl, hw⟩ := zcst_of hCok (hv.resolve_left (by decide))
      intro H locs ls hP hD hS hl
      exact lv_ldc hx hb hown (hts _ hw) hdec (hKK _ _ _ _ h H locs ls hP hD hS hl)
    · exact hDD h
  case ldc_w i =>
    simp only [zitB, Bool.and_eq_true, Bool.or_eq_true, beq_iff_eq] at hit
    obtain ⟨rfl, hv⟩ := hit
    simp only [zstep] at h
    split at h
    · obtain ⟨x, rfl, hw⟩ := zcst_of hCok (hv.resolve_left (by decide))
      intro H locs ls hP hD hS hl
      exact lv_ldcw hx hb hown (hts _ hw) hdec (hKK _ _ _ _ h H locs ls hP hD hS hl)
    · exact hDD h
  case ldc2_w i =>
    simp only [zitB, Bool.and_eq_true, beq_iff_eq] at hit
    obtain ⟨rfl, hv⟩ := hit
    simp only [zstep] at h
    obtain ⟨x, rfl, hw⟩ := zcstL_of hCok hv
    intro H locs ls hP hD hS hl
    exact lv_ldc2 hx hb hown (hts _ hw) hdec (hKK _ _ _ _ h H locs ls hP hD hS hl)
  case iload i =>
    have hlen : len = 2 := eq_of_beq hit
    subst hlen
    simp only [zstep] at h
    split at h
    · next x hx1 =>
      intro H locs ls hP hD hS hl
      exact lv_iload hx hb hdec (hl.at hx1) (hKK _ _ _ _ h H locs ls hP hD hS hl)
    · exact hDD h
  case iload_n i =>
    have hlen : len = 1 := eq_of_beq hit
    subst hlen
    simp only [zstep] at h
    split at h
    · next x hx1 =>
      intro H locs ls hP hD hS hl
      exact lv_iload_n hx hb hdec rfl (hl.at hx1) (hKK _ _ _ _ h H locs ls hP hD hS hl)
    · exact hDD h
  case istore i =>
    have hlen : len = 2 := eq_of_beq hit
    subst hlen
    simp only [zstep] at h
    split at h
    · next x r w hw =>
      intro H locs ls hP hD hS hl
      have hln : i < cd.maxLocals := by
        have h1 := (List.getElem?_eq_some_iff.mp hw).1
        have h2 := hl.1
        omega
      obtain ⟨hl1, lq, hl2, hl3⟩ := hl
      exact lv_istore hx hb hdec hl2 hln rfl (fun ls1 hls1 => hKK _ _ _ _ h H locs ls1 hP hD hS (zLv.st1 (v := .int x) hl1 hl3 hls1))
    · exact hDD h
  case istore_n i =>
    have hlen : len = 1 := eq_of_beq hit
    subst hlen
    simp only [zstep] at h
    split at h
    · next x r w hw =>
      intro H locs ls hP hD hS hl
      have hln : i.val < cd.maxLocals := by
        have h1 := (List.getElem?_eq_some_iff.mp hw).1
        have h2 := hl.1
        omega
      obtain ⟨hl1, lq, hl2, hl3⟩ := hl
      exact lv_istore_n hx hb hdec rfl hl2 hln rfl (fun ls1 hls1 => hKK _ _ _ _ h H locs ls1 hP hD hS (zLv.st1 (v := .int x) hl1 hl3 hls1))
    · exact hDD h
  case lload i =>
    have hlen : len = 2 := eq_of_beq hit
    subst hlen
    simp only [zstep] at h
    split at h
    · next x hx1 =>
      intro H locs ls hP hD hS hl
      exact lv_lload hx hb hdec (hl.at hx1) (hKK _ _ _ _ h H locs ls hP hD hS hl)
    · exact hDD h
  case lload_n i =>
    have hlen : len = 1 := eq_of_beq hit
    subst hlen
    simp only [zstep] at h
    split at h
    · next x hx1 =>
      intro H locs ls hP hD hS hl
      exact lv_lload_n hx hb hdec rfl (hl.at hx1) (hKK _ _ _ _ h H locs ls hP hD hS hl)
    · exact hDD h
  case lstore i =>
    have hlen : len = 2 := eq_of_beq hit
    subst hlen
    simp only [zstep] at h
    split at h
    · next x r w hw =>
      intro H locs ls hP hD hS hl
      have hln : i + 1 < cd.maxLocals := by
        have h1 := (List.getElem?_eq_some_iff.mp hw).1
        have h2 := hl.1
        omega
      obtain ⟨hl1, lq, hl2, hl3⟩ := hl
      exact lv_lstore hx hb hdec hl2 hln rfl (fun ls1 hls1 => hKK _ _ _ _ h H locs ls1 hP hD hS (zLv.st2 (v := .long x) hl1 hl3 hls1))
    · exact hDD h
  case lstore_n i =>
    have hlen : len = 1 := eq_of_beq hit
    subst hlen
    simp only [zstep] at h
    split at h
    · next x r w hw =>
      intro H locs ls hP hD hS hl
      have hln : i.val + 1 < cd.maxLocals := by
        have h1 := (List.getElem?_eq_some_iff.mp hw).1
        have h2 := hl.1
        omega
      obtain ⟨hl1, lq, hl2, hl3⟩ := hl
      exact lv_lstore_n hx hb hdec rfl hl2 hln rfl (fun ls1 hls1 => hKK _ _ _ _ h H locs ls1 hP hD hS (zLv.st2 (v := .long x) hl1 hl3 hls1))
    · exact hDD h
  case aload i =>
    have hlen : len = 2 := eq_of_beq hit
    subst hlen
    simp only [zstep] at h
    split at h
    · next x hx1 =>
      intro H locs ls hP hD hS hl
      exact lv_aload hx hb hdec (hl.at hx1) (hKK _ _ _ _ h H locs ls hP hD hS hl)
    · exact hDD h
  case aload_n i =>
    have hlen : len = 1 := eq_of_beq hit
    subst hlen
    simp only [zstep] at h
    split at h
    · next x hx1 =>
      intro H locs ls hP hD hS hl
      exact lv_aload_n hx hb hdec rfl (hl.at hx1) (hKK _ _ _ _ h H locs ls hP hD hS hl)
    · exact hDD h
  case astore i =>
    have hlen : len = 2 := eq_of_beq hit
    subst hlen
    simp only [zstep] at h
    split at h
    · next x r w hw =>
      intro H locs ls hP hD hS hl
      have hln : i < cd.maxLocals := by
        have h1 := (List.getElem?_eq_some_iff.mp hw).1
        have h2 := hl.1
        omega
      obtain ⟨hl1, lq, hl2, hl3⟩ := hl
      exact lv_astore hx hb hdec hl2 hln rfl (fun ls1 hls1 => hKK _ _ _ _ h H locs ls1 hP hD hS (zLv.st1 (v := .ref x) hl1 hl3 hls1))
    · exact hDD h
  case astore_n i =>
    have hlen : len = 1 := eq_of_beq hit
    subst hlen
    simp only [zstep] at h
    split at h
    · next x r w hw =>
      intro H locs ls hP hD hS hl
      have hln : i.val < cd.maxLocals := by
        have h1 := (List.getElem?_eq_some_iff.mp hw).1
        have h2 := hl.1
        omega
      obtain ⟨hl1, lq, hl2, hl3⟩ := hl
      exact lv_astore_n hx hb hdec rfl hl2 hln rfl (fun ls1 hls1 => hKK _ _ _ _ h H locs ls1 hP hD hS (zLv.st1 (v := .ref x) hl1 hl3 hls1))
    · exact hDD h
  case iinc i j =>
    simp only [zitB, Bool.and_eq_true, beq_iff_eq] at hit
    obtain ⟨rfl, hv⟩ := hit
    obtain rfl := zvI_eq hv
    simp only [zstep] at h
    split at h
    · next x w hx1 hw =>
      cases hw
      intro H locs ls hP hD hS hl
      have hln : i < cd.maxLocals := by
        have h1 := (List.getElem?_eq_some_iff.mp hx1).1
        have h2 := hl.1
        omega
      have hl1 := hl.1
      obtain ⟨lq, kq, hl2, hl4, hl3⟩ := zlv_iinc hl hx1
      exact lv_iinc hx hb hdec hl2 hl4 rfl hln rfl (fun ls1 hls1 => hKK _ _ _ _ h H locs ls1 hP hD hS (zLv.st1 (v := .int _) hl1 hl3 hls1))
    · exact hDD h
  case iadd =>
    have hlen : len = 1 := by exact eq_of_beq hit
    subst hlen
    simp only [zstep] at h
    split at h
    · intro H locs ls hP hD hS hl
      exact lv_iadd hx hb hdec (hKK _ _ _ _ h H locs ls hP hD hS hl)
    · exact hDD h
  case isub =>
    have hlen : len = 1 := by exact eq_of_beq hit
    subst hlen
    simp only [zstep] at h
    split at h
    · intro H locs ls hP hD hS hl
      exact lv_isub hx hb hdec (hKK _ _ _ _ h H locs ls hP hD hS hl)
    · exact hDD h
  case imul =>
    have hlen : len = 1 := by exact eq_of_beq hit
    subst hlen
    simp only [zstep] at h
    split at h
    · intro H locs ls hP hD hS hl
      exact lv_imul hx hb hdec (hKK _ _ _ _ h H locs ls hP hD hS hl)
    · exact hDD h
  case iand =>
    have hlen : len = 1 := by exact eq_of_beq hit
    subst hlen
    simp only [zstep] at h
    split at h
    · intro H locs ls hP hD hS hl
      exact lv_iand hx hb hdec (hKK _ _ _ _ h H locs ls hP hD hS hl)
    · exact hDD h
  case ior =>
    have hlen : len = 1 := by exact eq_of_beq hit
    subst hlen
    simp only [zstep] at h
    split at h
    · intro H locs ls hP hD hS hl
      exact lv_ior hx hb hdec (hKK _ _ _ _ h H locs ls hP hD hS hl)
    · exact hDD h
  case ishl =>
    have hlen : len = 1 := by exact eq_of_beq hit
    subst hlen
    simp only [zstep] at h
    split at h
    · intro H locs ls hP hD hS hl
      exact lv_ishl hx hb hdec (hKK _ _ _ _ h H locs ls hP hD hS hl)
    · exact hDD h
  case ishr =>
    have hlen : len = 1 := by exact eq_of_beq hit
    subst hlen
    simp only [zstep] at h
    split at h
    · intro H locs ls hP hD hS hl
      exact lv_ishr hx hb hdec (hKK _ _ _ _ h H locs ls hP hD hS hl)
    · exact hDD h
  case ineg =>
    have hlen : len = 1 := by exact eq_of_beq hit
    subst hlen
    simp only [zstep] at h
    split at h
    · intro H locs ls hP hD hS hl
      exact lv_ineg hx hb hdec (hKK _ _ _ _ h H locs ls hP hD hS hl)
    · exact hDD h
  case ladd =>
    have hlen : len = 1 := by exact eq_of_beq hit
    subst hlen
    simp only [zstep] at h
    split at h
    · intro H locs ls hP hD hS hl
      exact lv_ladd hx hb hdec (hKK _ _ _ _ h H locs ls hP hD hS hl)
    · exact hDD h
  case lsub =>
    have hlen : len = 1 := by exact eq_of_beq hit
    subst hlen
    simp only [zstep] at h
    split at h
    · intro H locs ls hP hD hS hl
      exact lv_lsub hx hb hdec (hKK _ _ _ _ h H locs ls hP hD hS hl)
    · exact hDD h
  case lmul =>
    have hlen : len = 1 := by exact eq_of_beq hit
    subst hlen
    simp only [zstep] at h
    split at h
    · intro H locs ls hP hD hS hl
      exact lv_lmul hx hb hdec (hKK _ _ _ _ h H locs ls hP hD hS hl)
    · exact hDD h
  case land =>
    have hlen : len = 1 := by exact eq_of_beq hit
    subst hlen
    simp only [zstep] at h
    split at h
    · intro H locs ls hP hD hS hl
      exact lv_land hx hb hdec (hKK _ _ _ _ h H locs ls hP hD hS hl)
    · exact hDD h
  case lor =>
    have hlen : len = 1 := by exact eq_of_beq hit
    subst hlen
    simp only [zstep] at h
    split at h
    · intro H locs ls hP hD hS hl
      exact lv_lor hx hb hdec (hKK _ _ _ _ h H locs ls hP hD hS hl)
    · exact hDD h
  case lshl =>
    have hlen : len = 1 := by exact eq_of_beq hit
    subst hlen
    simp only [zstep] at h
    split at h
    · intro H locs ls hP hD hS hl
      exact lv_lshl hx hb hdec rfl (hKK _ _ _ _ h H locs ls hP hD hS hl)
    · exact hDD h
  case lshr =>
    have hlen : len = 1 := by exact eq_of_beq hit
    subst hlen
    simp only [zstep] at h
    split at h
    · intro H locs ls hP hD hS hl
      exact lv_lshr hx hb hdec rfl (hKK _ _ _ _ h H locs ls hP hD hS hl)
    · exact hDD h
  case lushr =>
    have hlen : len = 1 := by exact eq_of_beq hit
    subst hlen
    simp only [zstep] at h
    split at h
    · intro H locs ls hP hD hS hl
      exact lv_lushr hx hb hdec rfl (hKK _ _ _ _ h H locs ls hP hD hS hl)
    · exact hDD h
  case i2l =>
    have hlen : len = 1 := by exact eq_of_beq hit
    subst hlen
    simp only [zstep] at h
    split at h
    · intro H locs ls hP hD hS hl
      exact lv_i2l hx hb hdec rfl (hKK _ _ _ _ h H locs ls hP hD hS hl)
    · exact hDD h
  case l2i =>
    have hlen : len = 1 := by exact eq_of_beq hit
    subst hlen
    simp only [zstep] at h
    split at h
    · intro H locs ls hP hD hS hl
      exact lv_l2i hx hb hdec rfl (hKK _ _ _ _ h H locs ls hP hD hS hl)
    · exact hDD h
  case i2c =>
    have hlen : len = 1 := by exact eq_of_beq hit
    subst hlen
    simp only [zstep] at h
    split at h
    · intro H locs ls hP hD hS hl
      exact lv_i2c hx hb hdec rfl (hKK _ _ _ _ h H locs ls hP hD hS hl)
    · exact hDD h
  case i2b =>
    have hlen : len = 1 := by exact eq_of_beq hit
    subst hlen
    simp only [zstep] at h
    split at h
    · intro H locs ls hP hD hS hl
      exact lv_i2b hx hb hdec rfl (hKK _ _ _ _ h H locs ls hP hD hS hl)
    · exact hDD h
  case lcmp =>
    have hlen : len = 1 := by exact eq_of_beq hit
    subst hlen
    simp only [zstep] at h
    split at h
    · intro H locs ls hP hD hS hl
      exact W.lcmp hx hb hdec (hKK _ _ _ _ h H locs ls hP hD hS hl)
    · exact hDD h
  case idiv =>
    have hlen : len = 1 := by exact eq_of_beq hit
    subst hlen
    simp only [zstep] at h
    split at h
    · intro H locs ls hP hD hS hl
      exact lv_idiv hx hb hdec h.1 (hKK _ _ _ _ h.2 H locs ls hP hD hS hl)
    · exact hDD h
  case irem =>
    have hlen : len = 1 := by exact eq_of_beq hit
    subst hlen
    simp only [zstep] at h
    split at h
    · intro H locs ls hP hD hS hl
      exact lv_irem hx hb hdec h.1 (hKK _ _ _ _ h.2 H locs ls hP hD hS hl)
    · exact hDD h
  case ldiv =>
    have hlen : len = 1 := by exact eq_of_beq hit
    subst hlen
    simp only [zstep] at h
    split at h
    · intro H locs ls hP hD hS hl
      exact lv_ldiv hx hb hdec h.1 (hKK _ _ _ _ h.2 H locs ls hP hD hS hl)
    · exact hDD h
  case lrem =>
    have hlen : len = 1 := by exact eq_of_beq hit
    subst hlen
    simp only [zstep] at h
    split at h
    · intro H locs ls hP hD hS hl
      exact lv_lrem hx hb hdec h.1 (hKK _ _ _ _ h.2 H locs ls hP hD hS hl)
    · exact hDD h
  case dup =>
    have hlen : len = 1 := eq_of_beq hit
    subst hlen
    simp only [zstep] at h
    split at h
    · intro H locs ls hP hD hS hl
      exact lv_dup hx hb hdec rfl (hKK _ _ _ _ h H locs ls hP hD hS hl)
    · intro H locs ls hP hD hS hl
      exact lv_dup hx hb hdec rfl (hKK _ _ _ _ h H locs ls hP hD hS hl)
    · exact hDD h
  case dup2 =>
    have hlen : len = 1 := eq_of_beq hit
    subst hlen
    simp only [zstep] at h
    split at h
    · intro H locs ls hP hD hS hl
      exact lv_dup2_11 hx hb hdec rfl rfl (hKK _ _ _ _ h H locs ls hP hD hS hl)
    · intro H locs ls hP hD hS hl
      exact lv_dup2_11 hx hb hdec rfl rfl (hKK _ _ _ _ h H locs ls hP hD hS hl)
    · intro H locs ls hP hD hS hl
      exact lv_dup2_2 hx hb hdec rfl (hKK _ _ _ _ h H locs ls hP hD hS hl)
    · exact hDD h
  case pop =>
    have hlen : len = 1 := eq_of_beq hit
    subst hlen
    simp only [zstep] at h
    split at h
    · intro H locs ls hP hD hS hl
      exact lv_pop hx hb hdec rfl (hKK _ _ _ _ h H locs ls hP hD hS hl)
    · intro H locs ls hP hD hS hl
      exact lv_pop hx hb hdec rfl (hKK _ _ _ _ h H locs ls hP hD hS hl)
    · exact hDD h
  case goto off =>
    simp only [zitB, Bool.and_eq_true, beq_iff_eq] at hit
    obtain ⟨rfl, hv⟩ := hit
    simp only [zstep] at h
    intro H locs ls hP hD hS hl
    exact lv_goto hx hb hdec (of_decide_eq_true hv) (hKK _ _ _ _ h H locs ls hP hD hS hl)
  case if_icmp q off =>
    simp only [zitB, Bool.and_eq_true, beq_iff_eq] at hit
    obtain ⟨rfl, hv⟩ := hit
    have hv := of_decide_eq_true hv
    simp only [zstep] at h
    split at h
    · cases q <;> simp only at h <;> intro H locs ls hP hD hS hl
      case eq => exact lv_icmp_eq hx hb hdec hv (fun h9 => hKK _ _ _ _ (h.1 h9) H locs ls hP hD hS hl) (fun h9 => hKK _ _ _ _ (h.2 h9) H locs ls hP hD hS hl)
      case ne => exact lv_icmp_ne hx hb hdec hv (fun h9 => hKK _ _ _ _ (h.1 h9) H locs ls hP hD hS hl) (fun h9 => hKK _ _ _ _ (h.2 h9) H locs ls hP hD hS hl)
      case lt => exact lv_icmp_lt hx hb hdec hv (fun h9 => hKK _ _ _ _ (h.1 h9) H locs ls hP hD hS hl) (fun h9 => hKK _ _ _ _ (h.2 h9) H locs ls hP hD hS hl)
      case ge => exact lv_icmp_ge hx hb hdec hv (fun h9 => hKK _ _ _ _ (h.1 h9) H locs ls hP hD hS hl) (fun h9 => hKK _ _ _ _ (h.2 h9) H locs ls hP hD hS hl)
      case gt => exact lv_icmp_gt hx hb hdec hv (fun h9 => hKK _ _ _ _ (h.1 h9) H locs ls hP hD hS hl) (fun h9 => hKK _ _ _ _ (h.2 h9) H locs ls hP hD hS hl)
      case le => exact lv_icmp_le hx hb hdec hv (fun h9 => hKK _ _ _ _ (h.1 h9) H locs ls hP hD hS hl) (fun h9 => hKK _ _ _ _ (h.2 h9) H locs ls hP hD hS hl)
    · exact hDD h
  case ifCond q off =>
    simp only [zitB, Bool.and_eq_true, beq_iff_eq] at hit
    obtain ⟨rfl, hv⟩ := hit
    have hv := of_decide_eq_true hv
    simp only [zstep] at h
    split at h
    · cases q <;> simp only at h <;> intro H locs ls hP hD hS hl
      case eq => exact lv_if_eq hx hb hdec hv (fun h9 => hKK _ _ _ _ (h.1 h9) H locs ls hP hD hS hl) (fun h9 => hKK _ _ _ _ (h.2 h9) H locs ls hP hD hS hl)
      case ne => exact lv_if_ne hx hb hdec hv (fun h9 => hKK _ _ _ _ (h.1 h9) H locs ls hP hD hS hl) (fun h9 => hKK _ _ _ _ (h.2 h9) H locs ls hP hD hS hl)
      case lt => exact lv_if_lt hx hb hdec hv (fun h9 => hKK _ _ _ _ (h.1 h9) H locs ls hP hD hS hl) (fun h9 => hKK _ _ _ _ (h.2 h9) H locs ls hP hD hS hl)
      case ge => exact lv_if_ge hx hb hdec hv (fun h9 => hKK _ _ _ _ (h.1 h9) H locs ls hP hD hS hl) (fun h9 => hKK _ _ _ _ (h.2 h9) H locs ls hP hD hS hl)
      case gt => exact lv_if_gt hx hb hdec hv (fun h9 => hKK _ _ _ _ (h.1 h9) H locs ls hP hD hS hl) (fun h9 => hKK _ _ _ _ (h.2 h9) H locs ls hP hD hS hl)
      case le => exact lv_if_le hx hb hdec hv (fun h9 => hKK _ _ _ _ (h.1 h9) H locs ls hP hD hS hl) (fun h9 => hKK _ _ _ _ (h.2 h9) H locs ls hP hD hS hl)
    · exact hDD h
  case tableswitch d lo hi9 offs =>
    have hit : ztabB pc d lo hi9 offs a sw = true := hit
    simp only [zstep] at h
    split at h
    · next x r =>
      have h := zsw_T h
      intro H locs ls hP hD hS hl
      by_cases h1 : x.toInt < lo ∨ hi9 < x.toInt
      · exact lv_tableOut hx hb hdec h1 (ztab_out hit h1) (hKK _ _ _ _ h H locs ls hP hD hS hl)
      · obtain ⟨off, ho, ht⟩ := ztab_in hit (fun q => h1 (Or.inl q)) (fun q => h1 (Or.inr q))
        exact lv_tableIn hx hb hdec (fun q => h1 (Or.inl q)) (fun q => h1 (Or.inr q)) ho ht (hKK _ _ _ _ h H locs ls hP hD hS hl)
    · exact hDD h
  case lookupswitch d ps =>
    simp only [zitB, Bool.and_eq_true] at hit
    simp only [zstep] at h
    split at h
    · next x r =>
      have h := zsw_T h
      intro H locs ls hP hD hS hl
      exact lv_lookup hx hb hdec hit.2 rfl (zlook_of hit.1) (hKK _ _ _ _ h H locs ls hP hD hS hl)
    · exact hDD h
  case getfield i =>
    simp only [zitB, Bool.and_eq_true, Bool.or_eq_true, beq_iff_eq] at hit
    obtain ⟨rfl, hf⟩ := hit
    simp only [zstep] at h
    split at h
    · next q r =>
      have hf := hf.resolve_left (by decide)
      split at h
      · next ci fs hq =>
        split at h
        · next w hw =>
          split at h
          · next hca =>
            obtain rfl := Nat.eq_of_beq_eq_true hca
            obtain ⟨rc, hrc, hb2, hl2⟩ := zfield_of hCok hf
            intro H locs ls hP hD hS hl
            have hq2 := zws_at (dA := dA) (adr := adr) hq
            have hw2 : (fs.map (zv adr))[b]? = some (zv adr w) := by simp [hw]
            rcases hl2 with hl2 | hl2
            · exact va_get (ref := (rc.2.1 b).1) hx hb hts (zcl_ws hrc) hown hK0 hP q hq2 hrc b hb2 (hts _ hl2) (fun _ h9 => h9) hw2 hdec (hKK _ _ _ _ h H locs ls hP hD hS hl)
            · exact va_getN (ref := (rc.2.1 b).1) hx hb hts (zcl_ws hrc) hown hK0 hP q hq2 hrc b hb2 (va_Nw.use (zNst_tab (List.mem_filter.mp hl2).2) (hAm.1 _ hl2)) (fun _ h9 => h9) hw2 hdec (hKK _ _ _ _ h H locs ls hP hD hS hl)
          · exact hDD h
        · exact hDD h
      · exact hDD h
    · exact hDD h
  case putfield i =>
    simp only [zitB, Bool.and_eq_true, beq_iff_eq] at hit
    obtain ⟨⟨rfl, hf⟩, hpb⟩ := hit
    simp only [zstep] at h
    split at h
    · next w q r =>
      split at h
      · next ci fs hq =>
        split at h
        · next hca hbl =>
          obtain rfl := Nat.eq_of_beq_eq_true hca
          obtain ⟨rc, hrc, hb2, hl2⟩ := zfield_of hCok hf
          split at h
          · next x =>
            have ht : zft ci b = .int ∧ (rc.2.1 b).2.2.2 = false := by
              simp only [zputB, hrc, Bool.and_eq_true, decide_eq_true_eq, Bool.not_eq_true'] at hpb
              exact hpb
            intro H locs ls hP hD hS hl
            have hq2 := zws_at (dA := dA) (adr := adr) hq
            have hfd : parseFieldDescriptor (rc.2.1 b).2.2.1 = some .int := by rw [zcl_ft hrc b hb2, ht.1]
            have hln : b < (fs.map (zv adr)).length := by rw [List.length_map]; exact Nat.le_of_ble_eq_true hbl
            have hgo : ∀ (H1 : Heap) (locs1 : List Loc), va_P D zcl ((zws dA adr cs).set q (adr q, .inr (ci, (fs.map (zv adr)).set b (.int x)))) H1 → va_D A ((zws dA adr cs).set q (adr q, .inr (ci, (fs.map (zv adr)).set b (.int x)))) → va_S A s.heap H1 locs1 → W p l e R s m args below meth cd H1 locs1 k n Q (F0 m (pc + 3) ls (r.map (zv adr))) := by
              intro H1 locs1 hP1 hD1 hS1
              have e1 : (fs.map (zv adr)).set b (.int x) = (fs.set b (.int x)).map (zv adr) := by rw [List.map_set]; rfl
              rw [e1] at hP1 hD1
              exact hKK _ _ _ _ h H1 locs1 ls (by rw [zws_set]; exact hP1) (by rw [zws_set]; exact hD1) hS1 hl
            rcases hl2 with hl2 | hl2
            · exact va_put (ref := (rc.2.1 b).1) hx hb hts (zcl_ws hrc) (zft ci) (zcl_ft hrc) (zcl_nm hrc) hown hK0 hP hD hS q hq2 hrc b hb2 (hts _ hl2) (fun _ h9 => h9) ht.2 hfd rfl rfl hln hdec hgo
            · exact va_putN (ref := (rc.2.1 b).1) hx hb hts (zcl_ws hrc) (zft ci) (zcl_ft hrc) (zcl_nm hrc) hown hK0 hP hD hS q hq2 hrc b hb2 (va_Nw.use (zNst_tab (List.mem_filter.mp hl2).2) (hAm.1 _ hl2)) (fun _ h9 => h9) ht.2 hfd rfl rfl hln hdec hgo
          · next x =>
            have ht : zft ci b = .boolean ∧ (rc.2.1 b).2.2.2 = false := by
              simp only [zputB, hrc, Bool.and_eq_true, decide_eq_true_eq, Bool.not_eq_true'] at hpb
              exact hpb
            intro H locs ls hP hD hS hl
            have hq2 := zws_at (dA := dA) (adr := adr) hq
            have hfd : parseFieldDescriptor (rc.2.1 b).2.2.1 = some .boolean := by rw [zcl_ft hrc b hb2, ht.1]
            have hln : b < (fs.map (zv adr)).length := by rw [List.length_map]; exact Nat.le_of_ble_eq_true hbl
            have hgo : ∀ (H1 : Heap) (locs1 : List Loc), va_P D zcl ((zws dA adr cs).set q (adr q, .inr (ci, (fs.map (zv adr)).set b (.int x)))) H1 → va_D A ((zws dA adr cs).set q (adr q, .inr (ci, (fs.map (zv adr)).set b (.int x)))) → va_S A s.heap H1 locs1 → W p l e R s m args below meth cd H1 locs1 k n Q (F0 m (pc + 3) ls (r.map (zv adr))) := by
              intro H1 locs1 hP1 hD1 hS1
              have e1 : (fs.map (zv adr)).set b (.int x) = (fs.set b (.int x)).map (zv adr) := by rw [List.map_set]; rfl
              rw [e1] at hP1 hD1
              exact hKK _ _ _ _ h.2 H1 locs1 ls (by rw [zws_set]; exact hP1) (by rw [zws_set]; exact hD1) hS1 hl
            rcases hl2 with hl2 | hl2
            · exact va_put (ref := (rc.2.1 b).1) hx hb hts (zcl_ws hrc) (zft ci) (zcl_ft hrc) (zcl_nm hrc) hown hK0 hP hD hS q hq2 hrc b hb2 (hts _ hl2) (fun _ h9 => h9) ht.2 hfd (show narrow FieldType.boolean (Value.int x) = Value.int x from by rcases h.1 with h9 | h9 <;> subst h9 <;> decide) (show fits FieldType.boolean (Value.int x) = true from by rcases h.1 with h9 | h9 <;> subst h9 <;> decide) hln hdec hgo
            · exact va_putN (ref := (rc.2.1 b).1) hx hb hts (zcl_ws hrc) (zft ci) (zcl_ft hrc) (zcl_nm hrc) hown hK0 hP hD hS q hq2 hrc b hb2 (va_Nw.use (zNst_tab (List.mem_filter.mp hl2).2) (hAm.1 _ hl2)) (fun _ h9 => h9) ht.2 hfd (show narrow FieldType.boolean (Value.int x) = Value.int x from by rcases h.1 with h9 | h9 <;> subst h9 <;> decide) (show fits FieldType.boolean (Value.int x) = true from by rcases h.1 with h9 | h9 <;> subst h9 <;> decide) hln hdec hgo
          · next x =>
            have ht : zft ci b = .long ∧ (rc.2.1 b).2.2.2 = false := by
              simp only [zputB, hrc, Bool.and_eq_true, decide_eq_true_eq, Bool.not_eq_true'] at hpb
              exact hpb
            intro H locs ls hP hD hS hl
            have hq2 := zws_at (dA := dA) (adr := adr) hq
            have hfd : parseFieldDescriptor (rc.2.1 b).2.2.1 = some .long := by rw [zcl_ft hrc b hb2, ht.1]
            have hln : b < (fs.map (zv adr)).length := by rw [List.length_map]; exact Nat.le_of_ble_eq_true hbl
            have hgo : ∀ (H1 : Heap) (locs1 : List Loc), va_P D zcl ((zws dA adr cs).set q (adr q, .inr (ci, (fs.map (zv adr)).set b (.long x)))) H1 → va_D A ((zws dA adr cs).set q (adr q, .inr (ci, (fs.map (zv adr)).set b (.long x)))) → va_S A s.heap H1 locs1 → W p l e R s m args below meth cd H1 locs1 k n Q (F0 m (pc + 3) ls (r.map (zv adr))) := by
              intro H1 locs1 hP1 hD1 hS1
              have e1 : (fs.map (zv adr)).set b (.long x) = (fs.set b (.long x)).map (zv adr) := by rw [List.map_set]; rfl
              rw [e1] at hP1 hD1
              exact hKK _ _ _ _ h H1 locs1 ls (by rw [zws_set]; exact hP1) (by rw [zws_set]; exact hD1) hS1 hl
            rcases hl2 with hl2 | hl2
            · exact va_put (ref := (rc.2.1 b).1) hx hb hts (zcl_ws hrc) (zft ci) (zcl_ft hrc) (zcl_nm hrc) hown hK0 hP hD hS q hq2 hrc b hb2 (hts _ hl2) (fun _ h9 => h9) ht.2 hfd rfl rfl hln hdec hgo
            · exact va_putN (ref := (rc.2.1 b).1) hx hb hts (zcl_ws hrc) (zft ci) (zcl_ft hrc) (zcl_nm hrc) hown hK0 hP hD hS q hq2 hrc b hb2 (va_Nw.use (zNst_tab (List.mem_filter.mp hl2).2) (hAm.1 _ hl2)) (fun _ h9 => h9) ht.2 hfd rfl rfl hln hdec hgo
          · exact hDD h
        · exact hDD h
      · exact hDD h
    · exact hDD h
  case iaload =>
    have hlen : len = 1 := eq_of_beq hit
    subst hlen
    simp only [zstep] at h
    split at h
    · next i q r =>
      split at h
      · next na f hq =>
        intro H locs ls hP hD hS hl
        exact va_iald hx hb hK0 hP q 0 (zws_at (dA := dA) (adr := adr) hq) (zty_at rfl) h.1 hdec (hKK _ _ _ _ h.2 H locs ls hP hD hS hl)
      · exact hDD h
    · exact hDD h
  case laload =>
    have hlen : len = 1 := eq_of_beq hit
    subst hlen
    simp only [zstep] at h
    split at h
    · next i q r =>
      split at h
      · next na f hq =>
        intro H locs ls hP hD hS hl
        exact va_lald hx hb hK0 hP q 1 (zws_at (dA := dA) (adr := adr) hq) (zty_at rfl) h.1 hdec (hKK _ _ _ _ h.2 H locs ls hP hD hS hl)
      · exact hDD h
    · exact hDD h
  case caload =>
    have hlen : len = 1 := eq_of_beq hit
    subst hlen
    simp only [zstep] at h
    split at h
    · next i q r =>
      split at h
      · next na f hq =>
        intro H locs ls hP hD hS hl
        exact va_cald hx hb hK0 hP q 2 (zws_at (dA := dA) (adr := adr) hq) (zty_at rfl) h.1 hdec (hKK _ _ _ _ h.2 H locs ls hP hD hS hl)
      · exact hDD h
    · exact hDD h
  case baload =>
    have hlen : len = 1 := eq_of_beq hit
    subst hlen
    simp only [zstep] at h
    split at h
    · next i q r =>
      split at h
      · next na f hq =>
        intro H locs ls hP hD hS hl
        exact va_zald hx hb hK0 hP q 3 (zws_at (dA := dA) (adr := adr) hq) (zty_at rfl) h.1 hdec (hKK _ _ _ _ h.2 H locs ls hP hD hS hl)
      · exact hDD h
    · exact hDD h
  case aaload =>
    have hlen : len = 1 := eq_of_beq hit
    subst hlen
    simp only [zstep] at h
    split at h
    · next i q r =>
      split at h
      · next na f hq =>
        intro H locs ls hP hD hS hl
        refine va_aldq hx hb hK0 hP q 4 (zws_at (dA := dA) (adr := adr) hq) (zty_at rfl) h.1 hdec ?_
        have h9 := hKK _ _ _ _ h.2 H locs ls hP hD hS hl
        have e9 : zv adr (va_rf (f i.toNatClampNeg)) = va_rf ((f i.toNatClampNeg).map adr) := by cases f i.toNatClampNeg <;> rfl
        rw [List.map_cons, e9] at h9
        exact h9
      · next na f hq =>
        intro H locs ls hP hD hS hl
        refine va_aldq hx hb hK0 hP q 5 (zws_at (dA := dA) (adr := adr) hq) (zty_at rfl) h.1 hdec ?_
        have h9 := hKK _ _ _ _ h.2 H locs ls hP hD hS hl
        have e9 : zv adr (va_rf (f i.toNatClampNeg)) = va_rf ((f i.toNatClampNeg).map adr) := by cases f i.toNatClampNeg <;> rfl
        rw [List.map_cons, e9] at h9
        exact h9
      · exact hDD h
    · exact hDD h
  case iastore =>
    have hlen : len = 1 := eq_of_beq hit
    subst hlen
    simp only [zstep] at h
    split at h
    · next x i q r =>
      split at h
      · next na f hq =>
        intro H locs ls hP hD hS hl
        exact va_iast hx hb hK0 hP hD hS q 0 (zws_at (dA := dA) (adr := adr) hq) (zty_at rfl) h.1 hdec (fun H1 locs1 hP1 hD1 hS1 => hKK _ _ _ _ h.2 H1 locs1 ls (by rw [zws_set]; exact hP1) (by rw [zws_set]; exact hD1) hS1 hl)
      · exact hDD h
    · exact hDD h
  case lastore =>
    have hlen : len = 1 := eq_of_beq hit
    subst hlen
    simp only [zstep] at h
    split at h
    · next x i q r =>
      split at h
      · next na f hq =>
        intro H locs ls hP hD hS hl
        exact va_last hx hb hK0 hP hD hS q 1 (zws_at (dA := dA) (adr := adr) hq) (zty_at rfl) h.1 hdec (fun H1 locs1 hP1 hD1 hS1 => hKK _ _ _ _ h.2 H1 locs1 ls (by rw [zws_set]; exact hP1) (by rw [zws_set]; exact hD1) hS1 hl)
      · exact hDD h
    · exact hDD h
  case castore =>
    have hlen : len = 1 := eq_of_beq hit
    subst hlen
    simp only [zstep] at h
    split at h
    · next x i q r =>
      split at h
      · next na f hq =>
        intro H locs ls hP hD hS hl
        exact va_cast hx hb hK0 hP hD hS q 2 (zws_at (dA := dA) (adr := adr) hq) (zty_at rfl) h.1 hdec (fun H1 locs1 hP1 hD1 hS1 => hKK _ _ _ _ h.2 H1 locs1 ls (by rw [zws_set]; exact hP1) (by rw [zws_set]; exact hD1) hS1 hl)
      · exact hDD h
    · exact hDD h
  case bastore =>
    have hlen : len = 1 := eq_of_beq hit
    subst hlen
    simp only [zstep] at h
    split at h
    · next x i q r =>
      split at h
      · next na f hq =>
        intro H locs ls hP hD hS hl
        exact va_zast hx hb hK0 hP hD hS q 3 (zws_at (dA := dA) (adr := adr) hq) (zty_at rfl) h.1 hdec (fun H1 locs1 hP1 hD1 hS1 => hKK _ _ _ _ h.2 H1 locs1 ls (by rw [zws_set]; exact hP1) (by rw [zws_set]; exact hD1) hS1 hl)
      · exact hDD h
    · exact hDD h
  case arraylength =>
    have hlen : len = 1 := eq_of_beq hit
    subst hlen
    simp only [zstep] at h
    split at h
    · next q r =>
      split at h
      · next t x hq =>
        split at h
        · next ht =>
          intro H locs ls hP hD hS hl
          obtain ⟨ty, hty⟩ : ∃ ty, zTy[t]? = some ty := ⟨_, List.getElem?_eq_getElem (show t < zTy.length from Nat.le_of_ble_eq_true ht)⟩
          refine va_alen hx hb hK0 hP q t (zws_at (dA := dA) (adr := adr) hq) (zty_at hty) (v := Int32.ofNat x.1) ?_ hdec (hKK _ _ _ _ h H locs ls hP hD hS hl)
          obtain ⟨n9, f9⟩ := x
          unfold zA
          split <;> simp_all
        · exact hDD h
      · exact hDD h
    · exact hDD h
  case invokestatic i =>
    simp only [zitB, Bool.and_eq_true, beq_iff_eq, Bool.or_eq_true] at hit
    obtain ⟨rfl, hp⟩ := hit
    simp only [zstep] at h
    split at h
    · have hw := zprim_of hCok (hp.resolve_left (by decide))
      split at h
      · next y x r =>
        split at h
        · next hr4 =>
          intro H locs ls hP hD hS hl
          have h8 := zcat_sum (adr := adr) hr4
          exact va_mmax hx hb (hl.2.choose_spec.1.1.symm) hown (hts _ hw) (hts _ zMathM.1) (hts _ zMathM.2.2.2.2.1) (hts _ zMathM.2.2.1) hR.1 (by omega) hcl.1 hcl.2 hdec (hKK _ _ _ _ h H locs ls hP hD hS hl)
        · exact hDD h
      · exact hDD h
    · have hw := zprim_of hCok (hp.resolve_left (by decide))
      split at h
      · next y x r =>
        split at h
        · next hr4 =>
          intro H locs ls hP hD hS hl
          have h8 := zcat_sum (adr := adr) hr4
          exact va_mmin hx hb (hl.2.choose_spec.1.1.symm) hown (hts _ hw) (hts _ zMathM.2.1) (hts _ zMathM.2.2.2.2.1) (hts _ zMathM.2.2.2.1) hR.1 (by omega) hcl.1 hcl.2 hdec (hKK _ _ _ _ h H locs ls hP hD hS hl)
        · exact hDD h
      · exact hDD h
    · have hw := zprim_of hCok (hp.resolve_left (by decide))
      split at h
      · next nq dp q1 sp q0 r =>
        split at h
        · next n0 f n1 g hr4 hq0 hq1 =>
          intro H locs ls hP hD hS hl
          have h8 := zcat_sum (adr := adr) hr4
          obtain ⟨⟨c1, c2, c3, c4, c5⟩, h⟩ := h
          exact va_copyi hx hb (hl.2.choose_spec.1.1.symm) hown (hts _ hw) (hts _ zMathM.2.2.2.2.2.1) (hts _ zMathM.2.2.2.2.2.2.1) (hts _ zMathM.2.2.2.2.2.2.2) hK0 hP hD hS q0 q1 0 0 (zws_at (dA := dA) (adr := adr) hq0) (zws_at (dA := dA) (adr := adr) hq1) (zty_at rfl) (zty_at rfl) rfl c1 c2 c3 c4 c5 (fun _ _ => rfl) hR.1 (Nat.le_trans (Nat.add_le_add_right h8 _) (Nat.le_trans (by decide) hR.2)) hdec (fun H1 locs1 hP1 hD1 hS1 => hKK _ _ _ _ h H1 locs1 ls (by rw [zws_set]; exact hP1) (by rw [zws_set]; exact hD1) hS1 hl)
        · next n0 f n1 g hr4 hq0 hq1 =>
          intro H locs ls hP hD hS hl
          have h8 := zcat_sum (adr := adr) hr4
          obtain ⟨⟨c1, c2, c3, c4, c5⟩, h⟩ := h
          exact va_copyl hx hb (hl.2.choose_spec.1.1.symm) hown (hts _ hw) (hts _ zMathM.2.2.2.2.2.1) (hts _ zMathM.2.2.2.2.2.2.1) (hts _ zMathM.2.2.2.2.2.2.2) hK0 hP hD hS q0 q1 1 1 (zws_at (dA := dA) (adr := adr) hq0) (zws_at (dA := dA) (adr := adr) hq1) (zty_at rfl) (zty_at rfl) rfl c1 c2 c3 c4 c5 (fun _ _ => rfl) hR.1 (Nat.le_trans (Nat.add_le_add_right h8 _) (Nat.le_trans (by decide) hR.2)) hdec (fun H1 locs1 hP1 hD1 hS1 => hKK _ _ _ _ h H1 locs1 ls (by rw [zws_set]; exact hP1) (by rw [zws_set]; exact hD1) hS1 hl)
        · exact hDD h
      · exact hDD h
    · exact hDD h
  all_goals exact hDD h
theorem zrun_soundL {Z : zCtx} {M : zMth} (hZ : zOkL Z M) {k n : Nat} (hcl : zRoom Z k n) {cuts : List Nat} : ∀ (f : Nat) (pc : Nat) (lv : List (Option Value)) (st : List Value) (cs : List zE), zrun M.2.2.2.2.1 cuts (AW Z k n) f pc lv st cs → AW Z k n pc lv st cs
  | 0, _, _, _, _, h => h
  | f + 1, pc, lv, st, cs, h => by
    unfold zrun at h
    split at h
    · exact h
    · next it hit =>
      obtain ⟨h1, rfl⟩ := zget_mem hit
      refine zstep_soundL hZ hcl h1 (fun pc1 lv1 st1 cs1 h9 => ?_) (fun h9 => h9) h
      split at h9
      · exact h9
      · exact zrun_soundL hZ hcl f _ _ _ _ h9
/-- a run: one row -/
theorem AWL.run {Z : zCtx} {M : zMth} (hZ : zOkL Z M) {k n : Nat} (hcl : zRoom Z k n) (cuts : List Nat) (f : Nat) {pc : Nat} {lv : List (Option Value)} {st : List Value} {cs : List zE} (h : zrun M.2.2.2.2.1 cuts (AW Z k n) f pc lv st cs) : AW Z k n pc lv st cs := zrun_soundL hZ hcl f _ _ _ _ h
section ZRETL
variable {Z : zCtx} {M : zMth} {k n n1 mc ms pc : Nat} {lv : List (Option Value)} {cs : List zE} {it : zIt} {Post : Option Value → List zE → Prop}
theorem AWL.iret {x : Int32} {ty : FieldType} (hZ : zOkL Z M) (hE : zEnd Z n1 mc ms Post) (hit : zget M.2.2.2.2.1 pc = some it) (hop : it.2.1 = .ireturn) (hty : M.2.2.2.1 = some ty) (hnar : narrow ty (.int x) = .int x) (hk : k ≤ mc) (hn : n ≤ ms) (hlen : cs.length = n1) (hp : Post (some (.int x)) cs) : AW Z k n pc lv [.int x] cs := by
  obtain ⟨hi, rfl⟩ := zget_mem hit
  obtain ⟨pc, op, len, v, a, b, c, sw⟩ := it
  obtain ⟨l, p, e, R, s, m, args, below, meth, cd, D, dA, adr, A, Q⟩ := Z
  obtain ⟨y, cc, nL, ret, lst, C⟩ := M
  obtain ⟨hx, hb, hml, hr, hown, hts, hlocks, hK0, hA, hAm, hR, hM, hnm⟩ := hZ
  obtain ⟨ws0, rfl, rfl⟩ := hE
  have hdec := hM.dec hi
  have hit2 := hM.itB hi
  dsimp only at hx hb hml hr hown hts hlocks hK0 hA hAm hR hdec hit2 hop hty
  subst hop; subst hty
  have hlen1 : len = 1 := eq_of_beq hit2
  subst hlen1
  intro H locs ls hP hD hS hl
  refine W.widen hk hn ?_
  exact W.zret (v := x) hx hb hr hnar (fun t ht hW => ⟨⟨some (.int x), cs, rfl, hp, hlen, by rw [ht]; exact hP, va_K.moved hW.alike hK0, hD⟩, hS.F ht⟩) hS.2.2 hdec
end ZRETL
section ZCALLSL
variable {Z : zCtx} {M M' : zMth} {k n d d' nf nf' mc mc' ms ms' n0 pc b0 idx np : Nat} {lv : List (Option Value)} {st rest as : List Value} {cs cc : List zE} {it : zIt} {Post : Option Value → List zE → Prop} {ps : List Nat}
set_option maxHeartbeats 2000000 in
theorem AWL.callV (hZ : zOkL Z M) (hR : zCan Z d mc ms) (hN : zNew Z n0 nf) (hC : Ct M' d' nf' mc' ms' (.ref b0 :: as) cc Post) (hM' : zMok M')
    (hit : zget M.2.2.2.2.1 pc = some it) (hop : it.2.1 = .invokevirtual idx) (hlk : zLink M.2.2.2.2.2.1 idx M'.1) (hce : zVirt M'.1 np) (hnp : as.length = np)
    (ps : List Nat) (hps : ps.map (fun q => cs[q]?) = cc.map (fun e => some (zre (zrho ps cs.length nf') e))) (hnd : ps.Nodup) (hfr : nf' = 0 ∨ (cs.length = n0 + k ∧ k + nf' ≤ nf)) (hfar : ps.length + nf' ≤ 1000000)
    (hd : d' + 1 ≤ d) (hmL : M'.2.2.1 ≤ 45) (hmc : k + mc' ≤ mc) (hms : n + ms' ≤ ms)
    (hst : st = ((Value.ref b0 :: as).map (zv (zrho ps cs.length nf'))).reverse ++ rest) (hr4 : Nat.ble (zcsum rest) 8 = true)
    {ci : Nat} {fs : List Value} (hrv : cs[zrho ps cs.length nf' b0]? = some (.inr (ci, fs))) {rc : vw_C} (hrc : zcl[ci]? = some rc) (hrn : rc.1 = M'.1.cls)
    (kk : ∀ (v : Option Value) (cc1 : List zE), Post v cc1 → cc1.length = cc.length + nf' → AW Z (k + mc') (n + ms') (pc + 3) lv ((v.map (zv (zrho ps cs.length nf'))).toList ++ rest) (zjoin cs ps (cc1.map (zre (zrho ps cs.length nf'))))) :
    AW Z k n pc lv st cs := by
  obtain ⟨hi, rfl⟩ := zget_mem hit
  obtain ⟨pc, op, len, v, a, b, c, sw⟩ := it
  obtain ⟨l, p, e, R, s, m, args, below, meth, cd, D, dA, adr, A, Q⟩ := Z
  obtain ⟨y, cb, nL, ret, lst, C⟩ := M
  obtain ⟨y', cb', nL', ret', lst', C'⟩ := M'
  obtain ⟨hx, hb, hml, hr, hown, hts, hlocks, hK0, hA, hAm, hR0, hM, hnm⟩ := hZ
  obtain ⟨hRf, hRl, hRc, hRs⟩ := hR
  obtain ⟨hfresh, cs0, hcs0, hA0⟩ := hN
  have hdec := hM.dec hi
  have hit2 := hM.itB hi
  dsimp only at hx hb hml hr hown hts hlocks hK0 hA hAm hR0 hdec hit2 hop hlk hce hmL hrn
  subst hop; subst hst
  simp only [zitB, beq_iff_eq] at hit2
  subst hit2
  intro H locs ls hP hD hS hl T hT X
  have hfree := zcall_free (nf := nf') hps hA hD hS
  have hfreshC : zFresh (fun i => adr (zrho ps cs.length nf' i)) cc.length nf' H.size := by
    intro i hi9
    rcases hfr with h0 | ⟨h1, h2⟩
    · omega
    · have hlen : ps.length = cc.length := by
        have h := congrArg List.length hps
        simpa using h
      have hsz := zsize hT X hP hS hfresh h1 (by omega)
      show adr (zrho ps cs.length nf' (cc.length + i)) = H.size + i
      rw [← hlen, zrho_new hi9, h1, hsz, show n0 + k + i = n0 + (k + i) by omega, hfresh (k + i) (by omega)]
      omega
  have hMet := hC l D dA (fun i => adr (zrho ps cs.length nf' i)) H.size hfreshC
  have hcode : Cond.code y' cb' nL' ret' ∈ zTg := hM'.2.2.2.2.1
  obtain ⟨⟨hini, hdd⟩, hinst, hsel⟩ := hce
  have hroom : (zrm d' mc' ms').frames + 1 ≤ R.frames ∧ 8 + (nL' + 11) + (zrm d' mc' ms').locals ≤ R.locals := ⟨by show d' + 1 ≤ R.frames; omega, by show 8 + (nL' + 11) + 64 * d' ≤ R.locals; omega⟩
  have hrecv := va_recv hK0 hP hrc (zws_at (dA := dA) (adr := adr) hrv)
  rw [hrn] at hrecv
  have e1 : ((Value.ref b0 :: as).map (zv (fun i => adr (zrho ps cs.length nf' i)))) = Value.ref (adr (zrho ps cs.length nf' b0)) :: as.map (zv (fun i => adr (zrho ps cs.length nf' i))) := rfl
  have e2 : (((Value.ref b0 :: as).map (zv (zrho ps cs.length nf'))).reverse ++ rest).map (zv adr) = (as.map (zv (fun i => adr (zrho ps cs.length nf' i)))).reverse ++ .ref (adr (zrho ps cs.length nf' b0)) :: rest.map (zv adr) := by
    simp only [List.map_cons, List.reverse_cons, List.append_assoc, List.map_append, List.map_reverse, List.map_map, List.singleton_append]
    congr 2
    · exact List.map_congr_left (fun v _ => zv_comp adr _ v)
  have hpre : PreV s H y'.cls (adr (zrho ps cs.length nf' b0)) (va_Pc ((Value.ref b0 :: as).map (zv (fun i => adr (zrho ps cs.length nf' i)))) (zPre D dA (fun i => adr (zrho ps cs.length nf' i)) cc H.size)) (as.map (zv (fun i => adr (zrho ps cs.length nf' i)))) :=
    ⟨zPre_blind, hrecv, fun U hU hW => zcall_pre (a := Value.ref b0 :: as) hps hnd hfar hK0 hAm hP hD hS hfree hU hW⟩
  have hsz : ls.size = nL := by rw [hl.2.choose_spec.1.1, hml]
  have h8 := zcat_sum (adr := adr) hr4
  refine zcall_go (a := (Value.ref (adr (zrho ps cs.length nf' b0)) :: as.map (zv (fun i => adr (zrho ps cs.length nf' i)))).toArray) hps hnd hfree hP hD hS hl hT X ?_ kk
  rcases hlk with hlk | hlk
  · exact va_runV (As := as.map (zv (fun i => adr (zrho ps cs.length nf' i)))) (index := idx) ⟨hx, hb, hml, hown, hts⟩ hMet ⟨callB_of np hts (zTg_cons hcode) rfl rfl rfl (hts _ hini) (hts _ hlk) hdd hroom, hts _ hinst, hts _ hsel⟩ hpre rfl (by simpa using hnp) hsz e2 (lv_room h8) hdec ⟨by omega, by omega⟩
  · exact va_runVN (As := as.map (zv (fun i => adr (zrho ps cs.length nf' i)))) (index := idx) ⟨hx, hb, hml, hown, hts⟩ hMet ⟨va_cnB np hts (zTg_cons hcode) rfl rfl rfl (hAm.1 _ hlk) (hts _ hini) hdd hroom, hts _ hinst, hts _ hsel⟩ hpre rfl (by simpa using hnp) hsz e2 (lv_room h8) hdec ⟨by omega, by omega⟩
set_option maxHeartbeats 2000000 in
theorem AWL.callI (hZ : zOkL Z M) (hR : zCan Z d mc ms) (hN : zNew Z n0 nf) (hC : Ct M' d' nf' mc' ms' (.ref b0 :: as) cc Post) (hM' : zMok M') (hret : M'.2.2.2.1 = none)
    (hit : zget M.2.2.2.2.1 pc = some it) (hop : it.2.1 = .invokespecial idx) (hlk : zLink M.2.2.2.2.2.1 idx M'.1) (hce : zCtor M'.1 np) (hnp : as.length = np)
    (ps : List Nat) (hps : ps.map (fun q => cs[q]?) = cc.map (fun e => some (zre (zrho ps cs.length nf') e))) (hnd : ps.Nodup) (hfr : nf' = 0 ∨ (cs.length = n0 + k ∧ k + nf' ≤ nf)) (hfar : ps.length + nf' ≤ 1000000)
    (hd : d' + 1 ≤ d) (hmL : M'.2.2.1 ≤ 45) (hmc : k + mc' ≤ mc) (hms : n + ms' ≤ ms)
    (hst : st = ((Value.ref b0 :: as).map (zv (zrho ps cs.length nf'))).reverse ++ rest) (hr4 : Nat.ble (zcsum rest) 8 = true)
    (kk : ∀ (v : Option Value) (cc1 : List zE), Post v cc1 → cc1.length = cc.length + nf' → AW Z (k + mc') (n + ms') (pc + 3) lv ((v.map (zv (zrho ps cs.length nf'))).toList ++ rest) (zjoin cs ps (cc1.map (zre (zrho ps cs.length nf'))))) :
    AW Z k n pc lv st cs := by
  obtain ⟨hi, rfl⟩ := zget_mem hit
  obtain ⟨pc, op, len, v, a, b, c, sw⟩ := it
  obtain ⟨l, p, e, R, s, m, args, below, meth, cd, D, dA, adr, A, Q⟩ := Z
  obtain ⟨y, cb, nL, ret, lst, C⟩ := M
  obtain ⟨y', cb', nL', ret', lst', C'⟩ := M'
  obtain ⟨hx, hb, hml, hr, hown, hts, hlocks, hK0, hA, hAm, hR0, hM, hnm⟩ := hZ
  obtain ⟨hRf, hRl, hRc, hRs⟩ := hR
  obtain ⟨hfresh, cs0, hcs0, hA0⟩ := hN
  have hdec := hM.dec hi
  have hit2 := hM.itB hi
  dsimp only at hx hb hml hr hown hts hlocks hK0 hA hAm hR0 hdec hit2 hop hlk hce hmL hret
  subst hop; subst hst; subst hret
  simp only [zitB, beq_iff_eq] at hit2
  subst hit2
  intro H locs ls hP hD hS hl T hT X
  have hfree := zcall_free (nf := nf') hps hA hD hS
  have hfreshC : zFresh (fun i => adr (zrho ps cs.length nf' i)) cc.length nf' H.size := by
    intro i hi9
    rcases hfr with h0 | ⟨h1, h2⟩
    · omega
    · have hlen : ps.length = cc.length := by
        have h := congrArg List.length hps
        simpa using h
      have hsz := zsize hT X hP hS hfresh h1 (by omega)
      show adr (zrho ps cs.length nf' (cc.length + i)) = H.size + i
      rw [← hlen, zrho_new hi9, h1, hsz, show n0 + k + i = n0 + (k + i) by omega, hfresh (k + i) (by omega)]
      omega
  have hMet := hC l D dA (fun i => adr (zrho ps cs.length nf' i)) H.size hfreshC
  have hcode : Cond.code y' cb' nL' none ∈ zTg := hM'.2.2.2.2.1
  obtain ⟨⟨hini, hdd⟩, hnamei, hinst⟩ := hce
  have hroom : (zrm d' mc' ms').frames + 1 ≤ R.frames ∧ 8 + (nL' + 11) + (zrm d' mc' ms').locals ≤ R.locals := ⟨by show d' + 1 ≤ R.frames; omega, by show 8 + (nL' + 11) + 64 * d' ≤ R.locals; omega⟩
  have e2 : (((Value.ref b0 :: as).map (zv (zrho ps cs.length nf'))).reverse ++ rest).map (zv adr) = (as.map (zv (fun i => adr (zrho ps cs.length nf' i)))).reverse ++ .ref (adr (zrho ps cs.length nf' b0)) :: rest.map (zv adr) := by
    simp only [List.map_cons, List.reverse_cons, List.append_assoc, List.map_append, List.map_reverse, List.map_map, List.singleton_append]
    congr 2
    · exact List.map_congr_left (fun v _ => zv_comp adr _ v)
  have hpre : PreS s H (va_Pc ((Value.ref b0 :: as).map (zv (fun i => adr (zrho ps cs.length nf' i)))) (zPre D dA (fun i => adr (zrho ps cs.length nf' i)) cc H.size)) (.ref (adr (zrho ps cs.length nf' b0)) :: as.map (zv (fun i => adr (zrho ps cs.length nf' i)))) :=
    ⟨zPre_blind, fun U hU hW => zcall_pre (a := Value.ref b0 :: as) hps hnd hfar hK0 hAm hP hD hS hfree hU hW⟩
  have hsz : ls.size = nL := by rw [hl.2.choose_spec.1.1, hml]
  have h8 := zcat_sum (adr := adr) hr4
  refine zcall_go (a := (Value.ref (adr (zrho ps cs.length nf' b0)) :: as.map (zv (fun i => adr (zrho ps cs.length nf' i)))).toArray) hps hnd hfree hP hD hS hl hT X ?_ kk
  rcases hlk with hlk | hlk
  · exact va_runI (As := as.map (zv (fun i => adr (zrho ps cs.length nf' i)))) (index := idx) ⟨hx, hb, hml, hown, hts⟩ hMet ⟨callB_of np hts (zTg_cons hcode) rfl rfl rfl (hts _ hini) (hts _ hlk) hdd hroom, hnamei, hts _ hinst⟩ hpre rfl (by simpa using hnp) hsz e2 (lv_room h8) hdec ⟨by omega, by omega⟩
  · exact va_runIN (As := as.map (zv (fun i => adr (zrho ps cs.length nf' i)))) (index := idx) ⟨hx, hb, hml, hown, hts⟩ hMet ⟨va_cnB np hts (zTg_cons hcode) rfl rfl rfl (hAm.1 _ hlk) (hts _ hini) hdd hroom, hnamei, hts _ hinst⟩ hpre rfl (by simpa using hnp) hsz e2 (lv_room h8) hdec ⟨by omega, by omega⟩
set_option maxHeartbeats 2000000 in
theorem AWL.callIA (hZ : zOkL Z M) (hR : zCan Z d mc ms) (hN : zNew Z n0 nf) (hAO : zAO Z) (hC : CtA M' d' nf' mc' ms' (.ref b0 :: as) cc Post) (hM' : zMok M') (hret : M'.2.2.2.1 = none)
    (hit : zget M.2.2.2.2.1 pc = some it) (hop : it.2.1 = .invokespecial idx) (hlk : zLink M.2.2.2.2.2.1 idx M'.1) (hce : zCtor M'.1 np) (hnp : as.length = np)
    (ps : List Nat) (hps : ps.map (fun q => cs[q]?) = cc.map (fun e => some (zre (zrho ps cs.length nf') e))) (hnd : ps.Nodup) (hfr : nf' = 0 ∨ (cs.length = n0 + k ∧ k + nf' ≤ nf)) (hfar : ps.length + nf' ≤ 1000000)
    (hd : d' + 1 ≤ d) (hmL : M'.2.2.1 ≤ 45) (hmc : k + mc' ≤ mc) (hms : n + ms' ≤ ms)
    (hst : st = ((Value.ref b0 :: as).map (zv (zrho ps cs.length nf'))).reverse ++ rest) (hr4 : Nat.ble (zcsum rest) 8 = true)
    (kk : ∀ (v : Option Value) (cc1 : List zE), Post v cc1 → cc1.length = cc.length + nf' → AW Z (k + mc') (n + ms') (pc + 3) lv ((v.map (zv (zrho ps cs.length nf'))).toList ++ rest) (zjoin cs ps (cc1.map (zre (zrho ps cs.length nf'))))) :
    AW Z k n pc lv st cs := by
  obtain ⟨hi, rfl⟩ := zget_mem hit
  obtain ⟨pc, op, len, v, a, b, c, sw⟩ := it
  obtain ⟨l, p, e, R, s, m, args, below, meth, cd, D, dA, adr, A, Q⟩ := Z
  obtain ⟨y, cb, nL, ret, lst, C⟩ := M
  obtain ⟨y', cb', nL', ret', lst', C'⟩ := M'
  obtain ⟨hx, hb, hml, hr, hown, hts, hlocks, hK0, hA, hAm, hR0, hM, hnm⟩ := hZ
  obtain ⟨hRf, hRl, hRc, hRs⟩ := hR
  obtain ⟨hfresh, cs0, hcs0, hA0⟩ := hN
  have hdec := hM.dec hi
  have hit2 := hM.itB hi
  dsimp only at hx hb hml hr hown hts hlocks hK0 hA hAm hR0 hdec hit2 hop hlk hce hmL hret
  subst hop; subst hst; subst hret
  simp only [zitB, beq_iff_eq] at hit2
  subst hit2
  intro H locs ls hP hD hS hl T hT X
  have hfree := zcall_free (nf := nf') hps hA hD hS
  have hfreshC : zFresh (fun i => adr (zrho ps cs.length nf' i)) cc.length nf' H.size := by
    intro i hi9
    rcases hfr with h0 | ⟨h1, h2⟩
    · omega
    · have hlen : ps.length = cc.length := by
        have h := congrArg List.length hps
        simpa using h
      have hsz := zsize hT X hP hS hfresh h1 (by omega)
      show adr (zrho ps cs.length nf' (cc.length + i)) = H.size + i
      rw [← hlen, zrho_new hi9, h1, hsz, show n0 + k + i = n0 + (k + i) by omega, hfresh (k + i) (by omega)]
      omega
  have hMet := hC l D dA (fun i => adr (zrho ps cs.length nf' i)) H.size hfreshC
  have hcode : Cond.code y' cb' nL' none ∈ zTg := hM'.2.2.2.2.1
  obtain ⟨⟨hini, hdd⟩, hnamei, hinst⟩ := hce
  have hroom : (zrm d' mc' ms').frames + 1 ≤ R.frames ∧ 8 + (nL' + 11) + (zrm d' mc' ms').locals ≤ R.locals := ⟨by show d' + 1 ≤ R.frames; omega, by show 8 + (nL' + 11) + 64 * d' ≤ R.locals; omega⟩
  have e2 : (((Value.ref b0 :: as).map (zv (zrho ps cs.length nf'))).reverse ++ rest).map (zv adr) = (as.map (zv (fun i => adr (zrho ps cs.length nf' i)))).reverse ++ .ref (adr (zrho ps cs.length nf' b0)) :: rest.map (zv adr) := by
    simp only [List.map_cons, List.reverse_cons, List.append_assoc, List.map_append, List.map_reverse, List.map_map, List.singleton_append]
    congr 2
    · exact List.map_congr_left (fun v _ => zv_comp adr _ v)
  have hpre : PreS s H (va_Pc ((Value.ref b0 :: as).map (zv (fun i => adr (zrho ps cs.length nf' i)))) (zPreA D dA (fun i => adr (zrho ps cs.length nf' i)) cc H.size)) (.ref (adr (zrho ps cs.length nf' b0)) :: as.map (zv (fun i => adr (zrho ps cs.length nf' i)))) :=
    ⟨zPreA_blind, fun U hU hW => by
      obtain ⟨g1, g2⟩ := zcall_pre (a := Value.ref b0 :: as) hps hnd hfar hK0 hAm hP hD hS hfree hU hW
      exact ⟨g1, g2, va_AO.moved hW.alike hAO.1, va_AO.moved hW.alike hAO.2⟩⟩
  have hsz : ls.size = nL := by rw [hl.2.choose_spec.1.1, hml]
  have h8 := zcat_sum (adr := adr) hr4
  refine zcall_go (a := (Value.ref (adr (zrho ps cs.length nf' b0)) :: as.map (zv (fun i => adr (zrho ps cs.length nf' i)))).toArray) hps hnd hfree hP hD hS hl hT X ?_ kk
  rcases hlk with hlk | hlk
  · exact va_runI (As := as.map (zv (fun i => adr (zrho ps cs.length nf' i)))) (index := idx) ⟨hx, hb, hml, hown, hts⟩ hMet ⟨callB_of np hts (zTg_cons hcode) rfl rfl rfl (hts _ hini) (hts _ hlk) hdd hroom, hnamei, hts _ hinst⟩ hpre rfl (by simpa using hnp) hsz e2 (lv_room h8) hdec ⟨by omega, by omega⟩
  · exact va_runIN (As := as.map (zv (fun i => adr (zrho ps cs.length nf' i)))) (index := idx) ⟨hx, hb, hml, hown, hts⟩ hMet ⟨va_cnB np hts (zTg_cons hcode) rfl rfl rfl (hAm.1 _ hlk) (hts _ hini) hdd hroom, hnamei, hts _ hinst⟩ hpre rfl (by simpa using hnp) hsz e2 (lv_room h8) hdec ⟨by omega, by omega⟩
end ZCALLSL
section ZNEWL
variable {Z : zCtx} {M : zMth} {k n d nf mc ms n0 pc : Nat} {lv : List (Option Value)} {st : List Value} {cs : List zE} {it : zIt}
theorem AWL.new {idx ci N : Nat} {C : String} {T : u_T} (hZ : zOkL Z M) (hR : zCan Z d mc ms) (hN : zNew Z n0 nf) (hit : zget M.2.2.2.2.1 pc = some it) (hop : it.2.1 = .new idx) (hrc : zcl[ci]? = some (C, T, N))
    (hcl : Cond.classLink M.2.2.2.2.2.1 idx C ∈ zTg) (hin : Cond.instantiable C N ∈ zTg) (hini : Cond.initialized C ∈ zTg) (hc : cs.length = n0 + k) (hk : k + 1 ≤ nf) (hmc : k + 1 ≤ mc) (hms : n + N ≤ ms) {fs : List Value} (hfs : fs = zdefs (zFt.getD ci [])) (hfl : (zFt.getD ci []).length = N)
    (kk : AW Z (k + 1) (n + N) (pc + 3) lv (.ref cs.length :: st) (cs ++ [.inr (ci, fs)])) : AW Z k n pc lv st cs := by
  obtain ⟨hi, rfl⟩ := zget_mem hit
  obtain ⟨pc, op, len, v, a, b, c, sw⟩ := it
  obtain ⟨l, p, e, R, s, m, args, below, meth, cd, D, dA, adr, A, Q⟩ := Z
  obtain ⟨y, cb, nL, ret, lst, Cc⟩ := M
  obtain ⟨hx, hb, hml, hr, hown, hts, hlocks, hK0, hA, hAm, hR0, hM, hnm⟩ := hZ
  obtain ⟨hRf, hRl, hRc, hRs⟩ := hR
  obtain ⟨hfresh, cs0, rfl, rfl⟩ := hN
  have hdec := hM.dec hi
  have hit2 := hM.itB hi
  dsimp only at hx hb hml hr hown hts hlocks hK0 hA hAm hR0 hdec hit2 hop hcl
  subst hop
  simp only [zitB, beq_iff_eq] at hit2
  subst hit2
  intro H locs ls hP hD hS hl
  have hfs2 : ∀ j, j < N → defaultValue (zft ci j) = vp_V (fs.map (zv adr)) j := by
    intro j hj
    have h1 : (fs.map (zv adr)).getD j .null = zv adr (defaultValue ((zFt.getD ci []).getD j .int)) := by
      subst hfs
      generalize zFt.getD ci [] = L at hfl
      have hj2 : j < L.length := by rw [hfl]; exact hj
      simp [zdefs, List.getD_eq_getElem?_getD, List.getElem?_eq_getElem hj2]
    show _ = (fs.map (zv adr)).getD j .null
    rw [h1]
    show defaultValue ((zFt.getD ci []).getD j .int) = _
    cases (zFt.getD ci []).getD j .int <;> rfl
  refine va_new (fs := fs.map (zv adr)) hx hb hts (zcl_ws hrc) (zft ci) (zcl_ft hrc) hown (hts _ hcl) (hts _ hin) (hts _ hini) hK0 hP hD hS hA hrc hfs2 (Nat.le_trans hmc hRc) (Nat.le_trans hms hRs) hdec (fun q H1 hP1 hD1 hS1 => ?_)
  intro T1 hT1 X1
  have hq := znew_adr hT1 X1 hP1 hD1 hfresh hc hk
  subst hq
  have e1 : zws dA adr cs ++ [(adr cs.length, (.inr (ci, fs.map (zv adr)) : va_E))] = zws dA adr (cs ++ [.inr (ci, fs)]) := by rw [zws_app]; rfl
  rw [e1] at hP1 hD1
  exact kk H1 locs ls hP1 hD1 hS1 hl T1 hT1 X1
theorem AWL.newa {atype : ArrayType} {t N : Nat} {ty : FieldType} {x : Int32} {a0 : vp_A} {st : List Value} (hZ : zOkL Z M) (hR : zCan Z d mc ms) (hN : zNew Z n0 nf) (hit : zget M.2.2.2.2.1 pc = some it) (hop : it.2.1 = .newarray atype) (hty : newarray.typeOf atype = ty) (ht : zTy[t]? = some ty) (hob : ∀ C, ty ≠ .object C) (hcl : Cond.arrayClass ty ∈ zTg)
    (ha : ∀ (cA : ClassId) (adr : Nat → Nat), vp_cell cA (zA adr a0) = arrV cA N (fun _ => defaultValue ty)) (hn : ¬ x < 0) (hNx : x.toNatClampNeg = N) (hbytes : N * componentBytes ty ≤ 536870912) (hc : cs.length = n0 + k) (hk : k + 1 ≤ nf) (hmc : k + 1 ≤ mc) (hms : n + N ≤ ms)
    (kk : AW Z (k + 1) (n + N) (pc + 2) lv (.ref cs.length :: st) (cs ++ [.inl (t, a0)])) : AW Z k n pc lv (.int x :: st) cs := by
  obtain ⟨hi, rfl⟩ := zget_mem hit
  obtain ⟨pc, op, len, v, a, b, c, sw⟩ := it
  obtain ⟨l, p, e, R, s, m, args, below, meth, cd, D, dA, adr, A, Q⟩ := Z
  obtain ⟨y, cb, nL, ret, lst, Cc⟩ := M
  obtain ⟨hx, hb, hml, hr, hown, hts, hlocks, hK0, hA, hAm, hR0, hM, hnm⟩ := hZ
  obtain ⟨hRf, hRl, hRc, hRs⟩ := hR
  obtain ⟨hfresh, cs0, rfl, rfl⟩ := hN
  have hdec := hM.dec hi
  have hit2 := hM.itB hi
  dsimp only at hx hb hml hr hown hts hlocks hK0 hA hAm hR0 hdec hit2 hop
  subst hop; subst hty
  simp only [zitB, beq_iff_eq] at hit2
  subst hit2
  intro H locs ls hP hD hS hl
  refine va_newa (ty := newarray.typeOf atype) (a0 := zA adr a0) hx hb (hts _ hcl) rfl hK0 hP hD hS hA (fun cA => ha cA adr) hn hNx hbytes (by omega) (by omega) hdec (fun q cA H1 hK1 hP1 hD1 hS1 => ?_)
  have hcA : cA = dA t := by
    have h1 := (hK1.2 (zty dA).length (cA, newarray.typeOf atype) (by simp)).2
    have h2 := (hK0.2 t (dA t, newarray.typeOf atype) (zty_at ht)).2
    unfold va_RA at h1 h2
    split at h1
    · next C9 heq => exact absurd heq (hob C9)
    · split at h2
      · next C9 heq => exact absurd heq (hob C9)
      · exact Option.some.inj (h1.symm.trans h2)
  subst hcA
  intro T1 hT1 X1
  have hq := znew_adr hT1 X1 hP1 hD1 hfresh hc hk
  subst hq
  have e1 : zws dA adr cs ++ [(adr cs.length, (.inl (dA t, zA adr a0) : va_E))] = zws dA adr (cs ++ [.inl (t, a0)]) := by rw [zws_app]; rfl
  rw [e1] at hP1 hD1
  exact kk H1 locs ls hP1 hD1 hS1 hl T1 hT1 X1
end ZNEWL
