/-! ===== one instruction of the small machine is one of the machine ===== -/
theorem zlv_iinc {ls : Array Slot} {nL : Nat} {adr : Nat → Nat} {lv : List (Option Value)} {i : Nat} {x : Int32} (h : zLv ls nL adr lv) (hi : lv[i]? = some (some (.int x))) : ∃ (l : List (Nat × Value)) (k : Nat), lv_has ls nL l ∧ l[k]? = some (i, .int x) ∧ ∀ (j : Nat) (w : Value), lv[j]? = some (some w) → (j, zv adr w) ∈ l := by
  obtain ⟨-, l, h1, h2⟩ := h
  obtain ⟨k, hk⟩ := List.getElem?_of_mem (h2 i _ hi)
  exact ⟨l, k, h1, hk, h2⟩
theorem zty_at {dA : Nat → ClassId} {t : Nat} {ty : FieldType} (h : zTy[t]? = some ty) : (zty dA)[t]? = some (dA t, ty) := by
  simp [zty, h]
theorem zvI_eq {v : Value} {w : Int32} (h : zvI v w = true) : v = .int w := by
  cases v <;> simp [zvI] at h
  rw [h]
theorem zvL_eq {v : Value} {w : Int64} (h : zvL v w = true) : v = .long w := by
  cases v <;> simp [zvL] at h
  rw [h]
theorem zfield_of {C : zCls} {i a b : Nat} (hC : zCok C = true) (h : zfieldB C i a b = true) : ∃ r : vw_C, zcl[a]? = some r ∧ b < r.2.2 ∧ (Cond.fieldLink C.1 i (r.2.1 b).1 (r.2.1 b).2.1 (r.2.1 b).2.2.1 ∈ zTg ∨ Cond.fieldLinkNest C.1 i (r.2.1 b).1 (r.2.1 b).2.1 (r.2.1 b).2.2.1 "BorrowedLives" ∈ zNw) := by
  obtain ⟨q, hq, h1⟩ := List.any_eq_true.mp h
  simp only [Bool.and_eq_true, beq_iff_eq] at h1
  obtain ⟨⟨rfl, rfl⟩, rfl⟩ := h1
  simp only [zCok, Bool.and_eq_true] at hC
  have h2 := List.all_eq_true.mp hC.1.1 q hq
  unfold zflB at h2
  split at h2
  · next r hr =>
    simp only [Bool.and_eq_true, Bool.or_eq_true, decide_eq_true_eq] at h2
    exact ⟨r, hr, h2.1, h2.2.elim (fun h => Or.inl (zIn_mem h)) (fun h => Or.inr (zInN_mem h))⟩
  · cases h2
theorem zprim_of {C : zCls} {i a : Nat} (hC : zCok C = true) (h : C.2.2.2.any (fun q => q.1 == i && q.2.1 == a) = true) : Cond.methodLink C.1 i (zPrim a) ∈ zTg := by
  obtain ⟨q, hq, h1⟩ := List.any_eq_true.mp h
  simp only [Bool.and_eq_true, beq_iff_eq] at h1
  obtain ⟨rfl, rfl⟩ := h1
  simp only [zCok, Bool.and_eq_true] at hC
  have h2 := List.all_eq_true.mp hC.2 q hq
  simp only [zplB, Bool.and_eq_true] at h2
  exact zIn_mem h2.2
theorem zcst_of {C : zCls} {i : Nat} {v : Value} (hC : zCok C = true) (h : C.2.2.1.any (fun q => q.1 == i && (match q.2.1 with | .int x => zvI v x | _ => false)) = true) : ∃ x : Int32, v = .int x ∧ Cond.constant C.1 i x ∈ zTg := by
  obtain ⟨q, hq, h1⟩ := List.any_eq_true.mp h
  obtain ⟨j, w, pl⟩ := q
  simp only [Bool.and_eq_true, beq_iff_eq] at h1
  obtain ⟨rfl, h3⟩ := h1
  simp only [zCok, Bool.and_eq_true] at hC
  have h2 := List.all_eq_true.mp hC.1.2 _ hq
  cases w <;> simp only [zklB, Bool.false_eq_true] at h2 h3
  exact ⟨_, zvI_eq h3, zIn_mem h2⟩
theorem zcstL_of {C : zCls} {i : Nat} {v : Value} (hC : zCok C = true) (h : C.2.2.1.any (fun q => q.1 == i && (match q.2.1 with | .long x => zvL v x | _ => false)) = true) : ∃ x : Int64, v = .long x ∧ Cond.constantLong C.1 i x ∈ zTg := by
  obtain ⟨q, hq, h1⟩ := List.any_eq_true.mp h
  obtain ⟨j, w, pl⟩ := q
  simp only [Bool.and_eq_true, beq_iff_eq] at h1
  obtain ⟨rfl, h3⟩ := h1
  simp only [zCok, Bool.and_eq_true] at hC
  have h2 := List.all_eq_true.mp hC.1.2 _ hq
  cases w <;> simp only [zklB, Bool.false_eq_true] at h2 h3
  exact ⟨_, zvL_eq h3, zIn_mem h2⟩
def zMathW : Bool := zIn 693 (.static Lib.Math.max.name) && zIn 696 (.static Lib.Math.min.name) && zIn 694 (.code Lib.Math.max.name Lib.Math.max.code 2 (some .int)) && zIn 697 (.code Lib.Math.min.name Lib.Math.min.code 2 (some .int)) && zIn 125 (.initialized "java/lang/Math") && zIn 858 (.native arraycopyName) && zIn 857 (.static arraycopyName) && zIn 127 (.initialized "java/lang/System")
theorem zMathW_ok : zMathW = true := by decide +kernel
theorem zMathM : Cond.static Lib.Math.max.name ∈ zTg ∧ Cond.static Lib.Math.min.name ∈ zTg ∧ Cond.code Lib.Math.max.name Lib.Math.max.code 2 (some .int) ∈ zTg ∧ Cond.code Lib.Math.min.name Lib.Math.min.code 2 (some .int) ∈ zTg ∧ Cond.initialized "java/lang/Math" ∈ zTg ∧ Cond.native arraycopyName ∈ zTg ∧ Cond.static arraycopyName ∈ zTg ∧ Cond.initialized "java/lang/System" ∈ zTg := by
  have h := zMathW_ok
  simp only [zMathW, Bool.and_eq_true] at h
  obtain ⟨⟨⟨⟨⟨⟨⟨h1, h2⟩, h3⟩, h4⟩, h5⟩, h6⟩, h7⟩, h8⟩ := h
  exact ⟨zIn_mem h1, zIn_mem h2, zIn_mem h3, zIn_mem h4, zIn_mem h5, zIn_mem h6, zIn_mem h7, zIn_mem h8⟩
theorem zcat_eq (adr : Nat → Nat) : ∀ (r : List Value), ((r.map (zv adr)).map fun v => v.category).sum = zcsum r
  | [] => rfl
  | v :: r => by
    have h2 := zcat_eq adr r
    simp only [List.map_cons, List.sum_cons, zcsum, zv_cat, h2]
theorem zcat_sum {adr : Nat → Nat} {r : List Value} (h : Nat.ble (zcsum r) 8 = true) : ((r.map (zv adr)).map fun v => v.category).sum ≤ 8 := by
  rw [zcat_eq]
  exact Nat.le_of_ble_eq_true h
theorem ztab_in {pc : Nat} {dflt lo hi : Int} {offs : Array Int} {a : Nat} {sw : List (Int32 × Nat)} (h : ztabB pc dflt lo hi offs a sw = true) {x : Int32} (h1 : ¬ x.toInt < lo) (h2 : ¬ hi < x.toInt) : ∃ off, offs[(x.toInt - lo).toNat]? = some off ∧ (pc : Int) + off = (zswT x a sw : Int) := by
  simp only [ztabB, Bool.and_eq_true] at h
  obtain ⟨⟨⟨⟨⟨ha, hb⟩, hc⟩, hd⟩, he⟩, hf⟩ := h
  have hj : (x.toInt - lo).toNat < (hi - lo + 1).toNat := by omega
  have h3 := List.all_eq_true.mp hd _ (List.mem_range.mpr hj)
  split at h3
  · next o ho =>
    refine ⟨o, ho, ?_⟩
    have h4 := of_decide_eq_true h3
    have h5 : lo + ((x.toInt - lo).toNat : Int) = x.toInt := by omega
    rw [h5, Int32.ofInt_toInt] at h4
    exact h4
  · cases h3
theorem zswT_no {x : Int32} {a : Nat} : ∀ {sw : List (Int32 × Nat)}, (∀ q ∈ sw, x ≠ q.1) → zswT x a sw = a
  | [], _ => rfl
  | q :: r, h => by
    rw [zswT, if_neg (h q List.mem_cons_self)]
    exact zswT_no (fun p hp => h p (List.mem_cons_of_mem _ hp))
theorem ztab_out {pc : Nat} {dflt lo hi : Int} {offs : Array Int} {a : Nat} {sw : List (Int32 × Nat)} (h : ztabB pc dflt lo hi offs a sw = true) {x : Int32} (h1 : x.toInt < lo ∨ hi < x.toInt) : (pc : Int) + dflt = (zswT x a sw : Int) := by
  simp only [ztabB, Bool.and_eq_true] at h
  obtain ⟨⟨⟨⟨⟨ha, hb⟩, hc⟩, hd⟩, he⟩, hf⟩ := h
  rw [zswT_no (fun q hq hxq => ?_)]
  · exact of_decide_eq_true ha
  · have h2 := List.all_eq_true.mp hc q hq
    simp only [Bool.and_eq_true, decide_eq_true_eq] at h2
    subst hxq
    omega
theorem zlook_of {pc : Nat} {dflt : Int} {a : Nat} {x : Int32} : ∀ {ps : List (Int × Int)} {sw : List (Int32 × Nat)}, zlookB pc dflt a ps sw = true → (pc : Int) + Op.lookupswitch.offset ps dflt x.toInt = (zswT x a sw : Int)
  | [], [], h => of_decide_eq_true h
  | [], _ :: _, h => by cases h
  | _ :: _, [], h => by cases h
  | p :: ps, q :: qs, h => by
    simp only [zlookB, Bool.and_eq_true, decide_eq_true_eq] at h
    obtain ⟨⟨h1, h2⟩, h3⟩ := h
    obtain ⟨k, o⟩ := p
    dsimp only at h1 h2
    rw [Op.lookupswitch.offset_cons, zswT]
    by_cases hx : x = q.1
    · rw [if_pos hx, if_pos (by rw [h1, hx])]
      exact of_decide_eq_true h2
    · rw [if_neg hx, if_neg (fun h9 => hx (Int32.toInt_inj.mp (by rw [← h9, h1])))]
      exact zlook_of h3
set_option maxHeartbeats 8000000 in
set_option maxRecDepth 100000 in
theorem zstep_sound {Z : zCtx} {M : zMth} (hZ : zOk Z M) {k n : Nat} (hcl : zRoom Z k n) {it : zIt} (hi : it ∈ M.2.2.2.2.1) {lv : List (Option Value)} {st : List Value} {cs : List zE} {K : zK} {DD : Prop} (hKK : ∀ pc1 lv1 st1 cs1, K pc1 lv1 st1 cs1 → AW Z k n pc1 lv1 st1 cs1) (hDD : DD → AW Z k n it.1 lv st cs) (h : zstep it it.1 lv st cs K DD) : AW Z k n it.1 lv st cs := by
  obtain ⟨pc, op, len, v, a, b, c, sw⟩ := it
  obtain ⟨l, p, e, R, s, m, args, below, meth, cd, D, dA, adr, A, Q⟩ := Z
  obtain ⟨y, cc, nL, ret, lst, C⟩ := M
  obtain ⟨hx, hb, hml, hr, hown, hts, hlocks, hK0, hA, hAm, hR, hM, hnm⟩ := hZ
  have hcl : k ≤ R.cells ∧ n ≤ R.slots := hcl
  have hdec := hM.dec hi
  have hit := hM.itB hi
  have hCok : zCok C = true := hM.2.2.1
  dsimp only at hx hb hml hr hown hts hlocks hK0 hA hAm hR hdec hit hDD h hKK hi ⊢
  cases op
  case iconst i =>
    simp only [zitB, Bool.and_eq_true, beq_iff_eq] at hit
    obtain ⟨rfl, hv⟩ := hit
    obtain rfl := zvI_eq hv
    simp only [zstep] at h
    intro H locs ls hP hD hS hl
    exact lv_iconst hx hb hdec rfl (hKK _ _ _ _ h H locs ls hP hD hS hl)
  case bipush i =>
    simp only [zitB, Bool.and_eq_true, beq_iff_eq] at hit
    obtain ⟨rfl, hv⟩ := hit
    obtain rfl := zvI_eq hv
    simp only [zstep] at h
    intro H locs ls hP hD hS hl
    exact lv_bipush hx hb hdec rfl (hKK _ _ _ _ h H locs ls hP hD hS hl)
  case sipush i =>
    simp only [zitB, Bool.and_eq_true, beq_iff_eq] at hit
    obtain ⟨rfl, hv⟩ := hit
    obtain rfl := zvI_eq hv
    simp only [zstep] at h
    intro H locs ls hP hD hS hl
    exact lv_sipush hx hb hdec rfl (hKK _ _ _ _ h H locs ls hP hD hS hl)
  case lconst i =>
    simp only [zitB, Bool.and_eq_true, beq_iff_eq] at hit
    obtain ⟨rfl, hv⟩ := hit
    obtain rfl := zvL_eq hv
    simp only [zstep] at h
    intro H locs ls hP hD hS hl
    exact lv_lconst hx hb hdec rfl (hKK _ _ _ _ h H locs ls hP hD hS hl)
  case ldc i =>
    simp only [zitB, Bool.and_eq_true, Bool.or_eq_true, beq_iff_eq] at hit
    obtain ⟨rfl, hv⟩ := hit
    simp only [zstep] at h
    split at h
    · obtain ⟨x, rfl, hw⟩ := zcst_of hCok (hv.resolve_left (by decide))
      intro H locs ls hP hD hS hl
      exact lv_ldc hx hb hown (hts _ hw) hdec (hKK _ _ _ _ h H locs ls hP hD hS hl)
    · exact hDD h
  case ldc_w i =>
    simp only [zitB, Bool.and_eq_true, Bool.or_eq_true, beq_iff_eq] at hit
    obtain ⟨rfl, hv⟩ := hit
    simp only [zstep] at h
    split at h
    · obtain ⟨x, rfl, hw⟩ := zcst_of hCok (hv.resolve_left (by decide))
      intro H locs ls hP hD hS hl
      exact lv_ldcw hx hb hown (hts _ hw) hdec (hKK _ _ _ _ h H locs ls hP hD hS hl)
    · exact hDD h
  case ldc2_w i =>
    simp only [zitB, Bool.and_eq_true, beq_iff_eq] at hit
    obtain ⟨rfl, hv⟩ := hit
    simp only [zstep] at h
    obtain ⟨x, rfl, hw⟩ := zcstL_of hCok hv
    intro H locs ls hP hD hS hl
    exact lv_ldc2 hx hb hown (hts _ hw) hdec (hKK _ _ _ _ h H locs ls hP hD hS hl)
  case iload i =>
    have hlen : len = 2 := eq_of_beq hit
    subst hlen
    simp only [zstep] at h
    split at h
    · next x hx1 =>
      intro H locs ls hP hD hS hl
      exact lv_iload hx hb hdec (hl.at hx1) (hKK _ _ _ _ h H locs ls hP hD hS hl)
    · exact hDD h
  case iload_n i =>
    have hlen : len = 1 := eq_of_beq hit
    subst hlen
    simp only [zstep] at h
    split at h
    · next x hx1 =>
      intro H locs ls hP hD hS hl
      exact lv_iload_n hx hb hdec rfl (hl.at hx1) (hKK _ _ _ _ h H locs ls hP hD hS hl)
    · exact hDD h
  case istore i =>
    have hlen : len = 2 := eq_of_beq hit
    subst hlen
    simp only [zstep] at h
    split at h
    · next x r w hw =>
      intro H locs ls hP hD hS hl
      have hln : i < cd.maxLocals := by
        have h1 := (List.getElem?_eq_some_iff.mp hw).1
        have h2 := hl.1
        omega
      obtain ⟨hl1, lq, hl2, hl3⟩ := hl
      exact lv_istore hx hb hdec hl2 hln rfl (fun ls1 hls1 => hKK _ _ _ _ h H locs ls1 hP hD hS (zLv.st1 (v := .int x) hl1 hl3 hls1))
    · exact hDD h
  case istore_n i =>
    have hlen : len = 1 := eq_of_beq hit
    subst hlen
    simp only [zstep] at h
    split at h
    · next x r w hw =>
      intro H locs ls hP hD hS hl
      have hln : i.val < cd.maxLocals := by
        have h1 := (List.getElem?_eq_some_iff.mp hw).1
        have h2 := hl.1
        omega
      obtain ⟨hl1, lq, hl2, hl3⟩ := hl
      exact lv_istore_n hx hb hdec rfl hl2 hln rfl (fun ls1 hls1 => hKK _ _ _ _ h H locs ls1 hP hD hS (zLv.st1 (v := .int x) hl1 hl3 hls1))
    · exact hDD h
  case lload i =>
    have hlen : len = 2 := eq_of_beq hit
    subst hlen
    simp only [zstep] at h
    split at h
    · next x hx1 =>
      intro H locs ls hP hD hS hl
      exact lv_lload hx hb hdec (hl.at hx1) (hKK _ _ _ _ h H locs ls hP hD hS hl)
    · exact hDD h
  case lload_n i =>
    have hlen : len = 1 := eq_of_beq hit
    subst hlen
    simp only [zstep] at h
    split at h
    · next x hx1 =>
      intro H locs ls hP hD hS hl
      exact lv_lload_n hx hb hdec rfl (hl.at hx1) (hKK _ _ _ _ h H locs ls hP hD hS hl)
    · exact hDD h
  case lstore i =>
    have hlen : len = 2 := eq_of_beq hit
    subst hlen
    simp only [zstep] at h
    split at h
    · next x r w hw =>
      intro H locs ls hP hD hS hl
      have hln : i + 1 < cd.maxLocals := by
        have h1 := (List.getElem?_eq_some_iff.mp hw).1
        have h2 := hl.1
        omega
      obtain ⟨hl1, lq, hl2, hl3⟩ := hl
      exact lv_lstore hx hb hdec hl2 hln rfl (fun ls1 hls1 => hKK _ _ _ _ h H locs ls1 hP hD hS (zLv.st2 (v := .long x) hl1 hl3 hls1))
    · exact hDD h
  case lstore_n i =>
    have hlen : len = 1 := eq_of_beq hit
    subst hlen
    simp only [zstep] at h
    split at h
    · next x r w hw =>
      intro H locs ls hP hD hS hl
      have hln : i.val + 1 < cd.maxLocals := by
        have h1 := (List.getElem?_eq_some_iff.mp hw).1
        have h2 := hl.1
        omega
      obtain ⟨hl1, lq, hl2, hl3⟩ := hl
      exact lv_lstore_n hx hb hdec rfl hl2 hln rfl (fun ls1 hls1 => hKK _ _ _ _ h H locs ls1 hP hD hS (zLv.st2 (v := .long x) hl1 hl3 hls1))
    · exact hDD h
  case aload i =>
    have hlen : len = 2 := eq_of_beq hit
    subst hlen
    simp only [zstep] at h
    split at h
    · next x hx1 =>
      intro H locs ls hP hD hS hl
      exact lv_aload hx hb hdec (hl.at hx1) (hKK _ _ _ _ h H locs ls hP hD hS hl)
    · exact hDD h
  case aload_n i =>
    have hlen : len = 1 := eq_of_beq hit
    subst hlen
    simp only [zstep] at h
    split at h
    · next x hx1 =>
      intro H locs ls hP hD hS hl
      exact lv_aload_n hx hb hdec rfl (hl.at hx1) (hKK _ _ _ _ h H locs ls hP hD hS hl)
    · exact hDD h
  case astore i =>
    have hlen : len = 2 := eq_of_beq hit
    subst hlen
    simp only [zstep] at h
    split at h
    · next x r w hw =>
      intro H locs ls hP hD hS hl
      have hln : i < cd.maxLocals := by
        have h1 := (List.getElem?_eq_some_iff.mp hw).1
        have h2 := hl.1
        omega
      obtain ⟨hl1, lq, hl2, hl3⟩ := hl
      exact lv_astore hx hb hdec hl2 hln rfl (fun ls1 hls1 => hKK _ _ _ _ h H locs ls1 hP hD hS (zLv.st1 (v := .ref x) hl1 hl3 hls1))
    · exact hDD h
  case astore_n i =>
    have hlen : len = 1 := eq_of_beq hit
    subst hlen
    simp only [zstep] at h
    split at h
    · next x r w hw =>
      intro H locs ls hP hD hS hl
      have hln : i.val < cd.maxLocals := by
        have h1 := (List.getElem?_eq_some_iff.mp hw).1
        have h2 := hl.1
        omega
      obtain ⟨hl1, lq, hl2, hl3⟩ := hl
      exact lv_astore_n hx hb hdec rfl hl2 hln rfl (fun ls1 hls1 => hKK _ _ _ _ h H locs ls1 hP hD hS (zLv.st1 (v := .ref x) hl1 hl3 hls1))
    · exact hDD h
  case iinc i j =>
    simp only [zitB, Bool.and_eq_true, beq_iff_eq] at hit
    obtain ⟨rfl, hv⟩ := hit
    obtain rfl := zvI_eq hv
    simp only [zstep] at h
    split at h
    · next x w hx1 hw =>
      cases hw
      intro H locs ls hP hD hS hl
      have hln : i < cd.maxLocals := by
        have h1 := (List.getElem?_eq_some_iff.mp hx1).1
        have h2 := hl.1
        omega
      have hl1 := hl.1
      obtain ⟨lq, kq, hl2, hl4, hl3⟩ := zlv_iinc hl hx1
      exact lv_iinc hx hb hdec hl2 hl4 rfl hln rfl (fun ls1 hls1 => hKK _ _ _ _ h H locs ls1 hP hD hS (zLv.st1 (v := .int _) hl1 hl3 hls1))
    · exact hDD h
  case iadd =>
    have hlen : len = 1 := by exact eq_of_beq hit
    subst hlen
    simp only [zstep] at h
    split at h
    · intro H locs ls hP hD hS hl
      exact lv_iadd hx hb hdec (hKK _ _ _ _ h H locs ls hP hD hS hl)
    · exact hDD h
  case isub =>
    have hlen : len = 1 := by exact eq_of_beq hit
    subst hlen
    simp only [zstep] at h
    split at h
    · intro H locs ls hP hD hS hl
      exact lv_isub hx hb hdec (hKK _ _ _ _ h H locs ls hP hD hS hl)
    · exact hDD h
  case imul =>
    have hlen : len = 1 := by exact eq_of_beq hit
    subst hlen
    simp only [zstep] at h
    split at h
    · intro H locs ls hP hD hS hl
      exact lv_imul hx hb hdec (hKK _ _ _ _ h H locs ls hP hD hS hl)
    · exact hDD h
  case iand =>
    have hlen : len = 1 := by exact eq_of_beq hit
    subst hlen
    simp only [zstep] at h
    split at h
    · intro H locs ls hP hD hS hl
      exact lv_iand hx hb hdec (hKK _ _ _ _ h H locs ls hP hD hS hl)
    · exact hDD h
  case ior =>
    have hlen : len = 1 := by exact eq_of_beq hit
    subst hlen
    simp only [zstep] at h
    split at h
    · intro H locs ls hP hD hS hl
      exact lv_ior hx hb hdec (hKK _ _ _ _ h H locs ls hP hD hS hl)
    · exact hDD h
  case ishl =>
    have hlen : len = 1 := by exact eq_of_beq hit
    subst hlen
    simp only [zstep] at h
    split at h
    · intro H locs ls hP hD hS hl
      exact lv_ishl hx hb hdec (hKK _ _ _ _ h H locs ls hP hD hS hl)
    · exact hDD h
  case ishr =>
    have hlen : len = 1 := by exact eq_of_beq hit
    subst hlen
    simp only [zstep] at h
    split at h
    · intro H locs ls hP hD hS hl
      exact lv_ishr hx hb hdec (hKK _ _ _ _ h H locs ls hP hD hS hl)
    · exact hDD h
  case ineg =>
    have hlen : len = 1 := by exact eq_of_beq hit
    subst hlen
    simp only [zstep] at h
    split at h
    · intro H locs ls hP hD hS hl
      exact lv_ineg hx hb hdec (hKK _ _ _ _ h H locs ls hP hD hS hl)
    · exact hDD h
  case ladd =>
    have hlen : len = 1 := by exact eq_of_beq hit
    subst hlen
    simp only [zstep] at h
    split at h
    · intro H locs ls hP hD hS hl
      exact lv_ladd hx hb hdec (hKK _ _ _ _ h H locs ls hP hD hS hl)
    · exact hDD h
  case lsub =>
    have hlen : len = 1 := by exact eq_of_beq hit
    subst hlen
    simp only [zstep] at h
    split at h
    · intro H locs ls hP hD hS hl
      exact lv_lsub hx hb hdec (hKK _ _ _ _ h H locs ls hP hD hS hl)
    · exact hDD h
  case lmul =>
    have hlen : len = 1 := by exact eq_of_beq hit
    subst hlen
    simp only [zstep] at h
    split at h
    · intro H locs ls hP hD hS hl
      exact lv_lmul hx hb hdec (hKK _ _ _ _ h H locs ls hP hD hS hl)
    · exact hDD h
  case land =>
    have hlen : len = 1 := by exact eq_of_beq hit
    subst hlen
    simp only [zstep] at h
    split at h
    · intro H locs ls hP hD hS hl
      exact lv_land hx hb hdec (hKK _ _ _ _ h H locs ls hP hD hS hl)
    · exact hDD h
  case lor =>
    have hlen : len = 1 := by exact eq_of_beq hit
    subst hlen
    simp only [zstep] at h
    split at h
    · intro H locs ls hP hD hS hl
      exact lv_lor hx hb hdec (hKK _ _ _ _ h H locs ls hP hD hS hl)
    · exact hDD h
  case lshl =>
    have hlen : len = 1 := by exact eq_of_beq hit
    subst hlen
    simp only [zstep] at h
    split at h
    · intro H locs ls hP hD hS hl
      exact lv_lshl hx hb hdec rfl (hKK _ _ _ _ h H locs ls hP hD hS hl)
    · exact hDD h
  case lshr =>
    have hlen : len = 1 := by exact eq_of_beq hit
    subst hlen
    simp only [zstep] at h
    split at h
    · intro H locs ls hP hD hS hl
      exact lv_lshr hx hb hdec rfl (hKK _ _ _ _ h H locs ls hP hD hS hl)
    · exact hDD h
  case lushr =>
    have hlen : len = 1 := by exact eq_of_beq hit
    subst hlen
    simp only [zstep] at h
    split at h
    · intro H locs ls hP hD hS hl
      exact lv_lushr hx hb hdec rfl (hKK _ _ _ _ h H locs ls hP hD hS hl)
    · exact hDD h
  case i2l =>
    have hlen : len = 1 := by exact eq_of_beq hit
    subst hlen
    simp only [zstep] at h
    split at h
    · intro H locs ls hP hD hS hl
      exact lv_i2l hx hb hdec rfl (hKK _ _ _ _ h H locs ls hP hD hS hl)
    · exact hDD h
  case l2i =>
    have hlen : len = 1 := by exact eq_of_beq hit
    subst hlen
    simp only [zstep] at h
    split at h
    · intro H locs ls hP hD hS hl
      exact lv_l2i hx hb hdec rfl (hKK _ _ _ _ h H locs ls hP hD hS hl)
    · exact hDD h
  case i2c =>
    have hlen : len = 1 := by exact eq_of_beq hit
    subst hlen
    simp only [zstep] at h
    split at h
    · intro H locs ls hP hD hS hl
      exact lv_i2c hx hb hdec rfl (hKK _ _ _ _ h H locs ls hP hD hS hl)
    · exact hDD h
  case i2b =>
    have hlen : len = 1 := by exact eq_of_beq hit
    subst hlen
    simp only [zstep] at h
    split at h
    · intro H locs ls hP hD hS hl
      exact lv_i2b hx hb hdec rfl (hKK _ _ _ _ h H locs ls hP hD hS hl)
    · exact hDD h
  case lcmp =>
    have hlen : len = 1 := by exact eq_of_beq hit
    subst hlen
    simp only [zstep] at h
    split at h
    · intro H locs ls hP hD hS hl
      exact W.lcmp hx hb hdec (hKK _ _ _ _ h H locs ls hP hD hS hl)
    · exact hDD h
  case idiv =>
    have hlen : len = 1 := by exact eq_of_beq hit
    subst hlen
    simp only [zstep] at h
    split at h
    · intro H locs ls hP hD hS hl
      exact lv_idiv hx hb hdec h.1 (hKK _ _ _ _ h.2 H locs ls hP hD hS hl)
    · exact hDD h
  case irem =>
    have hlen : len = 1 := by exact eq_of_beq hit
    subst hlen
    simp only [zstep] at h
    split at h
    · intro H locs ls hP hD hS hl
      exact lv_irem hx hb hdec h.1 (hKK _ _ _ _ h.2 H locs ls hP hD hS hl)
    · exact hDD h
  case ldiv =>
    have hlen : len = 1 := by exact eq_of_beq hit
    subst hlen
    simp only [zstep] at h
    split at h
    · intro H locs ls hP hD hS hl
      exact lv_ldiv hx hb hdec h.1 (hKK _ _ _ _ h.2 H locs ls hP hD hS hl)
    · exact hDD h
  case lrem =>
    have hlen : len = 1 := by exact eq_of_beq hit
    subst hlen
    simp only [zstep] at h
    split at h
    · intro H locs ls hP hD hS hl
      exact lv_lrem hx hb hdec h.1 (hKK _ _ _ _ h.2 H locs ls hP hD hS hl)
    · exact hDD h
  case dup =>
    have hlen : len = 1 := eq_of_beq hit
    subst hlen
    simp only [zstep] at h
    split at h
    · intro H locs ls hP hD hS hl
      exact lv_dup hx hb hdec rfl (hKK _ _ _ _ h H locs ls hP hD hS hl)
    · intro H locs ls hP hD hS hl
      exact lv_dup hx hb hdec rfl (hKK _ _ _ _ h H locs ls hP hD hS hl)
    · exact hDD h
  case dup2 =>
    have hlen : len = 1 := eq_of_beq hit
    subst hlen
    simp only [zstep] at h
    split at h
    · intro H locs ls hP hD hS hl
      exact lv_dup2_11 hx hb hdec rfl rfl (hKK _ _ _ _ h H locs ls hP hD hS hl)
    · intro H locs ls hP hD hS hl
      exact lv_dup2_11 hx hb hdec rfl rfl (hKK _ _ _ _ h H locs ls hP hD hS hl)
    · intro H locs ls hP hD hS hl
      exact lv_dup2_2 hx hb hdec rfl (hKK _ _ _ _ h H locs ls hP hD hS hl)
    · exact hDD h
  case pop =>
    have hlen : len = 1 := eq_of_beq hit
    subst hlen
    simp only [zstep] at h
    split at h
    · intro H locs ls hP hD hS hl
      exact lv_pop hx hb hdec rfl (hKK _ _ _ _ h H locs ls hP hD hS hl)
    · intro H locs ls hP hD hS hl
      exact lv_pop hx hb hdec rfl (hKK _ _ _ _ h H locs ls hP hD hS hl)
    · exact hDD h
  case goto off =>
    simp only [zitB, Bool.and_eq_true, beq_iff_eq] at hit
    obtain ⟨rfl, hv⟩ := hit
    simp only [zstep] at h
    intro H locs ls hP hD hS hl
    exact lv_goto hx hb hdec (of_decide_eq_true hv) (hKK _ _ _ _ h H locs ls hP hD hS hl)
  case if_icmp q off =>
    simp only [zitB, Bool.and_eq_true, beq_iff_eq] at hit
    obtain ⟨rfl, hv⟩ := hit
    have hv := of_decide_eq_true hv
    simp only [zstep] at h
    split at h
    · cases q <;> simp only at h <;> intro H locs ls hP hD hS hl
      case eq => exact lv_icmp_eq hx hb hdec hv (fun h9 => hKK _ _ _ _ (h.1 h9) H locs ls hP hD hS hl) (fun h9 => hKK _ _ _ _ (h.2 h9) H locs ls hP hD hS hl)
      case ne => exact lv_icmp_ne hx hb hdec hv (fun h9 => hKK _ _ _ _ (h.1 h9) H locs ls hP hD hS hl) (fun h9 => hKK _ _ _ _ (h.2 h9) H locs ls hP hD hS hl)
      case lt => exact lv_icmp_lt hx hb hdec hv (fun h9 => hKK _ _ _ _ (h.1 h9) H locs ls hP hD hS hl) (fun h9 => hKK _ _ _ _ (h.2 h9) H locs ls hP hD hS hl)
      case ge => exact lv_icmp_ge hx hb hdec hv (fun h9 => hKK _ _ _ _ (h.1 h9) H locs ls hP hD hS hl) (fun h9 => hKK _ _ _ _ (h.2 h9) H locs ls hP hD hS hl)
      case gt => exact lv_icmp_gt hx hb hdec hv (fun h9 => hKK _ _ _ _ (h.1 h9) H locs ls hP hD hS hl) (fun h9 => hKK _ _ _ _ (h.2 h9) H locs ls hP hD hS hl)
      case le => exact lv_icmp_le hx hb hdec hv (fun h9 => hKK _ _ _ _ (h.1 h9) H locs ls hP hD hS hl) (fun h9 => hKK _ _ _ _ (h.2 h9) H locs ls hP hD hS hl)
    · exact hDD h
  case ifCond q off =>
    simp only [zitB, Bool.and_eq_true, beq_iff_eq] at hit
    obtain ⟨rfl, hv⟩ := hit
    have hv := of_decide_eq_true hv
    simp only [zstep] at h
    split at h
    · cases q <;> simp only at h <;> intro H locs ls hP hD hS hl
      case eq => exact lv_if_eq hx hb hdec hv (fun h9 => hKK _ _ _ _ (h.1 h9) H locs ls hP hD hS hl) (fun h9 => hKK _ _ _ _ (h.2 h9) H locs ls hP hD hS hl)
      case ne => exact lv_if_ne hx hb hdec hv (fun h9 => hKK _ _ _ _ (h.1 h9) H locs ls hP hD hS hl) (fun h9 => hKK _ _ _ _ (h.2 h9) H locs ls hP hD hS hl)
      case lt => exact lv_if_lt hx hb hdec hv (fun h9 => hKK _ _ _ _ (h.1 h9) H locs ls hP hD hS hl) (fun h9 => hKK _ _ _ _ (h.2 h9) H locs ls hP hD hS hl)
      case ge => exact lv_if_ge hx hb hdec hv (fun h9 => hKK _ _ _ _ (h.1 h9) H locs ls hP hD hS hl) (fun h9 => hKK _ _ _ _ (h.2 h9) H locs ls hP hD hS hl)
      case gt => exact lv_if_gt hx hb hdec hv (fun h9 => hKK _ _ _ _ (h.1 h9) H locs ls hP hD hS hl) (fun h9 => hKK _ _ _ _ (h.2 h9) H locs ls hP hD hS hl)
      case le => exact lv_if_le hx hb hdec hv (fun h9 => hKK _ _ _ _ (h.1 h9) H locs ls hP hD hS hl) (fun h9 => hKK _ _ _ _ (h.2 h9) H locs ls hP hD hS hl)
    · exact hDD h
  case tableswitch d lo hi9 offs =>
    have hit : ztabB pc d lo hi9 offs a sw = true := hit
    simp only [zstep] at h
    split at h
    · next x r =>
      have h := zsw_T h
      intro H locs ls hP hD hS hl
      by_cases h1 : x.toInt < lo ∨ hi9 < x.toInt
      · exact lv_tableOut hx hb hdec h1 (ztab_out hit h1) (hKK _ _ _ _ h H locs ls hP hD hS hl)
      · obtain ⟨off, ho, ht⟩ := ztab_in hit (fun q => h1 (Or.inl q)) (fun q => h1 (Or.inr q))
        exact lv_tableIn hx hb hdec (fun q => h1 (Or.inl q)) (fun q => h1 (Or.inr q)) ho ht (hKK _ _ _ _ h H locs ls hP hD hS hl)
    · exact hDD h
  case lookupswitch d ps =>
    simp only [zitB, Bool.and_eq_true] at hit
    simp only [zstep] at h
    split at h
    · next x r =>
      have h := zsw_T h
      intro H locs ls hP hD hS hl
      exact lv_lookup hx hb hdec hit.2 rfl (zlook_of hit.1) (hKK _ _ _ _ h H locs ls hP hD hS hl)
    · exact hDD h
  case getfield i =>
    simp only [zitB, Bool.and_eq_true, Bool.or_eq_true, beq_iff_eq] at hit
    obtain ⟨rfl, hf⟩ := hit
    simp only [zstep] at h
    split at h
    · next q r =>
      have hf := hf.resolve_left (by decide)
      split at h
      · next ci fs hq =>
        split at h
        · next w hw =>
          split at h
          · next hca =>
            obtain rfl := Nat.eq_of_beq_eq_true hca
            obtain ⟨rc, hrc, hb2, hl2⟩ := zfield_of hCok hf
            intro H locs ls hP hD hS hl
            have hq2 := zws_at (dA := dA) (adr := adr) hq
            have hw2 : (fs.map (zv adr))[b]? = some (zv adr w) := by simp [hw]
            rcases hl2 with hl2 | hl2
            · exact va_get (ref := (rc.2.1 b).1) hx hb hts (zcl_ws hrc) hown hK0 hP q hq2 hrc b hb2 (hts _ hl2) (fun _ h9 => h9) hw2 hdec (hKK _ _ _ _ h H locs ls hP hD hS hl)
            · exact va_getN (ref := (rc.2.1 b).1) hx hb hts (zcl_ws hrc) hown hK0 hP q hq2 hrc b hb2 (va_Nw.use (zNst_tab (List.mem_filter.mp hl2).2) (hAm.1 _ hl2)) (fun _ h9 => h9) hw2 hdec (hKK _ _ _ _ h H locs ls hP hD hS hl)
          · exact hDD h
        · exact hDD h
      · exact hDD h
    · exact hDD h
  case putfield i =>
    simp only [zitB, Bool.and_eq_true, beq_iff_eq] at hit
    obtain ⟨⟨rfl, hf⟩, hpb⟩ := hit
    simp only [zstep] at h
    split at h
    · next w q r =>
      split at h
      · next ci fs hq =>
        split at h
        · next hca hbl =>
          obtain rfl := Nat.eq_of_beq_eq_true hca
          obtain ⟨rc, hrc, hb2, hl2⟩ := zfield_of hCok hf
          split at h
          · next x =>
            have ht : zft ci b = .int ∧ (rc.2.1 b).2.2.2 = false := by
              simp only [zputB, hrc, Bool.and_eq_true, decide_eq_true_eq, Bool.not_eq_true'] at hpb
              exact hpb
            intro H locs ls hP hD hS hl
            have hq2 := zws_at (dA := dA) (adr := adr) hq
            have hfd : parseFieldDescriptor (rc.2.1 b).2.2.1 = some .int := by rw [zcl_ft hrc b hb2, ht.1]
            have hln : b < (fs.map (zv adr)).length := by rw [List.length_map]; exact Nat.le_of_ble_eq_true hbl
            have hgo : ∀ (H1 : Heap) (locs1 : List Loc), va_P D zcl ((zws dA adr cs).set q (adr q, .inr (ci, (fs.map (zv adr)).set b (.int x)))) H1 → va_D A ((zws dA adr cs).set q (adr q, .inr (ci, (fs.map (zv adr)).set b (.int x)))) → va_S A s.heap H1 locs1 → W p l e R s m args below meth cd H1 locs1 k n Q (F0 m (pc + 3) ls (r.map (zv adr))) := by
              intro H1 locs1 hP1 hD1 hS1
              have e1 : (fs.map (zv adr)).set b (.int x) = (fs.set b (.int x)).map (zv adr) := by rw [List.map_set]; rfl
              rw [e1] at hP1 hD1
              exact hKK _ _ _ _ h H1 locs1 ls (by rw [zws_set]; exact hP1) (by rw [zws_set]; exact hD1) hS1 hl
            rcases hl2 with hl2 | hl2
            · exact va_put (ref := (rc.2.1 b).1) hx hb hts (zcl_ws hrc) (zft ci) (zcl_ft hrc) (zcl_nm hrc) hown hK0 hP hD hS q hq2 hrc b hb2 (hts _ hl2) (fun _ h9 => h9) ht.2 hfd rfl rfl hln hdec hgo
            · exact va_putN (ref := (rc.2.1 b).1) hx hb hts (zcl_ws hrc) (zft ci) (zcl_ft hrc) (zcl_nm hrc) hown hK0 hP hD hS q hq2 hrc b hb2 (va_Nw.use (zNst_tab (List.mem_filter.mp hl2).2) (hAm.1 _ hl2)) (fun _ h9 => h9) ht.2 hfd rfl rfl hln hdec hgo
          · next x =>
            have ht : zft ci b = .boolean ∧ (rc.2.1 b).2.2.2 = false := by
              simp only [zputB, hrc, Bool.and_eq_true, decide_eq_true_eq, Bool.not_eq_true'] at hpb
              exact hpb
            intro H locs ls hP hD hS hl
            have hq2 := zws_at (dA := dA) (adr := adr) hq
            have hfd : parseFieldDescriptor (rc.2.1 b).2.2.1 = some .boolean := by rw [zcl_ft hrc b hb2, ht.1]
            have hln : b < (fs.map (zv adr)).length := by rw [List.length_map]; exact Nat.le_of_ble_eq_true hbl
            have hgo : ∀ (H1 : Heap) (locs1 : List Loc), va_P D zcl ((zws dA adr cs).set q (adr q, .inr (ci, (fs.map (zv adr)).set b (.int x)))) H1 → va_D A ((zws dA adr cs).set q (adr q, .inr (ci, (fs.map (zv adr)).set b (.int x)))) → va_S A s.heap H1 locs1 → W p l e R s m args below meth cd H1 locs1 k n Q (F0 m (pc + 3) ls (r.map (zv adr))) := by
              intro H1 locs1 hP1 hD1 hS1
              have e1 : (fs.map (zv adr)).set b (.int x) = (fs.set b (.int x)).map (zv adr) := by rw [List.map_set]; rfl
              rw [e1] at hP1 hD1
              exact hKK _ _ _ _ h.2 H1 locs1 ls (by rw [zws_set]; exact hP1) (by rw [zws_set]; exact hD1) hS1 hl
            rcases hl2 with hl2 | hl2
            · exact va_put (ref := (rc.2.1 b).1) hx hb hts (zcl_ws hrc) (zft ci) (zcl_ft hrc) (zcl_nm hrc) hown hK0 hP hD hS q hq2 hrc b hb2 (hts _ hl2) (fun _ h9 => h9) ht.2 hfd (show narrow FieldType.boolean (Value.int x) = Value.int x from by rcases h.1 with h9 | h9 <;> subst h9 <;> decide) (show fits FieldType.boolean (Value.int x) = true from by rcases h.1 with h9 | h9 <;> subst h9 <;> decide) hln hdec hgo
            · exact va_putN (ref := (rc.2.1 b).1) hx hb hts (zcl_ws hrc) (zft ci) (zcl_ft hrc) (zcl_nm hrc) hown hK0 hP hD hS q hq2 hrc b hb2 (va_Nw.use (zNst_tab (List.mem_filter.mp hl2).2) (hAm.1 _ hl2)) (fun _ h9 => h9) ht.2 hfd (show narrow FieldType.boolean (Value.int x) = Value.int x from by rcases h.1 with h9 | h9 <;> subst h9 <;> decide) (show fits FieldType.boolean (Value.int x) = true from by rcases h.1 with h9 | h9 <;> subst h9 <;> decide) hln hdec hgo
          · next x =>
            have ht : zft ci b = .long ∧ (rc.2.1 b).2.2.2 = false := by
              simp only [zputB, hrc, Bool.and_eq_true, decide_eq_true_eq, Bool.not_eq_true'] at hpb
              exact hpb
            intro H locs ls hP hD hS hl
            have hq2 := zws_at (dA := dA) (adr := adr) hq
            have hfd : parseFieldDescriptor (rc.2.1 b).2.2.1 = some .long := by rw [zcl_ft hrc b hb2, ht.1]
            have hln : b < (fs.map (zv adr)).length := by rw [List.length_map]; exact Nat.le_of_ble_eq_true hbl
            have hgo : ∀ (H1 : Heap) (locs1 : List Loc), va_P D zcl ((zws dA adr cs).set q (adr q, .inr (ci, (fs.map (zv adr)).set b (.long x)))) H1 → va_D A ((zws dA adr cs).set q (adr q, .inr (ci, (fs.map (zv adr)).set b (.long x)))) → va_S A s.heap H1 locs1 → W p l e R s m args below meth cd H1 locs1 k n Q (F0 m (pc + 3) ls (r.map (zv adr))) := by
              intro H1 locs1 hP1 hD1 hS1
              have e1 : (fs.map (zv adr)).set b (.long x) = (fs.set b (.long x)).map (zv adr) := by rw [List.map_set]; rfl
              rw [e1] at hP1 hD1
              exact hKK _ _ _ _ h H1 locs1 ls (by rw [zws_set]; exact hP1) (by rw [zws_set]; exact hD1) hS1 hl
            rcases hl2 with hl2 | hl2
            · exact va_put (ref := (rc.2.1 b).1) hx hb hts (zcl_ws hrc) (zft ci) (zcl_ft hrc) (zcl_nm hrc) hown hK0 hP hD hS q hq2 hrc b hb2 (hts _ hl2) (fun _ h9 => h9) ht.2 hfd rfl rfl hln hdec hgo
            · exact va_putN (ref := (rc.2.1 b).1) hx hb hts (zcl_ws hrc) (zft ci) (zcl_ft hrc) (zcl_nm hrc) hown hK0 hP hD hS q hq2 hrc b hb2 (va_Nw.use (zNst_tab (List.mem_filter.mp hl2).2) (hAm.1 _ hl2)) (fun _ h9 => h9) ht.2 hfd rfl rfl hln hdec hgo
          · exact hDD h
        · exact hDD h
      · exact hDD h
    · exact hDD h
  case iaload =>
    have hlen : len = 1 := eq_of_beq hit
    subst hlen
    simp only [zstep] at h
    split at h
    · next i q r =>
      split at h
      · next na f hq =>
        intro H locs ls hP hD hS hl
        exact va_iald hx hb hK0 hP q 0 (zws_at (dA := dA) (adr := adr) hq) (zty_at rfl) h.1 hdec (hKK _ _ _ _ h.2 H locs ls hP hD hS hl)
      · exact hDD h
    · exact hDD h
  case laload =>
    have hlen : len = 1 := eq_of_beq hit
    subst hlen
    simp only [zstep] at h
    split at h
    · next i q r =>
      split at h
      · next na f hq =>
        intro H locs ls hP hD hS hl
        exact va_lald hx hb hK0 hP q 1 (zws_at (dA := dA) (adr := adr) hq) (zty_at rfl) h.1 hdec (hKK _ _ _ _ h.2 H locs ls hP hD hS hl)
      · exact hDD h
    · exact hDD h
  case caload =>
    have hlen : len = 1 := eq_of_beq hit
    subst hlen
    simp only [zstep] at h
    split at h
    · next i q r =>
      split at h
      · next na f hq =>
        intro H locs ls hP hD hS hl
        exact va_cald hx hb hK0 hP q 2 (zws_at (dA := dA) (adr := adr) hq) (zty_at rfl) h.1 hdec (hKK _ _ _ _ h.2 H locs ls hP hD hS hl)
      · exact hDD h
    · exact hDD h
  case baload =>
    have hlen : len = 1 := eq_of_beq hit
    subst hlen
    simp only [zstep] at h
    split at h
    · next i q r =>
      split at h
      · next na f hq =>
        intro H locs ls hP hD hS hl
        exact va_zald hx hb hK0 hP q 3 (zws_at (dA := dA) (adr := adr) hq) (zty_at rfl) h.1 hdec (hKK _ _ _ _ h.2 H locs ls hP hD hS hl)
      · exact hDD h
    · exact hDD h
  case aaload =>
    have hlen : len = 1 := eq_of_beq hit
    subst hlen
    simp only [zstep] at h
    split at h
    · next i q r =>
      split at h
      · next na f hq =>
        intro H locs ls hP hD hS hl
        refine va_aldq hx hb hK0 hP q 4 (zws_at (dA := dA) (adr := adr) hq) (zty_at rfl) h.1 hdec ?_
        have h9 := hKK _ _ _ _ h.2 H locs ls hP hD hS hl
        have e9 : zv adr (va_rf (f i.toNatClampNeg)) = va_rf ((f i.toNatClampNeg).map adr) := by cases f i.toNatClampNeg <;> rfl
        rw [List.map_cons, e9] at h9
        exact h9
      · next na f hq =>
        intro H locs ls hP hD hS hl
        refine va_aldq hx hb hK0 hP q 5 (zws_at (dA := dA) (adr := adr) hq) (zty_at rfl) h.1 hdec ?_
        have h9 := hKK _ _ _ _ h.2 H locs ls hP hD hS hl
        have e9 : zv adr (va_rf (f i.toNatClampNeg)) = va_rf ((f i.toNatClampNeg).map adr) := by cases f i.toNatClampNeg <;> rfl
        rw [List.map_cons, e9] at h9
        exact h9
      · exact hDD h
    · exact hDD h
  case iastore =>
    have hlen : len = 1 := eq_of_beq hit
    subst hlen
    simp only [zstep] at h
    split at h
    · next x i q r =>
      split at h
      · next na f hq =>
        intro H locs ls hP hD hS hl
        exact va_iast hx hb hK0 hP hD hS q 0 (zws_at (dA := dA) (adr := adr) hq) (zty_at rfl) h.1 hdec (fun H1 locs1 hP1 hD1 hS1 => hKK _ _ _ _ h.2 H1 locs1 ls (by rw [zws_set]; exact hP1) (by rw [zws_set]; exact hD1) hS1 hl)
      · exact hDD h
    · exact hDD h
  case lastore =>
    have hlen : len = 1 := eq_of_beq hit
    subst hlen
    simp only [zstep] at h
    split at h
    · next x i q r =>
      split at h
      · next na f hq =>
        intro H locs ls hP hD hS hl
        exact va_last hx hb hK0 hP hD hS q 1 (zws_at (dA := dA) (adr := adr) hq) (zty_at rfl) h.1 hdec (fun H1 locs1 hP1 hD1 hS1 => hKK _ _ _ _ h.2 H1 locs1 ls (by rw [zws_set]; exact hP1) (by rw [zws_set]; exact hD1) hS1 hl)
      · exact hDD h
    · exact hDD h
  case castore =>
    have hlen : len = 1 := eq_of_beq hit
    subst hlen
    simp only [zstep] at h
    split at h
    · next x i q r =>
      split at h
      · next na f hq =>
        intro H locs ls hP hD hS hl
        exact va_cast hx hb hK0 hP hD hS q 2 (zws_at (dA := dA) (adr := adr) hq) (zty_at rfl) h.1 hdec (fun H1 locs1 hP1 hD1 hS1 => hKK _ _ _ _ h.2 H1 locs1 ls (by rw [zws_set]; exact hP1) (by rw [zws_set]; exact hD1) hS1 hl)
      · exact hDD h
    · exact hDD h
  case bastore =>
    have hlen : len = 1 := eq_of_beq hit
    subst hlen
    simp only [zstep] at h
    split at h
    · next x i q r =>
      split at h
      · next na f hq =>
        intro H locs ls hP hD hS hl
        exact va_zast hx hb hK0 hP hD hS q 3 (zws_at (dA := dA) (adr := adr) hq) (zty_at rfl) h.1 hdec (fun H1 locs1 hP1 hD1 hS1 => hKK _ _ _ _ h.2 H1 locs1 ls (by rw [zws_set]; exact hP1) (by rw [zws_set]; exact hD1) hS1 hl)
      · exact hDD h
    · exact hDD h
  case arraylength =>
    have hlen : len = 1 := eq_of_beq hit
    subst hlen
    simp only [zstep] at h
    split at h
    · next q r =>
      split at h
      · next t x hq =>
        split at h
        · next ht =>
          intro H locs ls hP hD hS hl
          obtain ⟨ty, hty⟩ : ∃ ty, zTy[t]? = some ty := ⟨_, List.getElem?_eq_getElem (show t < zTy.length from Nat.le_of_ble_eq_true ht)⟩
          refine va_alen hx hb hK0 hP q t (zws_at (dA := dA) (adr := adr) hq) (zty_at hty) (v := Int32.ofNat x.1) ?_ hdec (hKK _ _ _ _ h H locs ls hP hD hS hl)
          obtain ⟨n9, f9⟩ := x
          unfold zA
          split <;> simp_all
        · exact hDD h
      · exact hDD h
    · exact hDD h
  case invokestatic i =>
    simp only [zitB, Bool.and_eq_true, beq_iff_eq, Bool.or_eq_true] at hit
    obtain ⟨rfl, hp⟩ := hit
    simp only [zstep] at h
    split at h
    · have hw := zprim_of hCok (hp.resolve_left (by decide))
      split at h
      · next y x r =>
        split at h
        · next hr4 =>
          intro H locs ls hP hD hS hl
          have h8 := zcat_sum (adr := adr) hr4
          exact va_mmax hx hb (hl.2.choose_spec.1.1.symm) hown (hts _ hw) (hts _ zMathM.1) (hts _ zMathM.2.2.2.2.1) (hts _ zMathM.2.2.1) hR.1 (by omega) hcl.1 hcl.2 hdec (hKK _ _ _ _ h H locs ls hP hD hS hl)
        · exact hDD h
      · exact hDD h
    · have hw := zprim_of hCok (hp.resolve_left (by decide))
      split at h
      · next y x r =>
        split at h
        · next hr4 =>
          intro H locs ls hP hD hS hl
          have h8 := zcat_sum (adr := adr) hr4
          exact va_mmin hx hb (hl.2.choose_spec.1.1.symm) hown (hts _ hw) (hts _ zMathM.2.1) (hts _ zMathM.2.2.2.2.1) (hts _ zMathM.2.2.2.1) hR.1 (by omega) hcl.1 hcl.2 hdec (hKK _ _ _ _ h H locs ls hP hD hS hl)
        · exact hDD h
      · exact hDD h
    · have hw := zprim_of hCok (hp.resolve_left (by decide))
      split at h
      · next nq dp q1 sp q0 r =>
        split at h
        · next n0 f n1 g hr4 hq0 hq1 =>
          intro H locs ls hP hD hS hl
          have h8 := zcat_sum (adr := adr) hr4
          obtain ⟨⟨c1, c2, c3, c4, c5⟩, h⟩ := h
          exact va_copyi hx hb (hl.2.choose_spec.1.1.symm) hown (hts _ hw) (hts _ zMathM.2.2.2.2.2.1) (hts _ zMathM.2.2.2.2.2.2.1) (hts _ zMathM.2.2.2.2.2.2.2) hK0 hP hD hS q0 q1 0 0 (zws_at (dA := dA) (adr := adr) hq0) (zws_at (dA := dA) (adr := adr) hq1) (zty_at rfl) (zty_at rfl) rfl c1 c2 c3 c4 c5 (fun _ _ => rfl) hR.1 (Nat.le_trans (Nat.add_le_add_right h8 _) (Nat.le_trans (by decide) hR.2)) hdec (fun H1 locs1 hP1 hD1 hS1 => hKK _ _ _ _ h H1 locs1 ls (by rw [zws_set]; exact hP1) (by rw [zws_set]; exact hD1) hS1 hl)
        · next n0 f n1 g hr4 hq0 hq1 =>
          intro H locs ls hP hD hS hl
          have h8 := zcat_sum (adr := adr) hr4
          obtain ⟨⟨c1, c2, c3, c4, c5⟩, h⟩ := h
          exact va_copyl hx hb (hl.2.choose_spec.1.1.symm) hown (hts _ hw) (hts _ zMathM.2.2.2.2.2.1) (hts _ zMathM.2.2.2.2.2.2.1) (hts _ zMathM.2.2.2.2.2.2.2) hK0 hP hD hS q0 q1 1 1 (zws_at (dA := dA) (adr := adr) hq0) (zws_at (dA := dA) (adr := adr) hq1) (zty_at rfl) (zty_at rfl) rfl c1 c2 c3 c4 c5 (fun _ _ => rfl) hR.1 (Nat.le_trans (Nat.add_le_add_right h8 _) (Nat.le_trans (by decide) hR.2)) hdec (fun H1 locs1 hP1 hD1 hS1 => hKK _ _ _ _ h H1 locs1 ls (by rw [zws_set]; exact hP1) (by rw [zws_set]; exact hD1) hS1 hl)
        · exact hDD h
      · exact hDD h
    · exact hDD h
  all_goals exact hDD h
theorem zrun_sound {Z : zCtx} {M : zMth} (hZ : zOk Z M) {k n : Nat} (hcl : zRoom Z k n) {cuts : List Nat} : ∀ (f : Nat) (pc : Nat) (lv : List (Option Value)) (st : List Value) (cs : List zE), zrun M.2.2.2.2.1 cuts (AW Z k n) f pc lv st cs → AW Z k n pc lv st cs
  | 0, _, _, _, _, h => h
  | f + 1, pc, lv, st, cs, h => by
    unfold zrun at h
    split at h
    · exact h
    · next it hit =>
      obtain ⟨h1, rfl⟩ := zget_mem hit
      refine zstep_sound hZ hcl h1 (fun pc1 lv1 st1 cs1 h9 => ?_) (fun h9 => h9) h
      split at h9
      · exact h9
      · exact zrun_sound hZ hcl f _ _ _ _ h9
/-- a run: one row -/
theorem AW.run {Z : zCtx} {M : zMth} (hZ : zOk Z M) {k n : Nat} (hcl : zRoom Z k n) (cuts : List Nat) (f : Nat) {pc : Nat} {lv : List (Option Value)} {st : List Value} {cs : List zE} (h : zrun M.2.2.2.2.1 cuts (AW Z k n) f pc lv st cs) : AW Z k n pc lv st cs := zrun_sound hZ hcl f _ _ _ _ h
