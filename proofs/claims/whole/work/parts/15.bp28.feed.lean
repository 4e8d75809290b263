/-! ===== feed ===== -/
theorem byte_gen (x : Int64) (S : UInt64) (T : Int64) (d : Nat) (hd : d ≤ 56) (hS : S.toNat % 64 = d) (hT : (T.toBitVec.smod 64).toNat = d) : Int64.toInt32 (((Int64.toUInt64 x >>> S).toInt64) &&& 255) = (Int64.toInt32 (x >>> T)) &&& 255 := by
  apply Int32.toBitVec_inj.mp
  have hA : (Int64.toInt32 (((Int64.toUInt64 x >>> S).toInt64) &&& 255)).toBitVec = ((x.toBitVec >>> d) &&& 255#64).signExtend 32 := by
    show ((x.toBitVec >>> (S.toBitVec % 64#64)) &&& 255#64).signExtend 32 = _
    have e : (S.toBitVec % 64#64).toNat = d := by
      rw [BitVec.toNat_umod]
      exact hS
    rw [BitVec.ushiftRight_eq', e]
  have hB : ((Int64.toInt32 (x >>> T)) &&& 255).toBitVec = (x.toBitVec.sshiftRight d).signExtend 32 &&& 255#32 := by
    show (x.toBitVec.sshiftRight' (T.toBitVec.smod 64#64)).signExtend 32 &&& 255#32 = _
    have e : (T.toBitVec.smod 64#64).toNat = d := hT
    rw [BitVec.sshiftRight_eq', e]
  rw [hA, hB]
  apply BitVec.eq_of_getLsbD_eq
  intro i hi
  have h255 : ∀ i, i < 32 → ((255#64).getLsbD i = decide (i < 8)) ∧ ((255#32).getLsbD i = decide (i < 8)) := by decide
  obtain ⟨b1, b2⟩ := h255 i hi
  rw [BitVec.getLsbD_and, BitVec.getLsbD_signExtend, BitVec.getLsbD_signExtend, if_pos (by omega), if_pos (by omega), BitVec.getLsbD_and, b1, b2, BitVec.getLsbD_ushiftRight, BitVec.getLsbD_sshiftRight]
  by_cases c : i < 8
  · simp [c, hi, show d + i < 64 by omega, show i < 64 by omega]
  · simp [c]
theorem byte_eq (x : Int64) : ∀ j, j < 8 → Int64.toInt32 (((Int64.toUInt64 x >>> ((Int32.toInt64 (nI (8 * j))).toUInt64 &&& Int64.toUInt64 63)).toInt64) &&& 255) = (Int64.toInt32 (x >>> (Int32.toInt64 (nI (8 * j)) &&& 63))) &&& 255 := by
  intro j hj
  have hj2 : j = 0 ∨ j = 1 ∨ j = 2 ∨ j = 3 ∨ j = 4 ∨ j = 5 ∨ j = 6 ∨ j = 7 := by omega
  rcases hj2 with rfl | rfl | rfl | rfl | rfl | rfl | rfl | rfl
  · exact byte_gen x _ _ 0 (by decide) (by decide) (by decide)
  · exact byte_gen x _ _ 8 (by decide) (by decide) (by decide)
  · exact byte_gen x _ _ 16 (by decide) (by decide) (by decide)
  · exact byte_gen x _ _ 24 (by decide) (by decide) (by decide)
  · exact byte_gen x _ _ 32 (by decide) (by decide) (by decide)
  · exact byte_gen x _ _ 40 (by decide) (by decide) (by decide)
  · exact byte_gen x _ _ 48 (by decide) (by decide) (by decide)
  · exact byte_gen x _ _ 56 (by decide) (by decide) (by decide)
theorem char_b {b : Nat} (h : b < 256) : vp_nar .char ((Int32.toUInt32 (nI b) % 65536).toInt32) = nI b := by
  rw [pk_vc, pk_char, pk_tn (by omega), Nat.mod_eq_of_lt (by omega)]
def tpR (n : Nat) (s t : Nat → Int32) : Prop := ∀ k, k < n → ∃ c : Nat, (c = 10 ∨ (32 ≤ c ∧ c ≤ 126)) ∧ s k = nI c ∧ t k = nI c
theorem tpR_more {n b : Nat} {s t : Nat → Int32} (h : tpR n s t) (hb : b = 10 ∨ (32 ≤ b ∧ b ≤ 126)) : tpR (n + 1) (upd s n (nI b)) (upd t n (nI b)) := fun k hk => by
  by_cases e : k = n
  · subst e
    exact ⟨b, hb, pk_us, pk_us⟩
  · obtain ⟨c, c1, c2, c3⟩ := h k (by omega)
    exact ⟨c, c1, by rw [pk_un e]; exact c2, by rw [pk_un e]; exact c3⟩
def shX : Nat → Int32
  | 0 => -8
  | r + 1 => nI (8 * r)
theorem shX_step (r : Nat) : shX (r + 1) + (-8) = shX r := by
  cases r with
  | zero => decide
  | succ q =>
    show nI (8 * (q + 1)) + (-8) = nI (8 * q)
    rw [show 8 * (q + 1) = 8 * q + 8 by omega, ← nI_add, show nI 8 = (8 : Int32) from rfl]
    grind
theorem lay_loop (N : Nat) {x : Int64} {v : VTape} {w : VR} : ∀ (r fuel n : Nat) (s t : Nat → Int32), r ≤ 8 → r < fuel → n ≤ 1000 → tpR n s t → Ev (f_Tape_addBytes_L3 N fuel v x (shX r) s (nI n)) (fun a => Ev (f_R_lay_L3 N fuel w x (shX r) t (nI n)) (fun b => ∃ m, m ≤ 1000 ∧ a.2 = nI m ∧ b.2 = nI m ∧ tpR m a.1 b.1))
  | _, 0, _, _, _, _, h, _, _ => absurd h (Nat.not_lt_zero _)
  | 0, fuel + 1, n, s, t, hr, hf, hn, hst => by
    rw [f_Tape_addBytes_L3, f_R_lay_L3]
    refine Ev.ifp (by decide) ?_
    refine Ev.ret ?_
    refine Ev.ifp (by decide) ?_
    exact Ev.ret ⟨n, hn, rfl, rfl, hst⟩
  | r + 1, fuel + 1, n, s, t, hr, hf, hn, hst => by
    obtain ⟨b, hb, eb⟩ := pk_andE (Int64.toInt32 (x >>> (Int32.toInt64 (shX (r + 1)) &&& 63))) (m := 255) 8 (by decide)
    have hb : b < 256 := hb
    have eb2 : Int64.toInt32 (((Int64.toUInt64 x >>> ((Int32.toInt64 (shX (r + 1))).toUInt64 &&& Int64.toUInt64 63)).toInt64) &&& 255) = nI b := (byte_eq x r (by omega)).trans eb
    have ih := fun n s t h1 h2 => lay_loop N (x := x) (v := v) (w := w) r fuel n s t (by omega) (by omega) h1 h2
    rw [f_Tape_addBytes_L3, f_R_lay_L3, eb, eb2, char_b hb, shX_step, show nI n + 1 = nI (n + 1) from nI_1 n, nI_clamp (n := n) (by omega)]
    have h8 : ¬ shX (r + 1) < 0 := nI_pos (n := 8 * r) (by omega)
    have hno : ¬ 1000 ≤ n → ¬ (nI n < 0 ∨ 1000 ≤ n) := fun h y => y.elim (nI_pos (by omega)) (fun z => h z)
    refine Ev.ifn h8 ?_
    by_cases c1 : b = 10
    · have c1' : nI b = 10 := by rw [c1]; rfl
      refine Ev.ifp c1' ?_
      by_cases c2 : 1000 ≤ n
      · refine Ev.ifp (nI_le (a := 1000) c2 (by omega)) ?_
        refine (ih n s t hn hst).mono ?_
        intro a ha
        refine Ev.ifn h8 ?_
        refine Ev.ifp c1' ?_
        refine Ev.ifp (nI_le (a := 1000) c2 (by omega)) ?_
        exact ha
      · refine Ev.ifn (nI_ge (b := 1000) (by omega) (by decide)) ?_
        refine Ev.ifn (hno c2) ?_
        refine (ih (n + 1) _ _ (by omega) (tpR_more hst (Or.inl c1))).mono ?_
        intro a ha
        refine Ev.ifn h8 ?_
        refine Ev.ifp c1' ?_
        refine Ev.ifn (nI_ge (b := 1000) (by omega) (by decide)) ?_
        refine Ev.ifn (hno c2) ?_
        refine Ev.letE ?_
        refine Ev.letE ?_
        exact ha
    · have c1' : ¬ nI b = 10 := fun q => c1 ((nI_eq (b := 10) (by omega) (by decide)).mp q)
      refine Ev.ifn c1' ?_
      by_cases c2 : b < 32
      · refine Ev.ifp (nI_lt (b := 32) c2 (by decide)) ?_
        refine (ih n s t hn hst).mono ?_
        intro a ha
        refine Ev.ifn h8 ?_
        refine Ev.ifn c1' ?_
        refine Ev.ifp (nI_lt (b := 32) c2 (by decide)) ?_
        exact ha
      · refine Ev.ifn (nI_nlt (b := 32) (by omega) (by omega)) ?_
        by_cases c3 : 126 < b
        · refine Ev.ifp (nI_lt (a := 126) c3 (by omega)) ?_
          refine (ih n s t hn hst).mono ?_
          intro a ha
          refine Ev.ifn h8 ?_
          refine Ev.ifn c1' ?_
          refine Ev.ifn (nI_nlt (b := 32) (by omega) (by omega)) ?_
          refine Ev.ifp (nI_lt (a := 126) c3 (by omega)) ?_
          exact ha
        · refine Ev.ifn (nI_nlt (a := 126) (by omega) (by decide)) ?_
          by_cases c4 : 1000 ≤ n
          · refine Ev.ifp (nI_le (a := 1000) c4 (by omega)) ?_
            refine (ih n s t hn hst).mono ?_
            intro a ha
            refine Ev.ifn h8 ?_
            refine Ev.ifn c1' ?_
            refine Ev.ifn (nI_nlt (b := 32) (by omega) (by omega)) ?_
            refine Ev.ifn (nI_nlt (a := 126) (by omega) (by decide)) ?_
            refine Ev.ifp (nI_le (a := 1000) c4 (by omega)) ?_
            exact ha
          · refine Ev.ifn (nI_ge (b := 1000) (by omega) (by decide)) ?_
            refine Ev.ifn (hno c4) ?_
            refine (ih (n + 1) _ _ (by omega) (tpR_more hst (Or.inr ⟨by omega, by omega⟩))).mono ?_
            intro a ha
            refine Ev.ifn h8 ?_
            refine Ev.ifn c1' ?_
            refine Ev.ifn (nI_nlt (b := 32) (by omega) (by omega)) ?_
            refine Ev.ifn (nI_nlt (a := 126) (by omega) (by decide)) ?_
            refine Ev.ifn (nI_ge (b := 1000) (by omega) (by decide)) ?_
            refine Ev.ifn (hno c4) ?_
            refine Ev.letE ?_
            refine Ev.letE ?_
            exact ha
theorem lay_both {N : Nat} (hN : 10000 ≤ N) {x : Int64} {v : VTape} {w : VR} {n : Nat} (hn : n ≤ 1000) (h1 : Tape_length v = nI n) (h2 : R_taped w = nI n) (h : tpR n (Tape_signs v) (R_tape w)) : Ev (f_Tape_addBytes N v x) (fun a => Ev (f_R_lay N w x) (fun b => ∃ m, m ≤ 1000 ∧ a.2 = nI m ∧ b.2 = nI m ∧ tpR m a.1 b.1)) := by
  obtain ⟨a, e1, b, e2, d⟩ := lay_loop N (x := x) (v := v) (w := w) 8 N n (Tape_signs v) (R_tape w) (Nat.le_refl _) (by omega) hn h
  have e1 : f_Tape_addBytes_L3 N N v x 56 (Tape_signs v) (nI n) = some a := e1
  have e2 : f_R_lay_L3 N N w x 56 (R_tape w) (nI n) = some b := e2
  unfold f_Tape_addBytes
  rw [h1]
  refine Ev.bnd e1 ?_
  refine Ev.ret ?_
  unfold f_R_lay
  rw [h2]
  refine Ev.bnd e2 ?_
  exact Ev.ret d
theorem m_feed {N : Nat} (hN : 10000 ≤ N) {v0 : VBl} {v1 : VTape} {v2 : VTown} {v3 : VLaws} {v4 : VReader} {v5 : VTown} {v6 : VLaws} {v7 : VYear} {v8 : VYear} {v9 : VLots} {v10 : VLives} {v11 : VLives} {v13 : VTales} {v17 : VForecast} {v18 : VLives} {v19 : VDeeds} {v20 : VPairs} {und mls : Nat → VLives} {mts : Nat → VTales} {w : VR} {P L g : Nat} (h : RELx P L g v0 v1 v2 v3 v7 v9 v10 v13 v17 und mls mts w) (a1 a3 a5 : Int64) : Ev (f_Bl_feed N v0 v1 v2 v3 v4 v5 v6 v7 v8 v9 v10 v11 v13 v17 v18 v19 v20 und mls mts a1 a3 a5) (fun r => Ev (f_R_feed N w a1 a3 a5) (fun q => r.1 = q.1 ∧ q.2.1 = 0 ∧ RELx P L g v0 (Tape_s_signs_length v1 r.2.1 r.2.2) v2 v3 v7 v9 v10 v13 v17 und mls mts (R_s_thrown_tape_taped w q.2.1 q.2.2.1 q.2.2.2))) := by
  obtain ⟨b1, b2, b3, ⟨n, hn, t1, t2, t3⟩, b5, b6, b7, b8, b9⟩ := h
  obtain ⟨⟨s1, l1⟩, e1, ⟨s1', l1'⟩, f1, n1, k1, p1, q1, r1⟩ := lay_both hN (x := a1) (v := v1) (w := R_thrown_s w 0) hn t1 t2 t3
  obtain ⟨⟨s2, l2⟩, e2, ⟨s2', l2'⟩, f2, n2, k2, p2, q2, r2⟩ := lay_both hN (x := a3) (v := Tape_s_signs_length v1 s1 l1) (w := R_s_thrown_tape_taped w 0 s1' l1') k1 p1 q1 r1
  obtain ⟨⟨s3, l3⟩, e3, ⟨s3', l3'⟩, f3, n3, k3, p3, q3, r3⟩ := lay_both hN (x := a5) (v := Tape_s_signs_length v1 s2 l2) (w := R_s_thrown_tape_taped w 0 s2' l2') k2 p2 q2 r2
  unfold f_Bl_feed f_R_feed
  refine Ev.bnd e1 ?_
  refine Ev.bnd e2 ?_
  refine Ev.bnd e3 ?_
  refine Ev.ret ?_
  refine Ev.bnd f1 ?_
  refine Ev.bnd f2 ?_
  refine Ev.bnd f3 ?_
  exact Ev.ret ⟨p3.trans q3.symm, rfl, b1, b2, b3, ⟨n3, k3, p3, q3, r3⟩, b5, b6, b7, b8, b9⟩
