/-! ===== the law's loop ===== -/
def zLH : List zIt := [(23, .iload 4, 2, .null, 0, 0, 0, []), (25, .aload_n 0, 1, .null, 0, 0, 0, []), (26, .arraylength, 1, .null, 0, 0, 0, []), (27, .bipush 7, 2, .int 7, 0, 0, 0, []), (29, .isub, 1, .null, 0, 0, 0, []), (30, .if_icmp .gt 1164, 3, .null, 1194, 0, 0, []), (33, .aload_n 0, 1, .null, 0, 0, 0, []), (34, .iload 4, 2, .null, 0, 0, 0, []), (36, .iaload, 1, .null, 0, 0, 0, []), (37, .bipush 31, 2, .int 31, 0, 0, 0, []), (39, .iand, 1, .null, 0, 0, 0, []), (40, .tableswitch 1148 0 27 #[128, 275, 288, 301, 338, 375, 412, 449, 474, 511, 524, 537, 550, 575, 588, 625, 650, 687, 779, 804, 853, 866, 891, 904, 929, 1021, 1070, 1123], 128, .null, 1188, 0, 0, [(0, 168), (1, 315), (2, 328), (3, 341), (4, 378), (5, 415), (6, 452), (7, 489), (8, 514), (9, 551), (10, 564), (11, 577), (12, 590), (13, 615), (14, 628), (15, 665), (16, 690), (17, 727), (18, 819), (19, 844), (20, 893), (21, 906), (22, 931), (23, 944), (24, 969), (25, 1061), (26, 1110), (27, 1163)])] ++ [(1188, .iinc 4 7, 3, .int 7, 0, 0, 0, []), (1191, .goto (-1168), 3, .null, 23, 0, 0, []), (1194, .iconst 1, 1, .int 1, 0, 0, 0, []), (1195, .ireturn, 1, .null, 0, 0, 0, [])]
theorem zLH_ok : zMokL (zLM zLH) := ⟨by decide +kernel, by decide +kernel, zCL_ok, rfl, trivial, by decide +kernel⟩
def zLawEnd (Z : zCtx) : Prop := match Z with
  | (_, _, _, R, s, _, args, below, _, _, _, _, _, A, Q) => ∃ b : Nat, R = room_1 ∧ args = #[Value.ref b] ∧ A = va_A ([] : va_W) s.heap.size ∧ Q = lw_Z below #[Value.ref b] s
set_option maxRecDepth 40000 in
set_option maxHeartbeats 8000000 in
theorem law_ret9 {Z : zCtx} {k n : Nat} {lv : List (Option Value)} {cs : List zE} (hZ : zOkL Z (zLM zLH)) (hE : zLawEnd Z) (hk : k ≤ 601024) (hn : n ≤ 7293033) : AW Z k n 1195 lv [.int 1] cs := by
  obtain ⟨l, p, e, R, s, m, args, below, meth, cd, D, dA, adr, A, Q⟩ := Z
  obtain ⟨hx, hb, hml, hr, hown, hts, hlocks, hK0, hA, hAm, hR0, hM, hnm⟩ := hZ
  obtain ⟨b, rfl, rfl, rfl, rfl⟩ := hE
  intro H locs ls hP hD hS hl
  refine va_forget (fun q hq => ?_) ?_
  · rcases hS.2.2 q hq with ⟨j, e9, h9⟩ | h9
    · simp at h9
    · exact h9
  refine W.widen hk hn ?_
  exact lw_ret (pc := 1195) hx hb hr hlocks (by decide +kernel)
theorem law_end {Z : zCtx} {k n : Nat} {lv : List (Option Value)} {cs : List zE} (hZ : zOkL Z (zLM [])) (hR : zCan Z 1200 601024 7293033) (hE : zLawEnd Z) (hk : k ≤ 601024) (hn : n ≤ 7293033) : AW Z k n 1194 lv [] cs := by
  have hM := hZ.re zLH_ok
  refine AWL.run hM (zRoom_of hR hk hn) [1195] 400 ?_
  show AW Z k n 1195 lv [.int 1] cs
  exact law_ret9 hM hE hk hn
set_option maxRecDepth 40000 in
set_option maxHeartbeats 8000000 in
theorem law_body {Z : zCtx} {L : Nat} {xs : Nat → Int32} (hZ : zOkL Z (zLM [])) (hR : zCan Z 1200 601024 7293033) (hN : zNew Z 0 298) (hT : zThrL Z) (hS : zScr Z L xs) (hE : zLawEnd Z) (hL : L ≤ 3584) (j : Nat) (hj : 7 * j ≤ L) {cb : List zE} {w : VR} {o : Nat → Int64} (h : zRel cb w)
    (kk : ∀ (cb1 : List zE) (w1 : VR) (o1 : Nat → Int64), 7 * j + 7 ≤ L → zRel cb1 w1 → AW Z (298 + (j + 1)) (45171 + 6 * (j + 1)) 23 [some (.ref 2000000), some (.ref 0), some (.ref 272), some (.ref 297), some (.int (nI (7 * (j + 1)))), none, none] [] (zW cb1 w1 o1)) : AW Z (298 + j) (45171 + 6 * j) 23 [some (.ref 2000000), some (.ref 0), some (.ref 272), some (.ref 297), some (.int (nI (7 * j))), none, none] [] (zW cb w o) := by
  have hM := hZ.re zLH_ok
  have hRm : zRoom Z (298 + j) (45171 + 6 * j) := zRoom_of hR (by omega) (by omega)
  refine AWL.run hM hRm [26] 400 ?_
  show AW Z (298 + j) (45171 + 6 * j) 26 [some (.ref 2000000), some (.ref 0), some (.ref 272), some (.ref 297), some (.int (nI (7 * j))), none, none] [.ref 2000000, .int (nI (7 * j))] (zW cb w o)
  refine AWL.slen (pc := 26) hM hS rfl rfl ?_
  show AW Z (298 + j) (45171 + 6 * j) 27 [some (.ref 2000000), some (.ref 0), some (.ref 272), some (.ref 297), some (.int (nI (7 * j))), none, none] [.int (nI L), .int (nI (7 * j))] (zW cb w o)
  refine AWL.run hM hRm [33, 1194] 400 ?_
  show ((nI L - 7 < nI (7 * j) → AW Z (298 + j) (45171 + 6 * j) 1194 [some (.ref 2000000), some (.ref 0), some (.ref 272), some (.ref 297), some (.int (nI (7 * j))), none, none] [] (zW cb w o)) ∧ (¬ (nI L - 7 < nI (7 * j)) → AW Z (298 + j) (45171 + 6 * j) 33 [some (.ref 2000000), some (.ref 0), some (.ref 272), some (.ref 297), some (.int (nI (7 * j))), none, none] [] (zW cb w o)))
  refine ⟨fun _ => law_end hZ hR hE (by omega) (by omega), fun hc => ?_⟩
  have ht : 7 * j + 7 ≤ L := by
    have e7 : (7 : Int32).toInt = 7 := by decide
    have eL : (nI L).toInt = (L : Int) := nI_toInt (by omega)
    have ej : (nI (7 * j)).toInt = ((7 * j : Nat) : Int) := nI_toInt (by omega)
    have es : (nI L - 7).toInt = (nI L).toInt - (7 : Int32).toInt := Jvm.Kit.i32_sub (by rw [eL, e7]; omega) (by rw [eL, e7]; omega)
    rw [Int32.lt_iff_toInt_lt, es, eL, e7, ej] at hc
    omega
  refine AWL.run hM hRm [36] 400 ?_
  show AW Z (298 + j) (45171 + 6 * j) 36 [some (.ref 2000000), some (.ref 0), some (.ref 272), some (.ref 297), some (.int (nI (7 * j))), none, none] [.int (nI (7 * j)), .ref 2000000] (zW cb w o)
  refine AWL.sld (pc := 36) (t := 7 * j) hM hS rfl rfl rfl (by omega) hL ?_
  show AW Z (298 + j) (45171 + 6 * j) 37 [some (.ref 2000000), some (.ref 0), some (.ref 272), some (.ref 297), some (.int (nI (7 * j))), none, none] [.int (xs (7 * j))] (zW cb w o)
  refine AWL.run hM hRm [40] 400 ?_
  show AW Z (298 + j) (45171 + 6 * j) 40 [some (.ref 2000000), some (.ref 0), some (.ref 272), some (.ref 297), some (.int (nI (7 * j))), none, none] [.int (xs (7 * j) &&& 31)] (zW cb w o)
  have kb : ∀ (cb1 : List zE) (w1 : VR) (o1 : Nat → Int64), zRel cb1 w1 → AW Z (298 + j + 1) (45171 + 6 * j + 6) 1188 [some (.ref 2000000), some (.ref 0), some (.ref 272), some (.ref 297), some (.int (nI (7 * j))), none, none] [] (zW cb1 w1 o1) := by
    intro cb1 w1 o1 h1
    refine AWL.run hM (zRoom_of hR (by omega) (by omega)) [23] 400 ?_
    show AW Z (298 + j + 1) (45171 + 6 * j + 6) 23 [some (.ref 2000000), some (.ref 0), some (.ref 272), some (.ref 297), some (.int (nI (7 * j) + 7)), none, none] [] (zW cb1 w1 o1)
    have e1 : nI (7 * j) + 7 = nI (7 * (j + 1)) := nI_add (7 * j) 7
    have e2 : 298 + j + 1 = 298 + (j + 1) := by omega
    have e3 : 45171 + 6 * j + 6 = 45171 + 6 * (j + 1) := by omega
    rw [e1, e2, e3]
    exact kk cb1 w1 o1 ht h1
  refine AWL.one (pc := 40) hM hRm rfl ?_
  show zsw (xs (7 * j) &&& 31) (fun p => AW Z (298 + j) (45171 + 6 * j) p [some (.ref 2000000), some (.ref 0), some (.ref 272), some (.ref 297), some (.int (nI (7 * j))), none, none] [] (zW cb w o)) 1188 [(0, 168), (1, 315), (2, 328), (3, 341), (4, 378), (5, 415), (6, 452), (7, 489), (8, 514), (9, 551), (10, 564), (11, 577), (12, 590), (13, 615), (14, 628), (15, 665), (16, 690), (17, 727), (18, 819), (19, 844), (20, 893), (21, 906), (22, 931), (23, 944), (24, 969), (25, 1061), (26, 1110), (27, 1163)]
  refine zsw_all ?_ (AW.wide (by omega) (by omega) (kb cb w o h))
  exact List.forall_mem_cons.mpr ⟨law_c0 hZ hR hN hT hS (by omega) (by omega) ht hL h kb, List.forall_mem_cons.mpr ⟨law_c1 hZ hR hN hT hS (by omega) (by omega) ht hL h kb, List.forall_mem_cons.mpr ⟨law_c2 hZ hR hN hT hS (by omega) (by omega) ht hL h kb, List.forall_mem_cons.mpr ⟨law_c3 hZ hR hN hT hS (by omega) (by omega) ht hL h kb, List.forall_mem_cons.mpr ⟨law_c4 hZ hR hN hT hS (by omega) (by omega) ht hL h kb, List.forall_mem_cons.mpr ⟨law_c5 hZ hR hN hT hS (by omega) (by omega) ht hL h kb, List.forall_mem_cons.mpr ⟨law_c6 hZ hR hN hT hS (by omega) (by omega) ht hL h kb, List.forall_mem_cons.mpr ⟨law_c7 hZ hR hN hT hS (by omega) (by omega) ht hL h kb, List.forall_mem_cons.mpr ⟨law_c8 hZ hR hN hT hS (by omega) (by omega) ht hL h kb, List.forall_mem_cons.mpr ⟨law_c9 hZ hR hN hT hS (by omega) (by omega) ht hL h kb, List.forall_mem_cons.mpr ⟨law_c10 hZ hR hN hT hS (by omega) (by omega) ht hL h kb, List.forall_mem_cons.mpr ⟨law_c11 hZ hR hN hT hS (by omega) (by omega) ht hL h kb, List.forall_mem_cons.mpr ⟨law_c12 hZ hR hN hT hS (by omega) (by omega) ht hL h kb, List.forall_mem_cons.mpr ⟨law_c13 hZ hR hN hT hS (by omega) (by omega) ht hL h kb, List.forall_mem_cons.mpr ⟨law_c14 hZ hR hN hT hS (by omega) (by omega) ht hL h kb, List.forall_mem_cons.mpr ⟨law_c15 hZ hR hN hT hS (by omega) (by omega) ht hL h kb, List.forall_mem_cons.mpr ⟨law_c16 hZ hR hN hT hS (by omega) (by omega) ht hL h kb, List.forall_mem_cons.mpr ⟨law_c17 hZ hR hN hT hS (by omega) (by omega) ht hL h kb, List.forall_mem_cons.mpr ⟨law_c18 hZ hR hN hT hS (by omega) (by omega) ht hL h kb, List.forall_mem_cons.mpr ⟨law_c19 hZ hR hN hT hS (by omega) (by omega) ht hL h kb, List.forall_mem_cons.mpr ⟨law_c20 hZ hR hN hT hS (by omega) (by omega) ht hL h kb, List.forall_mem_cons.mpr ⟨law_c21 hZ hR hN hT hS (by omega) (by omega) ht hL h kb, List.forall_mem_cons.mpr ⟨law_c22 hZ hR hN hT hS (by omega) (by omega) ht hL h kb, List.forall_mem_cons.mpr ⟨law_c23 hZ hR hN hT hS (by omega) (by omega) ht hL h kb, List.forall_mem_cons.mpr ⟨law_c24 hZ hR hN hT hS (by omega) (by omega) ht hL h kb, List.forall_mem_cons.mpr ⟨law_c25 hZ hR hN hT hS (by omega) (by omega) ht hL h kb, List.forall_mem_cons.mpr ⟨law_c26 hZ hR hN hT hS (by omega) (by omega) ht hL h kb, List.forall_mem_cons.mpr ⟨law_c27 hZ hR hN hT hS (by omega) (by omega) ht hL h kb, fun _ h9 => absurd h9 List.not_mem_nil⟩⟩⟩⟩⟩⟩⟩⟩⟩⟩⟩⟩⟩⟩⟩⟩⟩⟩⟩⟩⟩⟩⟩⟩⟩⟩⟩⟩
set_option maxRecDepth 40000 in
set_option maxHeartbeats 8000000 in
theorem law_loop {Z : zCtx} {L : Nat} {xs : Nat → Int32} (hZ : zOkL Z (zLM [])) (hR : zCan Z 1200 601024 7293033) (hN : zNew Z 0 298) (hT : zThrL Z) (hS : zScr Z L xs) (hE : zLawEnd Z) (hL : L ≤ 3584) : ∀ (f j : Nat) (cb : List zE) (w : VR) (o : Nat → Int64), L ≤ 7 * j + f → 7 * j ≤ L → zRel cb w → AW Z (298 + j) (45171 + 6 * j) 23 [some (.ref 2000000), some (.ref 0), some (.ref 272), some (.ref 297), some (.int (nI (7 * j))), none, none] [] (zW cb w o)
  | 0, j, cb, w, o, hf, hj, h => law_body hZ hR hN hT hS hE hL j hj h (fun _ _ _ ht _ => absurd ht (by omega))
  | f + 1, j, cb, w, o, hf, hj, h => law_body hZ hR hN hT hS hE hL j hj h (fun cb1 w1 o1 ht h1 => law_loop hZ hR hN hT hS hE hL f (j + 1) cb1 w1 o1 (by omega) (by omega) h1)
