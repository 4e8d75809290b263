/-! ===== the law's start ===== -/
def zLS : List zIt := [(0, .new 8, 3, .null, 0, 0, 0, []), (3, .dup, 1, .null, 0, 0, 0, []), (4, .invokespecial 18, 3, .null, 0, 0, 0, []), (7, .astore_n 1, 1, .null, 0, 0, 0, []), (8, .new 19, 3, .null, 0, 0, 0, []), (11, .dup, 1, .null, 0, 0, 0, []), (12, .invokespecial 21, 3, .null, 0, 0, 0, []), (15, .astore_n 2, 1, .null, 0, 0, 0, []), (16, .iconst 1, 1, .int 1, 0, 0, 0, []), (17, .newarray .long, 2, .null, 0, 0, 0, []), (19, .astore_n 3, 1, .null, 0, 0, 0, []), (20, .iconst 0, 1, .int 0, 0, 0, 0, []), (21, .istore 4, 2, .null, 0, 0, 0, [])]
theorem zLS_ok : zMokL (zLM zLS) := ⟨by decide +kernel, by decide +kernel, zCL_ok, rfl, trivial, by decide +kernel⟩
theorem zrho_one (nf j : Nat) : zrho [0] 1 nf j = j := by
  rcases Nat.eq_zero_or_pos j with h | h
  · subst h; rfl
  · by_cases h2 : j < 1 + nf
    · have h3 := zrho_new (ps := [0]) (len := 1) (nf := nf) (i := j - 1) (by omega)
      rw [show [0].length + (j - 1) = j from by show 1 + (j - 1) = j; omega] at h3
      rw [h3]
      omega
    · exact zrho_far (by show 1 + nf ≤ j; omega)
theorem zrho_last (q nf j : Nat) : zrho [q] (q + 1) nf j = zsh q (1 + nf) j := by
  unfold zsh
  by_cases h : j < 1 + nf
  · have h1 : Nat.blt j (1 + nf) = true := by simp [h]
    rw [h1]
    rcases Nat.eq_zero_or_pos j with h2 | h2
    · subst h2; rfl
    · have h3 := zrho_new (ps := [q]) (len := q + 1) (nf := nf) (i := j - 1) (by omega)
      rw [show [q].length + (j - 1) = j from by show 1 + (j - 1) = j; omega] at h3
      rw [h3]
      show q + 1 + (j - 1) = q + j
      omega
  · have h1 : Nat.blt j (1 + nf) = false := by
      cases h9 : Nat.blt j (1 + nf) with
      | false => rfl
      | true => exact absurd (Nat.le_of_ble_eq_true h9) (by omega)
    rw [h1]
    exact zrho_far (by show 1 + nf ≤ j; omega)
theorem zjoin_last (cb : List zE) (o e : zE) (es : List zE) : zjoin (cb ++ [o]) [cb.length] (e :: es) = cb ++ (e :: es) := by
  have h1 : (cb ++ [o]).set cb.length e = cb ++ [e] := by
    have h := zset_app cb [o] 0 e
    simpa using h
  have h0 : ∀ c : List zE, zset c [] es = c := fun c => by simp [zset]
  unfold zjoin
  show zset ((cb ++ [o]).set cb.length e) [] es ++ es = cb ++ (e :: es)
  rw [h1, h0]
  simp
set_option maxRecDepth 40000 in
set_option maxHeartbeats 8000000 in
theorem law_begin {Z : zCtx} {L : Nat} {xs : Nat → Int32} (hZ : zOkL Z (zLM [])) (hR : zCan Z 1200 601024 7293033) (hN : zNew Z 0 298) (hT : zThrL Z) (hS : zScr Z L xs) (hE : zLawEnd Z) (hO : zAO Z) (hL : L ≤ 3584) : AW Z 0 0 0 [some (.ref 2000000), none, none, none, none, none, none] [] [] := by
  have hM := hZ.re zLS_ok
  obtain ⟨R1, R2, h1, h2, hrel⟩ := jj_new
  have cB := c_Bl_init
  have cR := c_R_init 10000 R1 h1 R2 h2
  generalize hwR : R_s_lines_state_undos_isMarked_signed_lotRows_lotRow_lotsMany (R_towns_s dR R1) R2.1 R2.2.1 R2.2.2.1 R2.2.2.2.1 R2.2.2.2.2.1 R2.2.2.2.2.2.1 R2.2.2.2.2.2.2.1 R2.2.2.2.2.2.2.2 = wR at cR hrel
  have hlen := zRel.len hrel
  generalize hcb : (zBcs dBl dTape dTown dLaws dReader dTown dLaws dYear dYear dLots dLives dLives dTales dForecast dLives dDeeds dPairs (fun _ => dLives) (fun _ => dLives) (fun _ => dTales)) = cb at cB hrel hlen
  refine AWL.new (pc := 0) (idx := 8) (ci := 11) (N := 18) (C := "BorrowedLives") (T := zT11) (fs := [.null, .null, .null, .null, .null, .null, .null, .null, .null, .int 0, .int 0, .null, .null, .null, .null, .null, .null, .null]) hM hR hN rfl rfl rfl (zIn_mem (k := 132) (by decide +kernel)) (zIn_mem (k := 133) (by decide +kernel)) (zIn_mem (k := 107) (by decide +kernel)) rfl (by decide) (by decide) (by decide) rfl rfl ?_
  show AW Z 1 18 3 [some (.ref 2000000), none, none, none, none, none, none] [.ref 0] [.inr (11, [.null, .null, .null, .null, .null, .null, .null, .null, .null, .int 0, .int 0, .null, .null, .null, .null, .null, .null, .null])]
  refine AWL.run hM (zRoom_of hR (by decide) (by decide)) [4] 400 ?_
  show AW Z 1 18 4 [some (.ref 2000000), none, none, none, none, none, none] [.ref 0, .ref 0] [.inr (11, [.null, .null, .null, .null, .null, .null, .null, .null, .null, .int 0, .int 0, .null, .null, .null, .null, .null, .null, .null])]
  refine AWL.callIA (pc := 4) (idx := 18) (rest := [.ref 0]) (np := 0) hM hR hN hO cB zMX11_init_ok rfl rfl rfl (Or.inl (zIn_mem (k := 134) (by decide +kernel))) ⟨⟨zIn_mem (k := 107) (by decide +kernel), by decide +kernel, by decide +kernel, by decide +kernel⟩, rfl, zIn_mem (k := 135) (by decide +kernel)⟩ rfl [0] rfl (by decide) (Or.inr ⟨rfl, by decide⟩) (by decide) (by decide) (by decide) (by decide) (by decide) rfl rfl (fun v cc1 hv hl1 => ?_)
  obtain ⟨rfl, rfl⟩ := hv
  have hj : zjoin [.inr (11, [.null, .null, .null, .null, .null, .null, .null, .null, .null, .int 0, .int 0, .null, .null, .null, .null, .null, .null, .null])] [0] (cc1.map (zre (zrho [0] 1 271))) = cc1 := by
    rw [zres_id (zrho_one 271)]
    cases cc1 with
    | nil => simp at hlen
    | cons e es => exact zjoin_last [] _ e es
  have hj2 : zjoin [.inr (11, [.null, .null, .null, .null, .null, .null, .null, .null, .null, .int 0, .int 0, .null, .null, .null, .null, .null, .null, .null])] [0] (cc1.map (zre (zrho [0] [(.inr (11, [.null, .null, .null, .null, .null, .null, .null, .null, .null, .int 0, .int 0, .null, .null, .null, .null, .null, .null, .null]) : zE)].length 271))) = cc1 := hj
  rw [hj2]
  show AW Z 272 31319 7 [some (.ref 2000000), none, none, none, none, none, none] [.ref 0] cc1
  refine AWL.run hM (zRoom_of hR (by decide) (by decide)) [8] 400 ?_
  show AW Z 272 31319 8 [some (.ref 2000000), some (.ref 0), none, none, none, none, none] [] cc1
  refine AWL.new (pc := 8) (idx := 19) (ci := 12) (N := 43) (C := "BorrowedLivesModel") (T := zT12) (fs := [.int 0, .null, .int 0, .int 0, .null, .null, .null, .int 0, .int 0, .null, .null, .null, .null, .int 0, .null, .null, .int 0, .int 0, .int 0, .int 0, .null, .null, .null, .null, .int 0, .null, .int 0, .null, .null, .int 0, .long 0, .null, .null, .int 0, .int 0, .int 0, .null, .null, .null, .int 0, .null, .null, .int 0]) hM hR hN rfl rfl rfl (zIn_mem (k := 1409) (by decide +kernel)) (zIn_mem (k := 1407) (by decide +kernel)) (zIn_mem (k := 119) (by decide +kernel)) (by rw [hlen]) (by decide) (by decide) (by decide) rfl rfl ?_
  rw [hlen]
  show AW Z 273 31362 11 [some (.ref 2000000), some (.ref 0), none, none, none, none, none] [.ref 272] (cc1 ++ [.inr (12, [.int 0, .null, .int 0, .int 0, .null, .null, .null, .int 0, .int 0, .null, .null, .null, .null, .int 0, .null, .null, .int 0, .int 0, .int 0, .int 0, .null, .null, .null, .null, .int 0, .null, .int 0, .null, .null, .int 0, .long 0, .null, .null, .int 0, .int 0, .int 0, .null, .null, .null, .int 0, .null, .null, .int 0])])
  refine AWL.run hM (zRoom_of hR (by decide) (by decide)) [12] 400 ?_
  show AW Z 273 31362 12 [some (.ref 2000000), some (.ref 0), none, none, none, none, none] [.ref 272, .ref 272] (cc1 ++ [.inr (12, [.int 0, .null, .int 0, .int 0, .null, .null, .null, .int 0, .int 0, .null, .null, .null, .null, .int 0, .null, .null, .int 0, .int 0, .int 0, .int 0, .null, .null, .null, .null, .int 0, .null, .int 0, .null, .null, .int 0, .long 0, .null, .null, .int 0, .int 0, .int 0, .null, .null, .null, .int 0, .null, .null, .int 0])])
  have hcl : (cc1 ++ [(.inr (12, [.int 0, .null, .int 0, .int 0, .null, .null, .null, .int 0, .int 0, .null, .null, .null, .null, .int 0, .null, .null, .int 0, .int 0, .int 0, .int 0, .null, .null, .null, .null, .int 0, .null, .int 0, .null, .null, .int 0, .long 0, .null, .null, .int 0, .int 0, .int 0, .null, .null, .null, .int 0, .null, .null, .int 0]) : zE)]).length = 273 := by rw [List.length_append, hlen]; rfl
  have hrho : ∀ j, zrho [272] 273 24 j = zsh 272 25 j := fun j => zrho_last 272 24 j
  refine AWL.callI (pc := 12) (idx := 21) (rest := [.ref 272]) (np := 0) hM hR hN cR zMX12_init_ok rfl rfl rfl (Or.inl (zIn_mem (k := 1410) (by decide +kernel))) ⟨⟨zIn_mem (k := 119) (by decide +kernel), by decide +kernel, by decide +kernel, by decide +kernel⟩, rfl, zIn_mem (k := 1411) (by decide +kernel)⟩ rfl [272] (by rw [hcl]; show [(cc1 ++ [(.inr (12, [.int 0, .null, .int 0, .int 0, .null, .null, .null, .int 0, .int 0, .null, .null, .null, .null, .int 0, .null, .null, .int 0, .int 0, .int 0, .int 0, .null, .null, .null, .null, .int 0, .null, .int 0, .null, .null, .int 0, .long 0, .null, .null, .int 0, .int 0, .int 0, .null, .null, .null, .int 0, .null, .null, .int 0]) : zE)])[272]?] = _; rw [List.getElem?_append_right (by omega), hlen]; rfl) (by decide) (Or.inr ⟨by rw [hcl], by decide⟩) (by decide) (by decide) (by decide) (by decide) (by decide) (by rw [hcl]; rfl) rfl (fun v cc2 hv hl2 => ?_)
  obtain ⟨rfl, rfl⟩ := hv
  have hjR : zjoin (cc1 ++ [(.inr (12, [.int 0, .null, .int 0, .int 0, .null, .null, .null, .int 0, .int 0, .null, .null, .null, .null, .int 0, .null, .null, .int 0, .int 0, .int 0, .int 0, .null, .null, .null, .null, .int 0, .null, .int 0, .null, .null, .int 0, .long 0, .null, .null, .int 0, .int 0, .int 0, .null, .null, .null, .int 0, .null, .null, .int 0]) : zE)]) [272] ((([kR 0 wR] : List (List zE)).flatten).map (zre (zrho [272] (cc1 ++ [(.inr (12, [.int 0, .null, .int 0, .int 0, .null, .null, .null, .int 0, .int 0, .null, .null, .null, .null, .int 0, .null, .null, .int 0, .int 0, .int 0, .int 0, .null, .null, .null, .null, .int 0, .null, .int 0, .null, .null, .int 0, .long 0, .null, .null, .int 0, .int 0, .int 0, .null, .null, .null, .int 0, .null, .null, .int 0]) : zE)]).length 24))) = cc1 ++ kR 272 wR := by
    rw [hcl, show zrho [272] 273 24 = zsh 272 25 from funext hrho]
    have e : (([kR 0 wR] : List (List zE)).flatten).map (zre (zsh 272 25)) = kR 272 wR := rfl
    rw [e]
    obtain ⟨e9, es9, e3⟩ : ∃ (e9 : zE) (es9 : List zE), kR 272 wR = e9 :: es9 := ⟨_, _, rfl⟩
    rw [e3]
    have e2 := zjoin_last cc1 (.inr (12, [.int 0, .null, .int 0, .int 0, .null, .null, .null, .int 0, .int 0, .null, .null, .null, .null, .int 0, .null, .null, .int 0, .int 0, .int 0, .int 0, .null, .null, .null, .null, .int 0, .null, .int 0, .null, .null, .int 0, .long 0, .null, .null, .int 0, .int 0, .int 0, .null, .null, .null, .int 0, .null, .null, .int 0])) e9 es9
    rw [hlen] at e2
    exact e2
  rw [hjR]
  show AW Z 297 45170 15 [some (.ref 2000000), some (.ref 0), none, none, none, none, none] [.ref 272] (cc1 ++ kR 272 wR)
  refine AWL.run hM (zRoom_of hR (by decide) (by decide)) [17] 400 ?_
  show AW Z 297 45170 17 [some (.ref 2000000), some (.ref 0), some (.ref 272), none, none, none, none] [.int 1] (cc1 ++ kR 272 wR)
  have hcl2 : (cc1 ++ kR 272 wR).length = 297 := by rw [List.length_append, hlen]; rfl
  refine AWL.newa (pc := 17) (atype := .long) (t := 1) (N := 1) (ty := .long) (a0 := (1, .inr (.inl (fun _ => 0)))) hM hR hN rfl rfl rfl rfl (fun C h => by cases h) (zIn_mem (k := 176) (by decide +kernel)) (fun _ _ => rfl) (by decide) (by decide) (by decide) (by rw [hcl2]) (by decide) (by decide) (by decide) ?_
  rw [hcl2, List.append_assoc]
  show AW Z 298 45171 19 [some (.ref 2000000), some (.ref 0), some (.ref 272), none, none, none, none] [.ref 297] (zW cc1 wR (fun _ => 0))
  refine AWL.run hM (zRoom_of hR (by decide) (by decide)) [23] 400 ?_
  show AW Z 298 45171 23 [some (.ref 2000000), some (.ref 0), some (.ref 272), some (.ref 297), some (.int 0), none, none] [] (zW cc1 wR (fun _ => 0))
  exact law_loop hZ hR hN hT hS hE hL L 0 cc1 wR (fun _ => 0) (by omega) (by omega) hrel
def zFl : List Cond := flatC (Jvm.Cond.and given_1 narrow_1)
def zTm (i : Nat) : Term := match i with
  | 0 => .string "BorrowedLives$Tape" 59
  | _ => .string "BorrowedLives$Tape" 69
set_option maxRecDepth 40000 in
theorem zel_ok : ∀ i, i < 2 → ∀ j, j < ([8, 216] : List Nat).getD i 0 → zFl[if i = 0 then 278 + j else 58 + j]? = some (Cond.eq (.elem (.field (zTm i) "java/lang/String" "value" "[B") (.int (Int32.ofNat j))) (.int ((([zS0, zS1] : List (List Int32)).getD i []).getD j 0))) := by decide +kernel
theorem law_K {s : State} {args : Array Value} (hts : ∀ w ∈ lw_tbl, w.before args s = true) : ∃ (D : va_G) (dA : Nat → ClassId), va_K D zcl (zty dA) s := by
  have hts9 : ∀ w ∈ zTg, w.before args s = true := fun w hw => hts w (List.mem_filter.mp hw).1
  have h0 : ∀ k : Nat, ∃ q : ClassId × (Nat → Nat), ∀ r : vw_C, zcl[k]? = some r → u_Kn s r.1 r.2.1 r.2.2 q.1 q.2 := by
    intro k
    have h1 : ∀ r : vw_C, zcl[k]? = some r → ∃ (c : ClassId) (i : Nat → Nat), u_Kn s r.1 r.2.1 r.2.2 c i := fun r hr => match k, hr with
      | 0, hr => by cases hr; exact u_known (n := 2) hts9 (zcl_ws (ci := 0) rfl) (hts _ (List.mem_of_getElem? (i := 478) (by decide +kernel)))
      | 1, hr => by cases hr; exact u_known (n := 15) hts9 (zcl_ws (ci := 1) rfl) (hts _ (List.mem_of_getElem? (i := 418) (by decide +kernel)))
      | 2, hr => by cases hr; exact u_known (n := 6) hts9 (zcl_ws (ci := 2) rfl) (hts _ (List.mem_of_getElem? (i := 184) (by decide +kernel)))
      | 3, hr => by cases hr; exact u_known (n := 12) hts9 (zcl_ws (ci := 3) rfl) (hts _ (List.mem_of_getElem? (i := 330) (by decide +kernel)))
      | 4, hr => by cases hr; exact u_known (n := 4) hts9 (zcl_ws (ci := 4) rfl) (hts _ (List.mem_of_getElem? (i := 308) (by decide +kernel)))
      | 5, hr => by cases hr; exact u_known (n := 5) hts9 (zcl_ws (ci := 5) rfl) (hts _ (List.mem_of_getElem? (i := 492) (by decide +kernel)))
      | 6, hr => by cases hr; exact u_known (n := 4) hts9 (zcl_ws (ci := 6) rfl) (hts _ (List.mem_of_getElem? (i := 393) (by decide +kernel)))
      | 7, hr => by cases hr; exact u_known (n := 8) hts9 (zcl_ws (ci := 7) rfl) (hts _ (List.mem_of_getElem? (i := 141) (by decide +kernel)))
      | 8, hr => by cases hr; exact u_known (n := 12) hts9 (zcl_ws (ci := 8) rfl) (hts _ (List.mem_of_getElem? (i := 178) (by decide +kernel)))
      | 9, hr => by cases hr; exact u_known (n := 3) hts9 (zcl_ws (ci := 9) rfl) (hts _ (List.mem_of_getElem? (i := 269) (by decide +kernel)))
      | 10, hr => by cases hr; exact u_known (n := 4) hts9 (zcl_ws (ci := 10) rfl) (hts _ (List.mem_of_getElem? (i := 288) (by decide +kernel)))
      | 11, hr => by cases hr; exact u_known (n := 18) hts9 (zcl_ws (ci := 11) rfl) (hts _ (List.mem_of_getElem? (i := 133) (by decide +kernel)))
      | 12, hr => by cases hr; exact u_known (n := 43) hts9 (zcl_ws (ci := 12) rfl) (hts _ (List.mem_of_getElem? (i := 1407) (by decide +kernel)))
      | k + 13, hr => by simp [zcl] at hr
    cases hk : zcl[k]? with
    | none => exact ⟨(0, fun _ => 0), fun r hr => by cases hr⟩
    | some r =>
      obtain ⟨c, i, h2⟩ := h1 r hk
      exact ⟨(c, i), fun r2 hr => by cases hr; exact h2⟩
  obtain ⟨q, hq⟩ := Classical.axiomOfChoice h0
  have prim : ∀ (ty : FieldType), (∀ C, ty ≠ .object C) → (Cond.arrayClass ty).before args s = true → ∃ c : ClassId, ArrOfT s c ty ∧ va_RA s c ty := by
    intro ty hn h
    obtain ⟨c, kA, comp, e1, e2, e3⟩ := Cond.arrayClass_spec h
    refine ⟨c, fun n z => ⟨fun k h => (by cases h), kA, e2, comp, e3⟩, ?_⟩
    cases ty with
    | object C => exact absurd rfl (hn C)
    | _ => exact e1
  have obj : ∀ (C : String), (Cond.arrayOver (.object C)).before args s = true → ∃ c : ClassId, ArrOfT s c (.object C) ∧ va_RA s c (.object C) := by
    intro C h
    obtain ⟨comp, c, kA, e1, e2, e3, e4, e5⟩ := Cond.arrayOver_spec h
    exact ⟨c, fun n z => ⟨fun k h => (by cases h), kA, e3, comp, e4⟩, ⟨kA, comp, e3, e4, e1, e5⟩⟩
  obtain ⟨c0, a0⟩ := prim .int (fun C h => by cases h) (hts _ (List.mem_of_getElem? (i := 175) (by decide +kernel)))
  obtain ⟨c1, a1⟩ := prim .long (fun C h => by cases h) (hts _ (List.mem_of_getElem? (i := 176) (by decide +kernel)))
  obtain ⟨c2, a2⟩ := prim .char (fun C h => by cases h) (hts _ (List.mem_of_getElem? (i := 174) (by decide +kernel)))
  obtain ⟨c3, a3⟩ := prim .boolean (fun C h => by cases h) (hts _ (List.mem_of_getElem? (i := 476) (by decide +kernel)))
  obtain ⟨c4, a4⟩ := obj "BorrowedLives$Lives" (hts _ (List.mem_of_getElem? (i := 391) (by decide +kernel)))
  obtain ⟨c5, a5⟩ := obj "BorrowedLives$Tales" (hts _ (List.mem_of_getElem? (i := 416) (by decide +kernel)))
  refine ⟨(fun k => (q k).1, fun k => (q k).2), fun k => match k with | 0 => c0 | 1 => c1 | 2 => c2 | 3 => c3 | 4 => c4 | _ => c5, fun k r hr => hq k r hr, fun k r hr => ?_⟩
  match k, hr with
  | 0, hr => cases hr; exact a0
  | 1, hr => cases hr; exact a1
  | 2, hr => cases hr; exact a2
  | 3, hr => cases hr; exact a3
  | 4, hr => cases hr; exact a4
  | 5, hr => cases hr; exact a5
  | k + 6, hr => simp [zty, zTy] at hr
def zadr (sz : Nat) (adK adV : Nat → Nat) (aF b0 b1 b2 b3 b k : Nat) : Nat := if k < 1000000 then sz + k else if k < 1000010 then adK (k - 1000000) else if k < 1000020 then adV (k - 1000010) else if k = 1000020 then aF else if k = 1000030 then b0 else if k = 1000031 then b1 else if k = 1000032 then b2 else if k = 1000033 then b3 else b
theorem zadr_K {sz : Nat} {adK adV : Nat → Nat} {aF b0 b1 b2 b3 b i : Nat} (h : i < 10) : zadr sz adK adV aF b0 b1 b2 b3 b (1000000 + i) = adK i := by
  unfold zadr
  rw [if_neg (show ¬ 1000000 + i < 1000000 by omega), if_pos (show 1000000 + i < 1000010 by omega), Nat.add_sub_cancel_left]
theorem zadr_V {sz : Nat} {adK adV : Nat → Nat} {aF b0 b1 b2 b3 b i : Nat} (h : i < 10) : zadr sz adK adV aF b0 b1 b2 b3 b (1000010 + i) = adV i := by
  unfold zadr
  rw [if_neg (show ¬ 1000010 + i < 1000000 by omega), if_neg (show ¬ 1000010 + i < 1000010 by omega), if_pos (show 1000010 + i < 1000020 by omega), Nat.add_sub_cancel_left]
set_option maxRecDepth 40000 in
set_option maxHeartbeats 8000000 in
theorem law_am {s : State} {args : Array Value} (hts : ∀ w ∈ lw_tbl, w.before args s = true) (hgv : (Jvm.Cond.and given_1 narrow_1).before args s = true) (b : Nat) : ∃ adr : Nat → Nat, (∀ k, k < 1000000 → adr k = s.heap.size + k) ∧ adr 2000000 = b ∧ zAm adr (va_A ([] : va_W) s.heap.size) s s.heap ∧ zXA (va_A ([] : va_W) s.heap.size) s s.heap := by
  have hf : ∀ c ∈ zFl, c.before args s = true := flat_of_before _ hgv
  have hA : ∀ a : Nat, a < s.heap.size → ¬ va_A ([] : va_W) s.heap.size a := by
    intro a ha h
    rcases h with ⟨j, e, hj⟩ | h
    · simp at hj
    · omega
  obtain ⟨adK, adV, hS, hT⟩ := vk_Sof (args := args) (s := s) (N := 2) (tm := zTm) (len := [8, 216]) (byt := [zS0, zS1]) (A := va_A ([] : va_W) s.heap.size) (by decide)
    (fun i hi => match i, hi with | 0, _ => (hf _ (List.mem_of_getElem? (i := 274) (by decide +kernel))) | 1, _ => (hf _ (List.mem_of_getElem? (i := 54) (by decide +kernel))))
    (fun i hi => match i, hi with | 0, _ => (hf _ (List.mem_of_getElem? (i := 275) (by decide +kernel))) | 1, _ => (hf _ (List.mem_of_getElem? (i := 55) (by decide +kernel))))
    (fun i hi => match i, hi with | 0, _ => (hf _ (List.mem_of_getElem? (i := 276) (by decide +kernel))) | 1, _ => (hf _ (List.mem_of_getElem? (i := 56) (by decide +kernel))))
    (fun i hi => match i, hi with | 0, _ => (hf _ (List.mem_of_getElem? (i := 277) (by decide +kernel))) | 1, _ => (hf _ (List.mem_of_getElem? (i := 57) (by decide +kernel))))
    (fun i hi j hj => hf _ (List.mem_of_getElem? (zel_ok i hi j hj)))
    (fun i j hi hj hij => match i, j, hi, hj with | 0, 0, _, _ => absurd rfl hij | 1, 1, _, _ => absurd rfl hij | 0, 1, _, _ => Or.inr (hf _ (List.mem_of_getElem? (i := 286) (by decide +kernel))) | 1, 0, _, _ => Or.inl (hf _ (List.mem_of_getElem? (i := 286) (by decide +kernel)))) hA
  obtain ⟨b0, -, -, -, t0, -⟩ := Cond.exactly_spec (args := args) (first := s) (o := none) (s := s) (idx := []) (t := .string "BorrowedLives" 254) (cls := "java/lang/String") (hf _ (List.mem_of_getElem? (i := 287) (by decide +kernel)))
  obtain ⟨b1, -, -, -, t1, -⟩ := Cond.exactly_spec (args := args) (first := s) (o := none) (s := s) (idx := []) (t := .string "BorrowedLives" 259) (cls := "java/lang/String") (hf _ (List.mem_of_getElem? (i := 331) (by decide +kernel)))
  obtain ⟨b2, -, -, -, t2, -⟩ := Cond.exactly_spec (args := args) (first := s) (o := none) (s := s) (idx := []) (t := .string "BorrowedLives" 300) (cls := "java/lang/String") (hf _ (List.mem_of_getElem? (i := 350) (by decide +kernel)))
  obtain ⟨b3, -, -, -, t3, -⟩ := Cond.exactly_spec (args := args) (first := s) (o := none) (s := s) (idx := []) (t := .string "BorrowedLives" 306) (cls := "java/lang/String") (hf _ (List.mem_of_getElem? (i := 370) (by decide +kernel)))
  have hZq := va_Zqof (C := "jdk/internal/util/Preconditions") (n := "SIOOBE_FORMATTER") (d := zSIO) (A := va_A ([] : va_W) s.heap.size) (hts _ (List.mem_of_getElem? (i := 649) (by decide +kernel))) (hts _ (List.mem_of_getElem? (i := 123) (by decide +kernel))) (hf _ (List.mem_of_getElem? (i := 5) (by decide +kernel))) hA
  have hC := va_Zof (C := "java/lang/String") (n := "COMPACT_STRINGS") (d := "Z") (v := .int 1) (A := va_A ([] : va_W) s.heap.size) (hts _ (List.mem_of_getElem? (i := 629) (by decide +kernel))) (hts _ (List.mem_of_getElem? (i := 121) (by decide +kernel))) (va_eqi (hf _ (List.mem_of_getElem? (i := 4) (by decide +kernel)))) hA
  obtain ⟨aF, hF⟩ : ∃ aF : Nat, va_Z "jdk/internal/util/Preconditions" "SIOOBE_FORMATTER" zSIO .null (va_A ([] : va_W) s.heap.size) s s.heap ∨ va_Z "jdk/internal/util/Preconditions" "SIOOBE_FORMATTER" zSIO (.ref aF) (va_A ([] : va_W) s.heap.size) s s.heap := by
    rcases hZq with h | ⟨t, h⟩
    · exact ⟨0, Or.inl h⟩
    · exact ⟨t, Or.inr h⟩
  refine ⟨zadr s.heap.size adK adV aF b0 b1 b2 b3 b, fun k hk => if_pos hk, rfl, ⟨fun w hw => va_Nw.of (zNst_tab (List.mem_filter.mp hw).2) (hts w (List.mem_filter.mp hw).1), ?_, ?_, ?_, hC, ?_, ?_, ?_, ?_, ?_⟩, ?_⟩
  · obtain ⟨g1, g2⟩ := hS
    have eK : ∀ i : Nat, i < 2 → zadr s.heap.size adK adV aF b0 b1 b2 b3 b (1000000 + i) = adK i := fun i hi => zadr_K (by omega)
    have eV : ∀ i : Nat, i < 2 → zadr s.heap.size adK adV aF b0 b1 b2 b3 b (1000010 + i) = adV i := fun i hi => zadr_V (by omega)
    refine ⟨fun i hi => ?_, fun i j hi hj h => g2 i j hi hj ?_⟩
    · have g := g1 i hi
      dsimp only
      rw [eK i hi, eV i hi]
      exact g
    · dsimp only at h
      rw [eK i hi, eK j hj] at h
      exact h
  · exact vk_R.of (A := args) (hts _ (List.mem_of_getElem? (i := 676) (by decide +kernel))) (hT 0 (by decide))
  · exact vk_R.of (A := args) (hts _ (List.mem_of_getElem? (i := 619) (by decide +kernel))) (hT 1 (by decide))
  · exact hF
  · exact vk_R.of (A := args) (hts _ (List.mem_of_getElem? (i := 1330) (by decide +kernel))) t0
  · exact vk_R.of (A := args) (hts _ (List.mem_of_getElem? (i := 1356) (by decide +kernel))) t1
  · exact vk_R.of (A := args) (hts _ (List.mem_of_getElem? (i := 1391) (by decide +kernel))) t2
  · exact vk_R.of (A := args) (hts _ (List.mem_of_getElem? (i := 1395) (by decide +kernel))) t3
  · exact ⟨fun w hw => va_Nw.of (zXB_tab (List.all_eq_true.mp zXw_b w hw)) (hts w (zXat_tbl (List.mem_filter.mp hw).1)), vx_Zqof (hts _ (List.mem_of_getElem? (i := 1318) (by decide +kernel))) (hts _ (List.mem_of_getElem? (i := 128) (by decide +kernel))) (hf _ (List.mem_of_getElem? (i := 9) (by decide +kernel))) hA, vx_Zqof (hts _ (List.mem_of_getElem? (i := 1320) (by decide +kernel))) (hts _ (List.mem_of_getElem? (i := 128) (by decide +kernel))) (hf _ (List.mem_of_getElem? (i := 10) (by decide +kernel))) hA⟩
set_option maxRecDepth 40000 in
set_option maxHeartbeats 8000000 in
theorem whole_start {p : Program} {e : Env} {s : State} {m : MethodId} {below : List Frame} {meth : Method} {c : Code} (l : Launch) (hflags : l.flags = flags0) {b L : Nat} {xs : Nat → Int32} (hL : L ≤ 3584) (C0 : lw_At p s m meth c b L xs) : W p l e room_1 s m #[Value.ref b] below meth c s.heap [] 0 0 (lw_Z below #[Value.ref b] s) (entryFrame m ([Value.ref b] : List Value).toArray 7) := by
  obtain ⟨hx, hb, hr, hml, hown, hts, hX, hbl, hlocks, hgv⟩ := C0
  obtain ⟨D, dA, hK⟩ := law_K hts
  obtain ⟨adr, ha1, ha2, hAm, hXA⟩ := law_am hts hgv b
  have hst : l.stackTraces = false := by
    have e9 : flags0 = Jvm.pinnedFlags ++ [Jvm.noTraceFlag] := rfl
    unfold Launch.stackTraces
    rw [hflags]
    decide +kernel
  have hA : ∀ a : Nat, a < s.heap.size → ¬ va_A ([] : va_W) s.heap.size a := by
    intro a ha h
    rcases h with ⟨j, e, hj⟩ | h
    · simp at hj
    · omega
  have body := law_begin (Z := (l, p, e, room_1, s, m, #[Value.ref b], below, meth, c, D, dA, adr, va_A ([] : va_W) s.heap.size, lw_Z below #[Value.ref b] s)) (L := L) (xs := xs)
    ⟨hx, hb, hml, hr, hown, fun w hw => hts w (List.mem_filter.mp hw).1, hlocks, hK, fun q h => Or.inr h, hAm, ⟨by decide, by decide⟩, zLM0_ok, trivial⟩
    ⟨by decide, by decide, by decide, by decide⟩ ⟨fun i hi => by rw [Nat.zero_add]; exact ha1 i (by omega), [], rfl, rfl⟩ ⟨hXA, hst⟩ ⟨by rw [ha2]; exact hX, by rw [ha2]; exact hbl, by rw [ha2]; exact hA b hbl⟩ ⟨b, rfl, rfl, rfl, rfl⟩
    ⟨va_AO.of (hts (Cond.arrayOver (.object "BorrowedLives$Lives")) (List.mem_of_getElem? (i := 391) (by decide +kernel))), va_AO.of (hts (Cond.arrayOver (.object "BorrowedLives$Tales")) (List.mem_of_getElem? (i := 416) (by decide +kernel)))⟩ (Nat.le_trans hL (by decide))
  rw [lg_entry_eq]
  have hl := lv_entry ([Value.ref b]) (n := 7) (Nat.le_of_ble_eq_true rfl)
  refine body s.heap [] _ (fun i q hq => by simp [zws] at hq) ⟨fun i j q r hq => by simp [zws] at hq, fun i q hq => by simp [zws] at hq⟩ va_S.rf ⟨by rw [hml]; rfl, _, by rw [hml]; exact hl, fun i v hi => ?_⟩
  match i, hi with
  | 0, hi =>
    cases hi
    show (0, Value.ref (adr 2000000)) ∈ _
    rw [ha2]
    exact List.mem_cons_self
  | i + 1, hi =>
    exfalso
    match i, hi with
    | 0, hi => cases hi
    | 1, hi => cases hi
    | 2, hi => cases hi
    | 3, hi => cases hi
    | 4, hi => cases hi
    | 5, hi => cases hi
    | i + 6, hi => simp at hi
