/-! helpers, walked -/
section ZLST
variable {Z : zCtx} {M : zMth} {k n pc : Nat} {lv : List (Option Value)} {st : List Value} {cs : List zE} {it : zIt}
/-- one row of the small machine, whatever it is, by what it leaves -/
theorem AWL.one (hZ : zOkL Z M) (hcl : zRoom Z k n) (hit : zget M.2.2.2.2.1 pc = some it) (h : zstep it pc lv st cs (AW Z k n) (AW Z k n pc lv st cs)) : AW Z k n pc lv st cs := by
  obtain ⟨h1, rfl⟩ := zget_mem hit
  exact zstep_soundL hZ hcl h1 (fun _ _ _ _ h9 => h9) (fun h9 => h9) h
theorem AWL.lst {x : Int64} {i : Int32} {q N : Nat} {f : Nat → Int64} (hZ : zOkL Z M) (hcl : zRoom Z k n) (hit : zget M.2.2.2.2.1 pc = some it) (hop : it.2.1 = .lastore) (hq : cs[q]? = some (.inl (1, N, .inr (.inl f)))) (hin : vp_in i N)
    (kk : AW Z k n (pc + 1) lv st (cs.set q (.inl (1, N, .inr (.inl (vp_updL f i.toNatClampNeg x)))))) : AW Z k n pc lv (.long x :: .int i :: .ref q :: st) cs := by
  refine AWL.one hZ hcl hit ?_
  obtain ⟨pc, op, len, v, a, b, c, sw⟩ := it
  dsimp only at hop
  subst hop
  unfold zstep
  simp only [hq]
  exact ⟨hin, kk⟩
end ZLST
def zCL : zCls := ("BorrowedLivesLaw", [], [(22, .long 4294967295, 1998)], [])
theorem zCL_ok : zCok zCL = true := by decide +kernel
def zML_deeds : zMth := (⟨"BorrowedLivesLaw", "deeds", "(LBorrowedLives;IIII[J)I"⟩, method_3_code, 7, some .int, [(0, .aload 5, 2, .null, 0, 0, 0, []), (2, .iconst 0, 1, .int 0, 0, 0, 0, []), (3, .aload_n 0, 1, .null, 0, 0, 0, []), (4, .iload_n 1, 1, .null, 0, 0, 0, []), (5, .iload_n 2, 1, .null, 0, 0, 0, []), (6, .iload_n 3, 1, .null, 0, 0, 0, []), (7, .iload 4, 2, .null, 0, 0, 0, []), (9, .invokevirtual 7, 3, .null, 0, 0, 0, []), (12, .i2l, 1, .null, 0, 0, 0, []), (13, .lastore, 1, .null, 0, 0, 0, []), (14, .goto 7, 3, .null, 21, 0, 0, []), (21, .iconst 0, 1, .int 0, 0, 0, 0, []), (22, .ireturn, 1, .null, 0, 0, 0, [])], zCL)
theorem zML_deeds_ok : zMokL zML_deeds := ⟨by decide +kernel, by decide +kernel, zCL_ok, rfl, trivial, by decide +kernel⟩
set_option maxRecDepth 40000 in
set_option maxHeartbeats 8000000 in
theorem c_Law_deeds {cb : List zE} {w : VR} {o : Nat → Int64} {P1 : Option Value → List zE → Prop} {X1 : List zE → Prop} (a1 a2 a3 a4 : Int32) (hlen : cb.length = 272) (hrv : ∃ fs : List Value, cb[0]? = some (.inr (11, fs))) (hC : CtX zMX11_deeds 6 1 6 [.ref 0, .int a1, .int a2, .int a3, .int a4] cb P1 X1) (hP1 : ∀ v cc, P1 v cc → ∃ b : Int32, v = some (.int b)) (hX1 : ∀ cc, X1 cc → cc = cb) : CtW zML_deeds zHH 7 1 6 [.ref 0, .int a1, .int a2, .int a3, .int a4, .ref 297] (zW cb w o) (fun v cc => (∃ (b : Int32) (cb1 : List zE), P1 (some (.int b)) cb1 ∧ cb1.length = cb.length ∧ v = some (.int 0) ∧ cc = zW cb1 w (vp_updL o 0 b.toInt64)) ∨ (X1 cb ∧ v = some (.int 1) ∧ cc = zW cb w o)) := by
  refine CtW.of zML_deeds_ok (by decide) (Nat.le_of_ble_eq_true rfl) ?_
  intro Z hZ hR hN hE hT hB
  obtain ⟨fs, hrv⟩ := hrv
  have hRm : zRoom Z 0 0 := zRoom0 Z
  have hRm1 : zRoom Z 1 6 := zRoom_of hR (by decide) (by decide)
  have hzl : ∀ (c9 : List zE) (w9 : VR) (o9 : Nat → Int64), (zW c9 w9 o9).length = c9.length + 26 := fun c9 w9 o9 => by simp [zW, kR]
  have hz : ∀ (c9 : List zE) (w9 : VR) (o9 : Nat → Int64), c9.length = 272 → (zW c9 w9 o9)[297]? = some (.inl (1, 1, .inr (.inl o9))) := fun c9 w9 o9 h9 => by
    unfold zW
    rw [List.getElem?_append_right (by omega), h9]
    rfl
  have hzs : ∀ (c9 : List zE) (w9 : VR) (o9 o8 : Nat → Int64), c9.length = 272 → (zW c9 w9 o9).set 297 (.inl (1, 1, .inr (.inl o8))) = zW c9 w9 o8 := fun c9 w9 o9 o8 h9 => by
    unfold zW
    rw [List.set_append_right _ _ (by omega), h9]
    rfl
  show AW Z 0 0 0 [some (.ref 0), some (.int a1), some (.int a2), some (.int a3), some (.int a4), some (.ref 297), none] [] (zW cb w o)
  refine AWL.run hZ hRm [9] 400 ?_
  show AW Z 0 0 9 [some (.ref 0), some (.int a1), some (.int a2), some (.int a3), some (.int a4), some (.ref 297), none] [.int a4, .int a3, .int a2, .int a1, .ref 0, .int 0, .ref 297] (zW cb w o)
  show AW Z 0 0 9 [some (.ref 0), some (.int a1), some (.int a2), some (.int a3), some (.int a4), some (.ref 297), none] [.int a4, .int a3, .int a2, .int a1, .ref 0, .int 0, .ref 297] (cb ++ (kR 272 w ++ [.inl (1, 1, .inr (.inl o))]))
  refine AWL.callXP (k := 0) (n := 0) (pc := 9) (idx := 7) (ci := 11) (r9 := kR 272 w ++ [.inl (1, 1, .inr (.inl o))]) (rest := [.int 0, .ref 297]) hZ hR hT hC zMX11_deeds_ok rfl rfl (zIn_mem (k := 1287) (by decide +kernel)) (np := 4) ⟨⟨zIn_mem (k := 107) (by decide +kernel), by decide +kernel, by decide +kernel, by decide +kernel⟩, zIn_mem (k := 1288) (by decide +kernel), zIn_mem (k := 1289) (by decide +kernel)⟩ rfl (by omega) (by decide) (by decide) (by decide) (by decide) rfl rfl hrv rfl rfl (fun cc1 hx _ => ?_) (fun v cc1 hp hl1 => ?_)
  · have hx2 := hX1 cc1 hx
    subst hx2
    exact AX.caught hZ hE hT hB rfl rfl rfl (by decide +kernel) (by decide +kernel) (by decide +kernel) (by decide) (by decide) rfl (Or.inr ⟨hx, rfl, rfl⟩)
  · obtain ⟨b, rfl⟩ := hP1 v cc1 hp
    show AW Z 1 6 12 [some (.ref 0), some (.int a1), some (.int a2), some (.int a3), some (.int a4), some (.ref 297), none] [.int b, .int 0, .ref 297] (zW cc1 w o)
    refine AWL.run hZ hRm1 [13] 400 ?_
    show AW Z 1 6 13 [some (.ref 0), some (.int a1), some (.int a2), some (.int a3), some (.int a4), some (.ref 297), none] [.long b.toInt64, .int 0, .ref 297] (zW cc1 w o)
    refine AWL.lst hZ hRm1 rfl rfl (hz cc1 w o (by omega)) (show ¬ ((0 : Int32) < 0 ∨ 1 ≤ Int32.toNatClampNeg 0) from by decide) ?_
    rw [hzs cc1 w o _ (by omega)]
    refine AWL.run hZ hRm1 [22] 400 ?_
    show AW Z 1 6 22 [some (.ref 0), some (.int a1), some (.int a2), some (.int a3), some (.int a4), some (.ref 297), none] [.int 0] (zW cc1 w (vp_updL o 0 b.toInt64))
    exact AWL.iret hZ hE rfl rfl rfl rfl (by decide) (by decide) (by rw [hzl, hzl]; omega) (Or.inl ⟨b, cc1, hp, hl1, rfl, rfl⟩)
def zML_rests : zMth := (⟨"BorrowedLivesLaw", "rests", "(LBorrowedLives;IIII[J)I"⟩, method_4_code, 7, some .int, [(0, .aload 5, 2, .null, 0, 0, 0, []), (2, .iconst 0, 1, .int 0, 0, 0, 0, []), (3, .aload_n 0, 1, .null, 0, 0, 0, []), (4, .iload_n 1, 1, .null, 0, 0, 0, []), (5, .iload_n 2, 1, .null, 0, 0, 0, []), (6, .iload_n 3, 1, .null, 0, 0, 0, []), (7, .iload 4, 2, .null, 0, 0, 0, []), (9, .invokevirtual 15, 3, .null, 0, 0, 0, []), (12, .i2l, 1, .null, 0, 0, 0, []), (13, .lastore, 1, .null, 0, 0, 0, []), (14, .goto 7, 3, .null, 21, 0, 0, []), (21, .iconst 0, 1, .int 0, 0, 0, 0, []), (22, .ireturn, 1, .null, 0, 0, 0, [])], zCL)
theorem zML_rests_ok : zMokL zML_rests := ⟨by decide +kernel, by decide +kernel, zCL_ok, rfl, trivial, by decide +kernel⟩
set_option maxRecDepth 40000 in
set_option maxHeartbeats 8000000 in
theorem c_Law_rests {cb : List zE} {w : VR} {o : Nat → Int64} {P1 : Option Value → List zE → Prop} {X1 : List zE → Prop} (a1 a2 a3 a4 : Int32) (hlen : cb.length = 272) (hrv : ∃ fs : List Value, cb[0]? = some (.inr (11, fs))) (hC : CtX zMX11_rests 6 1 6 [.ref 0, .int a1, .int a2, .int a3, .int a4] cb P1 X1) (hP1 : ∀ v cc, P1 v cc → ∃ b : Int32, v = some (.int b)) (hX1 : ∀ cc, X1 cc → cc = cb) : CtW zML_rests zHH 7 1 6 [.ref 0, .int a1, .int a2, .int a3, .int a4, .ref 297] (zW cb w o) (fun v cc => (∃ (b : Int32) (cb1 : List zE), P1 (some (.int b)) cb1 ∧ cb1.length = cb.length ∧ v = some (.int 0) ∧ cc = zW cb1 w (vp_updL o 0 b.toInt64)) ∨ (X1 cb ∧ v = some (.int 1) ∧ cc = zW cb w o)) := by
  refine CtW.of zML_rests_ok (by decide) (Nat.le_of_ble_eq_true rfl) ?_
  intro Z hZ hR hN hE hT hB
  obtain ⟨fs, hrv⟩ := hrv
  have hRm : zRoom Z 0 0 := zRoom0 Z
  have hRm1 : zRoom Z 1 6 := zRoom_of hR (by decide) (by decide)
  have hzl : ∀ (c9 : List zE) (w9 : VR) (o9 : Nat → Int64), (zW c9 w9 o9).length = c9.length + 26 := fun c9 w9 o9 => by simp [zW, kR]
  have hz : ∀ (c9 : List zE) (w9 : VR) (o9 : Nat → Int64), c9.length = 272 → (zW c9 w9 o9)[297]? = some (.inl (1, 1, .inr (.inl o9))) := fun c9 w9 o9 h9 => by
    unfold zW
    rw [List.getElem?_append_right (by omega), h9]
    rfl
  have hzs : ∀ (c9 : List zE) (w9 : VR) (o9 o8 : Nat → Int64), c9.length = 272 → (zW c9 w9 o9).set 297 (.inl (1, 1, .inr (.inl o8))) = zW c9 w9 o8 := fun c9 w9 o9 o8 h9 => by
    unfold zW
    rw [List.set_append_right _ _ (by omega), h9]
    rfl
  show AW Z 0 0 0 [some (.ref 0), some (.int a1), some (.int a2), some (.int a3), some (.int a4), some (.ref 297), none] [] (zW cb w o)
  refine AWL.run hZ hRm [9] 400 ?_
  show AW Z 0 0 9 [some (.ref 0), some (.int a1), some (.int a2), some (.int a3), some (.int a4), some (.ref 297), none] [.int a4, .int a3, .int a2, .int a1, .ref 0, .int 0, .ref 297] (zW cb w o)
  show AW Z 0 0 9 [some (.ref 0), some (.int a1), some (.int a2), some (.int a3), some (.int a4), some (.ref 297), none] [.int a4, .int a3, .int a2, .int a1, .ref 0, .int 0, .ref 297] (cb ++ (kR 272 w ++ [.inl (1, 1, .inr (.inl o))]))
  refine AWL.callXP (k := 0) (n := 0) (pc := 9) (idx := 15) (ci := 11) (r9 := kR 272 w ++ [.inl (1, 1, .inr (.inl o))]) (rest := [.int 0, .ref 297]) hZ hR hT hC zMX11_rests_ok rfl rfl (zIn_mem (k := 1384) (by decide +kernel)) (np := 4) ⟨⟨zIn_mem (k := 107) (by decide +kernel), by decide +kernel, by decide +kernel, by decide +kernel⟩, zIn_mem (k := 1385) (by decide +kernel), zIn_mem (k := 1386) (by decide +kernel)⟩ rfl (by omega) (by decide) (by decide) (by decide) (by decide) rfl rfl hrv rfl rfl (fun cc1 hx _ => ?_) (fun v cc1 hp hl1 => ?_)
  · have hx2 := hX1 cc1 hx
    subst hx2
    exact AX.caught hZ hE hT hB rfl rfl rfl (by decide +kernel) (by decide +kernel) (by decide +kernel) (by decide) (by decide) rfl (Or.inr ⟨hx, rfl, rfl⟩)
  · obtain ⟨b, rfl⟩ := hP1 v cc1 hp
    show AW Z 1 6 12 [some (.ref 0), some (.int a1), some (.int a2), some (.int a3), some (.int a4), some (.ref 297), none] [.int b, .int 0, .ref 297] (zW cc1 w o)
    refine AWL.run hZ hRm1 [13] 400 ?_
    show AW Z 1 6 13 [some (.ref 0), some (.int a1), some (.int a2), some (.int a3), some (.int a4), some (.ref 297), none] [.long b.toInt64, .int 0, .ref 297] (zW cc1 w o)
    refine AWL.lst hZ hRm1 rfl rfl (hz cc1 w o (by omega)) (show ¬ ((0 : Int32) < 0 ∨ 1 ≤ Int32.toNatClampNeg 0) from by decide) ?_
    rw [hzs cc1 w o _ (by omega)]
    refine AWL.run hZ hRm1 [22] 400 ?_
    show AW Z 1 6 22 [some (.ref 0), some (.int a1), some (.int a2), some (.int a3), some (.int a4), some (.ref 297), none] [.int 0] (zW cc1 w (vp_updL o 0 b.toInt64))
    exact AWL.iret hZ hE rfl rfl rfl rfl (by decide) (by decide) (by rw [hzl, hzl]; omega) (Or.inl ⟨b, cc1, hp, hl1, rfl, rfl⟩)
