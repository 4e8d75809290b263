/-! ===== the law's calls, one by one ===== -/
theorem zLM0_ok : zMokL (zLM []) := ⟨by decide +kernel, by decide +kernel, zCL_ok, rfl, trivial, by decide +kernel⟩
def zLC0 : List zIt := [(168, .aload_n 1, 1, .null, 0, 0, 0, []), (169, .aload_n 0, 1, .null, 0, 0, 0, []), (170, .iload 4, 2, .null, 0, 0, 0, []), (172, .iconst 1, 1, .int 1, 0, 0, 0, []), (173, .iadd, 1, .null, 0, 0, 0, []), (174, .iaload, 1, .null, 0, 0, 0, []), (175, .i2l, 1, .null, 0, 0, 0, []), (176, .bipush 32, 2, .int 32, 0, 0, 0, []), (178, .lshl, 1, .null, 0, 0, 0, []), (179, .aload_n 0, 1, .null, 0, 0, 0, []), (180, .iload 4, 2, .null, 0, 0, 0, []), (182, .iconst 2, 1, .int 2, 0, 0, 0, []), (183, .iadd, 1, .null, 0, 0, 0, []), (184, .iaload, 1, .null, 0, 0, 0, []), (185, .i2l, 1, .null, 0, 0, 0, []), (186, .ldc2_w 22, 3, .long 4294967295, 0, 0, 0, []), (189, .land, 1, .null, 0, 0, 0, []), (190, .lor, 1, .null, 0, 0, 0, []), (191, .aload_n 0, 1, .null, 0, 0, 0, []), (192, .iload 4, 2, .null, 0, 0, 0, []), (194, .iconst 3, 1, .int 3, 0, 0, 0, []), (195, .iadd, 1, .null, 0, 0, 0, []), (196, .iaload, 1, .null, 0, 0, 0, []), (197, .i2l, 1, .null, 0, 0, 0, []), (198, .bipush 32, 2, .int 32, 0, 0, 0, []), (200, .lshl, 1, .null, 0, 0, 0, []), (201, .aload_n 0, 1, .null, 0, 0, 0, []), (202, .iload 4, 2, .null, 0, 0, 0, []), (204, .iconst 4, 1, .int 4, 0, 0, 0, []), (205, .iadd, 1, .null, 0, 0, 0, []), (206, .iaload, 1, .null, 0, 0, 0, []), (207, .i2l, 1, .null, 0, 0, 0, []), (208, .ldc2_w 22, 3, .long 4294967295, 0, 0, 0, []), (211, .land, 1, .null, 0, 0, 0, []), (212, .lor, 1, .null, 0, 0, 0, []), (213, .aload_n 0, 1, .null, 0, 0, 0, []), (214, .iload 4, 2, .null, 0, 0, 0, []), (216, .iconst 5, 1, .int 5, 0, 0, 0, []), (217, .iadd, 1, .null, 0, 0, 0, []), (218, .iaload, 1, .null, 0, 0, 0, []), (219, .i2l, 1, .null, 0, 0, 0, []), (220, .bipush 32, 2, .int 32, 0, 0, 0, []), (222, .lshl, 1, .null, 0, 0, 0, []), (223, .aload_n 0, 1, .null, 0, 0, 0, []), (224, .iload 4, 2, .null, 0, 0, 0, []), (226, .bipush 6, 2, .int 6, 0, 0, 0, []), (228, .iadd, 1, .null, 0, 0, 0, []), (229, .iaload, 1, .null, 0, 0, 0, []), (230, .i2l, 1, .null, 0, 0, 0, []), (231, .ldc2_w 22, 3, .long 4294967295, 0, 0, 0, []), (234, .land, 1, .null, 0, 0, 0, []), (235, .lor, 1, .null, 0, 0, 0, []), (236, .invokevirtual 24, 3, .null, 0, 0, 0, []), (239, .aload_n 2, 1, .null, 0, 0, 0, []), (240, .aload_n 0, 1, .null, 0, 0, 0, []), (241, .iload 4, 2, .null, 0, 0, 0, []), (243, .iconst 1, 1, .int 1, 0, 0, 0, []), (244, .iadd, 1, .null, 0, 0, 0, []), (245, .iaload, 1, .null, 0, 0, 0, []), (246, .i2l, 1, .null, 0, 0, 0, []), (247, .bipush 32, 2, .int 32, 0, 0, 0, []), (249, .lshl, 1, .null, 0, 0, 0, []), (250, .aload_n 0, 1, .null, 0, 0, 0, []), (251, .iload 4, 2, .null, 0, 0, 0, []), (253, .iconst 2, 1, .int 2, 0, 0, 0, []), (254, .iadd, 1, .null, 0, 0, 0, []), (255, .iaload, 1, .null, 0, 0, 0, []), (256, .i2l, 1, .null, 0, 0, 0, []), (257, .ldc2_w 22, 3, .long 4294967295, 0, 0, 0, []), (260, .land, 1, .null, 0, 0, 0, []), (261, .lor, 1, .null, 0, 0, 0, []), (262, .aload_n 0, 1, .null, 0, 0, 0, []), (263, .iload 4, 2, .null, 0, 0, 0, []), (265, .iconst 3, 1, .int 3, 0, 0, 0, []), (266, .iadd, 1, .null, 0, 0, 0, []), (267, .iaload, 1, .null, 0, 0, 0, []), (268, .i2l, 1, .null, 0, 0, 0, []), (269, .bipush 32, 2, .int 32, 0, 0, 0, []), (271, .lshl, 1, .null, 0, 0, 0, []), (272, .aload_n 0, 1, .null, 0, 0, 0, []), (273, .iload 4, 2, .null, 0, 0, 0, []), (275, .iconst 4, 1, .int 4, 0, 0, 0, []), (276, .iadd, 1, .null, 0, 0, 0, []), (277, .iaload, 1, .null, 0, 0, 0, []), (278, .i2l, 1, .null, 0, 0, 0, []), (279, .ldc2_w 22, 3, .long 4294967295, 0, 0, 0, []), (282, .land, 1, .null, 0, 0, 0, []), (283, .lor, 1, .null, 0, 0, 0, []), (284, .aload_n 0, 1, .null, 0, 0, 0, []), (285, .iload 4, 2, .null, 0, 0, 0, []), (287, .iconst 5, 1, .int 5, 0, 0, 0, []), (288, .iadd, 1, .null, 0, 0, 0, []), (289, .iaload, 1, .null, 0, 0, 0, []), (290, .i2l, 1, .null, 0, 0, 0, []), (291, .bipush 32, 2, .int 32, 0, 0, 0, []), (293, .lshl, 1, .null, 0, 0, 0, []), (294, .aload_n 0, 1, .null, 0, 0, 0, []), (295, .iload 4, 2, .null, 0, 0, 0, []), (297, .bipush 6, 2, .int 6, 0, 0, 0, []), (299, .iadd, 1, .null, 0, 0, 0, []), (300, .iaload, 1, .null, 0, 0, 0, []), (301, .i2l, 1, .null, 0, 0, 0, []), (302, .ldc2_w 22, 3, .long 4294967295, 0, 0, 0, []), (305, .land, 1, .null, 0, 0, 0, []), (306, .lor, 1, .null, 0, 0, 0, []), (307, .invokevirtual 28, 3, .null, 0, 0, 0, []), (310, .if_icmp .eq 878, 3, .null, 1188, 0, 0, []), (313, .iconst 0, 1, .int 0, 0, 0, 0, []), (314, .ireturn, 1, .null, 0, 0, 0, [])]
set_option maxRecDepth 20000 in
theorem zLC0_ok : zMokL (zLM zLC0) := ⟨by decide +kernel, by decide +kernel, zCL_ok, rfl, trivial, by decide +kernel⟩
theorem zVL_B_feed : zVirt ⟨"BorrowedLives", "feed", "(JJJ)I"⟩ 3 := ⟨⟨zIn_mem (k := 107) (by decide +kernel), by decide +kernel, by decide +kernel, by decide +kernel⟩, zIn_mem (k := 571) (by decide +kernel), zIn_mem (k := 572) (by decide +kernel)⟩
theorem zVL_R_feed : zVirt ⟨"BorrowedLivesModel", "feed", "(JJJ)I"⟩ 3 := ⟨⟨zIn_mem (k := 119) (by decide +kernel), by decide +kernel, by decide +kernel, by decide +kernel⟩, zIn_mem (k := 1401) (by decide +kernel), zIn_mem (k := 1402) (by decide +kernel)⟩
set_option maxRecDepth 40000 in
set_option maxHeartbeats 8000000 in
theorem law_c0 {Z : zCtx} {L : Nat} {xs : Nat → Int32} (hZ : zOkL Z (zLM [])) (hR : zCan Z 1200 601024 7293033) (hN : zNew Z 0 298) (hT : zThrL Z) (hS : zScr Z L xs) {cb : List zE} {w : VR} {o : Nat → Int64} {k n t : Nat} (hk : k + 1 ≤ 601024) (hn : n + 6 ≤ 7293033) (ht : t + 7 ≤ L) (hL : L ≤ 3584) (h : zRel cb w) (kk : ∀ (cb1 : List zE) (w1 : VR) (o1 : Nat → Int64), zRel cb1 w1 → AW Z (k + 1) (n + 6) 1188 [some (.ref 2000000), some (.ref 0), some (.ref 272), some (.ref 297), some (.int (nI t)), none, none] [] (zW cb1 w1 o1)) : AW Z k n 168 [some (.ref 2000000), some (.ref 0), some (.ref 272), some (.ref 297), some (.int (nI t)), none, none] [] (zW cb w o) := by
  have hM := hZ.re zLC0_ok
  have hRm : zRoom Z k n := zRoom_of hR (by omega) (by omega)
  obtain ⟨a, cb1, w1, hrel, c1, c2⟩ := jj_feed h (((xs (t + 1)).toInt64 <<< (Int32.toInt64 32 &&& 63)) ||| ((xs (t + 2)).toInt64 &&& 4294967295)) (((xs (t + 3)).toInt64 <<< (Int32.toInt64 32 &&& 63)) ||| ((xs (t + 4)).toInt64 &&& 4294967295)) (((xs (t + 5)).toInt64 <<< (Int32.toInt64 32 &&& 63)) ||| ((xs (t + 6)).toInt64 &&& 4294967295))
  refine AWL.run hM hRm [174] 400 ?_
  show AW Z k n 174 [some (.ref 2000000), some (.ref 0), some (.ref 272), some (.ref 297), some (.int (nI t)), none, none] [.int (nI t + 1), .ref 2000000, .ref 0] (zW cb w o)
  refine AWL.sld (pc := 174) (t := t + 1) hM hS rfl rfl (nI_add t 1) (by omega) hL ?_
  show AW Z k n 175 [some (.ref 2000000), some (.ref 0), some (.ref 272), some (.ref 297), some (.int (nI t)), none, none] [.int (xs (t + 1)), .ref 0] (zW cb w o)
  refine AWL.run hM hRm [184] 400 ?_
  show AW Z k n 184 [some (.ref 2000000), some (.ref 0), some (.ref 272), some (.ref 297), some (.int (nI t)), none, none] [.int (nI t + 2), .ref 2000000, .long ((xs (t + 1)).toInt64 <<< (Int32.toInt64 32 &&& 63)), .ref 0] (zW cb w o)
  refine AWL.sld (pc := 184) (t := t + 2) hM hS rfl rfl (nI_add t 2) (by omega) hL ?_
  show AW Z k n 185 [some (.ref 2000000), some (.ref 0), some (.ref 272), some (.ref 297), some (.int (nI t)), none, none] [.int (xs (t + 2)), .long ((xs (t + 1)).toInt64 <<< (Int32.toInt64 32 &&& 63)), .ref 0] (zW cb w o)
  refine AWL.run hM hRm [196] 400 ?_
  show AW Z k n 196 [some (.ref 2000000), some (.ref 0), some (.ref 272), some (.ref 297), some (.int (nI t)), none, none] [.int (nI t + 3), .ref 2000000, .long (((xs (t + 1)).toInt64 <<< (Int32.toInt64 32 &&& 63)) ||| ((xs (t + 2)).toInt64 &&& 4294967295)), .ref 0] (zW cb w o)
  refine AWL.sld (pc := 196) (t := t + 3) hM hS rfl rfl (nI_add t 3) (by omega) hL ?_
  show AW Z k n 197 [some (.ref 2000000), some (.ref 0), some (.ref 272), some (.ref 297), some (.int (nI t)), none, none] [.int (xs (t + 3)), .long (((xs (t + 1)).toInt64 <<< (Int32.toInt64 32 &&& 63)) ||| ((xs (t + 2)).toInt64 &&& 4294967295)), .ref 0] (zW cb w o)
  refine AWL.run hM hRm [206] 400 ?_
  show AW Z k n 206 [some (.ref 2000000), some (.ref 0), some (.ref 272), some (.ref 297), some (.int (nI t)), none, none] [.int (nI t + 4), .ref 2000000, .long ((xs (t + 3)).toInt64 <<< (Int32.toInt64 32 &&& 63)), .long (((xs (t + 1)).toInt64 <<< (Int32.toInt64 32 &&& 63)) ||| ((xs (t + 2)).toInt64 &&& 4294967295)), .ref 0] (zW cb w o)
  refine AWL.sld (pc := 206) (t := t + 4) hM hS rfl rfl (nI_add t 4) (by omega) hL ?_
  show AW Z k n 207 [some (.ref 2000000), some (.ref 0), some (.ref 272), some (.ref 297), some (.int (nI t)), none, none] [.int (xs (t + 4)), .long ((xs (t + 3)).toInt64 <<< (Int32.toInt64 32 &&& 63)), .long (((xs (t + 1)).toInt64 <<< (Int32.toInt64 32 &&& 63)) ||| ((xs (t + 2)).toInt64 &&& 4294967295)), .ref 0] (zW cb w o)
  refine AWL.run hM hRm [218] 400 ?_
  show AW Z k n 218 [some (.ref 2000000), some (.ref 0), some (.ref 272), some (.ref 297), some (.int (nI t)), none, none] [.int (nI t + 5), .ref 2000000, .long (((xs (t + 3)).toInt64 <<< (Int32.toInt64 32 &&& 63)) ||| ((xs (t + 4)).toInt64 &&& 4294967295)), .long (((xs (t + 1)).toInt64 <<< (Int32.toInt64 32 &&& 63)) ||| ((xs (t + 2)).toInt64 &&& 4294967295)), .ref 0] (zW cb w o)
  refine AWL.sld (pc := 218) (t := t + 5) hM hS rfl rfl (nI_add t 5) (by omega) hL ?_
  show AW Z k n 219 [some (.ref 2000000), some (.ref 0), some (.ref 272), some (.ref 297), some (.int (nI t)), none, none] [.int (xs (t + 5)), .long (((xs (t + 3)).toInt64 <<< (Int32.toInt64 32 &&& 63)) ||| ((xs (t + 4)).toInt64 &&& 4294967295)), .long (((xs (t + 1)).toInt64 <<< (Int32.toInt64 32 &&& 63)) ||| ((xs (t + 2)).toInt64 &&& 4294967295)), .ref 0] (zW cb w o)
  refine AWL.run hM hRm [229] 400 ?_
  show AW Z k n 229 [some (.ref 2000000), some (.ref 0), some (.ref 272), some (.ref 297), some (.int (nI t)), none, none] [.int (nI t + 6), .ref 2000000, .long ((xs (t + 5)).toInt64 <<< (Int32.toInt64 32 &&& 63)), .long (((xs (t + 3)).toInt64 <<< (Int32.toInt64 32 &&& 63)) ||| ((xs (t + 4)).toInt64 &&& 4294967295)), .long (((xs (t + 1)).toInt64 <<< (Int32.toInt64 32 &&& 63)) ||| ((xs (t + 2)).toInt64 &&& 4294967295)), .ref 0] (zW cb w o)
  refine AWL.sld (pc := 229) (t := t + 6) hM hS rfl rfl (nI_add t 6) (by omega) hL ?_
  show AW Z k n 230 [some (.ref 2000000), some (.ref 0), some (.ref 272), some (.ref 297), some (.int (nI t)), none, none] [.int (xs (t + 6)), .long ((xs (t + 5)).toInt64 <<< (Int32.toInt64 32 &&& 63)), .long (((xs (t + 3)).toInt64 <<< (Int32.toInt64 32 &&& 63)) ||| ((xs (t + 4)).toInt64 &&& 4294967295)), .long (((xs (t + 1)).toInt64 <<< (Int32.toInt64 32 &&& 63)) ||| ((xs (t + 2)).toInt64 &&& 4294967295)), .ref 0] (zW cb w o)
  refine AWL.run hM hRm [236] 400 ?_
  show AW Z k n 236 [some (.ref 2000000), some (.ref 0), some (.ref 272), some (.ref 297), some (.int (nI t)), none, none] [.long (((xs (t + 5)).toInt64 <<< (Int32.toInt64 32 &&& 63)) ||| ((xs (t + 6)).toInt64 &&& 4294967295)), .long (((xs (t + 3)).toInt64 <<< (Int32.toInt64 32 &&& 63)) ||| ((xs (t + 4)).toInt64 &&& 4294967295)), .long (((xs (t + 1)).toInt64 <<< (Int32.toInt64 32 &&& 63)) ||| ((xs (t + 2)).toInt64 &&& 4294967295)), .ref 0] (zW cb w o)
  refine AWL.callB (pc := 236) (idx := 24) hM hR hN (zRel.len h) (zRel.recv h) c1 zMX11_feed_ok rfl rfl rfl (Or.inl (zIn_mem (k := 570) (by decide +kernel))) zVL_B_feed rfl (by decide) (by decide) (by omega) (by omega) rfl rfl ?_
  show AW Z k n 239 [some (.ref 2000000), some (.ref 0), some (.ref 272), some (.ref 297), some (.int (nI t)), none, none] [.int a] (zW cb1 w o)
  refine AWL.run hM hRm [245] 400 ?_
  show AW Z k n 245 [some (.ref 2000000), some (.ref 0), some (.ref 272), some (.ref 297), some (.int (nI t)), none, none] [.int (nI t + 1), .ref 2000000, .ref 272, .int a] (zW cb1 w o)
  refine AWL.sld (pc := 245) (t := t + 1) hM hS rfl rfl (nI_add t 1) (by omega) hL ?_
  show AW Z k n 246 [some (.ref 2000000), some (.ref 0), some (.ref 272), some (.ref 297), some (.int (nI t)), none, none] [.int (xs (t + 1)), .ref 272, .int a] (zW cb1 w o)
  refine AWL.run hM hRm [255] 400 ?_
  show AW Z k n 255 [some (.ref 2000000), some (.ref 0), some (.ref 272), some (.ref 297), some (.int (nI t)), none, none] [.int (nI t + 2), .ref 2000000, .long ((xs (t + 1)).toInt64 <<< (Int32.toInt64 32 &&& 63)), .ref 272, .int a] (zW cb1 w o)
  refine AWL.sld (pc := 255) (t := t + 2) hM hS rfl rfl (nI_add t 2) (by omega) hL ?_
  show AW Z k n 256 [some (.ref 2000000), some (.ref 0), some (.ref 272), some (.ref 297), some (.int (nI t)), none, none] [.int (xs (t + 2)), .long ((xs (t + 1)).toInt64 <<< (Int32.toInt64 32 &&& 63)), .ref 272, .int a] (zW cb1 w o)
  refine AWL.run hM hRm [267] 400 ?_
  show AW Z k n 267 [some (.ref 2000000), some (.ref 0), some (.ref 272), some (.ref 297), some (.int (nI t)), none, none] [.int (nI t + 3), .ref 2000000, .long (((xs (t + 1)).toInt64 <<< (Int32.toInt64 32 &&& 63)) ||| ((xs (t + 2)).toInt64 &&& 4294967295)), .ref 272, .int a] (zW cb1 w o)
  refine AWL.sld (pc := 267) (t := t + 3) hM hS rfl rfl (nI_add t 3) (by omega) hL ?_
  show AW Z k n 268 [some (.ref 2000000), some (.ref 0), some (.ref 272), some (.ref 297), some (.int (nI t)), none, none] [.int (xs (t + 3)), .long (((xs (t + 1)).toInt64 <<< (Int32.toInt64 32 &&& 63)) ||| ((xs (t + 2)).toInt64 &&& 4294967295)), .ref 272, .int a] (zW cb1 w o)
  refine AWL.run hM hRm [277] 400 ?_
  show AW Z k n 277 [some (.ref 2000000), some (.ref 0), some (.ref 272), some (.ref 297), some (.int (nI t)), none, none] [.int (nI t + 4), .ref 2000000, .long ((xs (t + 3)).toInt64 <<< (Int32.toInt64 32 &&& 63)), .long (((xs (t + 1)).toInt64 <<< (Int32.toInt64 32 &&& 63)) ||| ((xs (t + 2)).toInt64 &&& 4294967295)), .ref 272, .int a] (zW cb1 w o)
  refine AWL.sld (pc := 277) (t := t + 4) hM hS rfl rfl (nI_add t 4) (by omega) hL ?_
  show AW Z k n 278 [some (.ref 2000000), some (.ref 0), some (.ref 272), some (.ref 297), some (.int (nI t)), none, none] [.int (xs (t + 4)), .long ((xs (t + 3)).toInt64 <<< (Int32.toInt64 32 &&& 63)), .long (((xs (t + 1)).toInt64 <<< (Int32.toInt64 32 &&& 63)) ||| ((xs (t + 2)).toInt64 &&& 4294967295)), .ref 272, .int a] (zW cb1 w o)
  refine AWL.run hM hRm [289] 400 ?_
  show AW Z k n 289 [some (.ref 2000000), some (.ref 0), some (.ref 272), some (.ref 297), some (.int (nI t)), none, none] [.int (nI t + 5), .ref 2000000, .long (((xs (t + 3)).toInt64 <<< (Int32.toInt64 32 &&& 63)) ||| ((xs (t + 4)).toInt64 &&& 4294967295)), .long (((xs (t + 1)).toInt64 <<< (Int32.toInt64 32 &&& 63)) ||| ((xs (t + 2)).toInt64 &&& 4294967295)), .ref 272, .int a] (zW cb1 w o)
  refine AWL.sld (pc := 289) (t := t + 5) hM hS rfl rfl (nI_add t 5) (by omega) hL ?_
  show AW Z k n 290 [some (.ref 2000000), some (.ref 0), some (.ref 272), some (.ref 297), some (.int (nI t)), none, none] [.int (xs (t + 5)), .long (((xs (t + 3)).toInt64 <<< (Int32.toInt64 32 &&& 63)) ||| ((xs (t + 4)).toInt64 &&& 4294967295)), .long (((xs (t + 1)).toInt64 <<< (Int32.toInt64 32 &&& 63)) ||| ((xs (t + 2)).toInt64 &&& 4294967295)), .ref 272, .int a] (zW cb1 w o)
  refine AWL.run hM hRm [300] 400 ?_
  show AW Z k n 300 [some (.ref 2000000), some (.ref 0), some (.ref 272), some (.ref 297), some (.int (nI t)), none, none] [.int (nI t + 6), .ref 2000000, .long ((xs (t + 5)).toInt64 <<< (Int32.toInt64 32 &&& 63)), .long (((xs (t + 3)).toInt64 <<< (Int32.toInt64 32 &&& 63)) ||| ((xs (t + 4)).toInt64 &&& 4294967295)), .long (((xs (t + 1)).toInt64 <<< (Int32.toInt64 32 &&& 63)) ||| ((xs (t + 2)).toInt64 &&& 4294967295)), .ref 272, .int a] (zW cb1 w o)
  refine AWL.sld (pc := 300) (t := t + 6) hM hS rfl rfl (nI_add t 6) (by omega) hL ?_
  show AW Z k n 301 [some (.ref 2000000), some (.ref 0), some (.ref 272), some (.ref 297), some (.int (nI t)), none, none] [.int (xs (t + 6)), .long ((xs (t + 5)).toInt64 <<< (Int32.toInt64 32 &&& 63)), .long (((xs (t + 3)).toInt64 <<< (Int32.toInt64 32 &&& 63)) ||| ((xs (t + 4)).toInt64 &&& 4294967295)), .long (((xs (t + 1)).toInt64 <<< (Int32.toInt64 32 &&& 63)) ||| ((xs (t + 2)).toInt64 &&& 4294967295)), .ref 272, .int a] (zW cb1 w o)
  refine AWL.run hM hRm [307] 400 ?_
  show AW Z k n 307 [some (.ref 2000000), some (.ref 0), some (.ref 272), some (.ref 297), some (.int (nI t)), none, none] [.long (((xs (t + 5)).toInt64 <<< (Int32.toInt64 32 &&& 63)) ||| ((xs (t + 6)).toInt64 &&& 4294967295)), .long (((xs (t + 3)).toInt64 <<< (Int32.toInt64 32 &&& 63)) ||| ((xs (t + 4)).toInt64 &&& 4294967295)), .long (((xs (t + 1)).toInt64 <<< (Int32.toInt64 32 &&& 63)) ||| ((xs (t + 2)).toInt64 &&& 4294967295)), .ref 272, .int a] (zW cb1 w o)
  refine AWL.callR (pc := 307) (idx := 28) hM hR hN (zRel.len hrel) c2 zMX12_feed_ok rfl rfl rfl (Or.inl (zIn_mem (k := 1400) (by decide +kernel))) zVL_R_feed rfl (by decide) (by decide) (by omega) (by omega) (fun _ => rfl) rfl rfl ?_
  show AW Z k n 310 [some (.ref 2000000), some (.ref 0), some (.ref 272), some (.ref 297), some (.int (nI t)), none, none] [.int a, .int a] (zW cb1 w1 o)
  refine AWL.run hM hRm [1188, 313] 400 ?_
  show ((a = a → AW Z k n 1188 [some (.ref 2000000), some (.ref 0), some (.ref 272), some (.ref 297), some (.int (nI t)), none, none] [] (zW cb1 w1 o)) ∧ (¬ (a = a) → AW Z k n 313 [some (.ref 2000000), some (.ref 0), some (.ref 272), some (.ref 297), some (.int (nI t)), none, none] [] (zW cb1 w1 o)))
  exact ⟨fun _ => AW.wide (by omega) (by omega) (kk _ _ _ hrel), fun hf => absurd rfl hf⟩
def zLC1 : List zIt := [(315, .aload_n 1, 1, .null, 0, 0, 0, []), (316, .invokevirtual 29, 3, .null, 0, 0, 0, []), (319, .aload_n 2, 1, .null, 0, 0, 0, []), (320, .invokevirtual 33, 3, .null, 0, 0, 0, []), (323, .if_icmp .eq 865, 3, .null, 1188, 0, 0, []), (326, .iconst 0, 1, .int 0, 0, 0, 0, []), (327, .ireturn, 1, .null, 0, 0, 0, [])]
set_option maxRecDepth 20000 in
theorem zLC1_ok : zMokL (zLM zLC1) := ⟨by decide +kernel, by decide +kernel, zCL_ok, rfl, trivial, by decide +kernel⟩
theorem zVL_B_town : zVirt ⟨"BorrowedLives", "town", "()I"⟩ 0 := ⟨⟨zIn_mem (k := 107) (by decide +kernel), by decide +kernel, by decide +kernel, by decide +kernel⟩, zIn_mem (k := 580) (by decide +kernel), zIn_mem (k := 581) (by decide +kernel)⟩
theorem zVL_R_town : zVirt ⟨"BorrowedLivesModel", "town", "()I"⟩ 0 := ⟨⟨zIn_mem (k := 119) (by decide +kernel), by decide +kernel, by decide +kernel, by decide +kernel⟩, zIn_mem (k := 1604) (by decide +kernel), zIn_mem (k := 1605) (by decide +kernel)⟩
set_option maxRecDepth 40000 in
set_option maxHeartbeats 8000000 in
theorem law_c1 {Z : zCtx} {L : Nat} {xs : Nat → Int32} (hZ : zOkL Z (zLM [])) (hR : zCan Z 1200 601024 7293033) (hN : zNew Z 0 298) (hT : zThrL Z) (hS : zScr Z L xs) {cb : List zE} {w : VR} {o : Nat → Int64} {k n t : Nat} (hk : k + 1 ≤ 601024) (hn : n + 6 ≤ 7293033) (ht : t + 7 ≤ L) (hL : L ≤ 3584) (h : zRel cb w) (kk : ∀ (cb1 : List zE) (w1 : VR) (o1 : Nat → Int64), zRel cb1 w1 → AW Z (k + 1) (n + 6) 1188 [some (.ref 2000000), some (.ref 0), some (.ref 272), some (.ref 297), some (.int (nI t)), none, none] [] (zW cb1 w1 o1)) : AW Z k n 315 [some (.ref 2000000), some (.ref 0), some (.ref 272), some (.ref 297), some (.int (nI t)), none, none] [] (zW cb w o) := by
  have hM := hZ.re zLC1_ok
  have hRm : zRoom Z k n := zRoom_of hR (by omega) (by omega)
  obtain ⟨a, cb1, w1, hrel, c1, c2⟩ := jj_town h
  refine AWL.run hM hRm [316] 400 ?_
  show AW Z k n 316 [some (.ref 2000000), some (.ref 0), some (.ref 272), some (.ref 297), some (.int (nI t)), none, none] [.ref 0] (zW cb w o)
  refine AWL.callB (pc := 316) (idx := 29) hM hR hN (zRel.len h) (zRel.recv h) c1 zMX11_town_ok rfl rfl rfl (Or.inl (zIn_mem (k := 579) (by decide +kernel))) zVL_B_town rfl (by decide) (by decide) (by omega) (by omega) rfl rfl ?_
  show AW Z k n 319 [some (.ref 2000000), some (.ref 0), some (.ref 272), some (.ref 297), some (.int (nI t)), none, none] [.int a] (zW cb1 w o)
  refine AWL.run hM hRm [320] 400 ?_
  show AW Z k n 320 [some (.ref 2000000), some (.ref 0), some (.ref 272), some (.ref 297), some (.int (nI t)), none, none] [.ref 272, .int a] (zW cb1 w o)
  refine AWL.callR (pc := 320) (idx := 33) hM hR hN (zRel.len hrel) c2 zMX12_town_ok rfl rfl rfl (Or.inl (zIn_mem (k := 1603) (by decide +kernel))) zVL_R_town rfl (by decide) (by decide) (by omega) (by omega) (fun _ => rfl) rfl rfl ?_
  show AW Z k n 323 [some (.ref 2000000), some (.ref 0), some (.ref 272), some (.ref 297), some (.int (nI t)), none, none] [.int a, .int a] (zW cb1 w1 o)
  refine AWL.run hM hRm [1188, 326] 400 ?_
  show ((a = a → AW Z k n 1188 [some (.ref 2000000), some (.ref 0), some (.ref 272), some (.ref 297), some (.int (nI t)), none, none] [] (zW cb1 w1 o)) ∧ (¬ (a = a) → AW Z k n 326 [some (.ref 2000000), some (.ref 0), some (.ref 272), some (.ref 297), some (.int (nI t)), none, none] [] (zW cb1 w1 o)))
  exact ⟨fun _ => AW.wide (by omega) (by omega) (kk _ _ _ hrel), fun hf => absurd rfl hf⟩
def zLC2 : List zIt := [(328, .aload_n 1, 1, .null, 0, 0, 0, []), (329, .invokevirtual 34, 3, .null, 0, 0, 0, []), (332, .aload_n 2, 1, .null, 0, 0, 0, []), (333, .invokevirtual 37, 3, .null, 0, 0, 0, []), (336, .if_icmp .eq 852, 3, .null, 1188, 0, 0, []), (339, .iconst 0, 1, .int 0, 0, 0, 0, []), (340, .ireturn, 1, .null, 0, 0, 0, [])]
set_option maxRecDepth 20000 in
theorem zLC2_ok : zMokL (zLM zLC2) := ⟨by decide +kernel, by decide +kernel, zCL_ok, rfl, trivial, by decide +kernel⟩
theorem zVL_B_year : zVirt ⟨"BorrowedLives", "year", "()I"⟩ 0 := ⟨⟨zIn_mem (k := 107) (by decide +kernel), by decide +kernel, by decide +kernel, by decide +kernel⟩, zIn_mem (k := 900) (by decide +kernel), zIn_mem (k := 901) (by decide +kernel)⟩
theorem zVL_R_year : zVirt ⟨"BorrowedLivesModel", "year", "()I"⟩ 0 := ⟨⟨zIn_mem (k := 119) (by decide +kernel), by decide +kernel, by decide +kernel, by decide +kernel⟩, zIn_mem (k := 1723) (by decide +kernel), zIn_mem (k := 1724) (by decide +kernel)⟩
set_option maxRecDepth 40000 in
set_option maxHeartbeats 8000000 in
theorem law_c2 {Z : zCtx} {L : Nat} {xs : Nat → Int32} (hZ : zOkL Z (zLM [])) (hR : zCan Z 1200 601024 7293033) (hN : zNew Z 0 298) (hT : zThrL Z) (hS : zScr Z L xs) {cb : List zE} {w : VR} {o : Nat → Int64} {k n t : Nat} (hk : k + 1 ≤ 601024) (hn : n + 6 ≤ 7293033) (ht : t + 7 ≤ L) (hL : L ≤ 3584) (h : zRel cb w) (kk : ∀ (cb1 : List zE) (w1 : VR) (o1 : Nat → Int64), zRel cb1 w1 → AW Z (k + 1) (n + 6) 1188 [some (.ref 2000000), some (.ref 0), some (.ref 272), some (.ref 297), some (.int (nI t)), none, none] [] (zW cb1 w1 o1)) : AW Z k n 328 [some (.ref 2000000), some (.ref 0), some (.ref 272), some (.ref 297), some (.int (nI t)), none, none] [] (zW cb w o) := by
  have hM := hZ.re zLC2_ok
  have hRm : zRoom Z k n := zRoom_of hR (by omega) (by omega)
  obtain ⟨a, cb1, w1, hrel, c1, c2⟩ := jj_year h
  refine AWL.run hM hRm [329] 400 ?_
  show AW Z k n 329 [some (.ref 2000000), some (.ref 0), some (.ref 272), some (.ref 297), some (.int (nI t)), none, none] [.ref 0] (zW cb w o)
  refine AWL.callB (pc := 329) (idx := 34) hM hR hN (zRel.len h) (zRel.recv h) c1 zMX11_year_ok rfl rfl rfl (Or.inl (zIn_mem (k := 899) (by decide +kernel))) zVL_B_year rfl (by decide) (by decide) (by omega) (by omega) rfl rfl ?_
  show AW Z k n 332 [some (.ref 2000000), some (.ref 0), some (.ref 272), some (.ref 297), some (.int (nI t)), none, none] [.int a] (zW cb1 w o)
  refine AWL.run hM hRm [333] 400 ?_
  show AW Z k n 333 [some (.ref 2000000), some (.ref 0), some (.ref 272), some (.ref 297), some (.int (nI t)), none, none] [.ref 272, .int a] (zW cb1 w o)
  refine AWL.callR (pc := 333) (idx := 37) hM hR hN (zRel.len hrel) c2 zMX12_year_ok rfl rfl rfl (Or.inl (zIn_mem (k := 1722) (by decide +kernel))) zVL_R_year rfl (by decide) (by decide) (by omega) (by omega) (fun _ => rfl) rfl rfl ?_
  show AW Z k n 336 [some (.ref 2000000), some (.ref 0), some (.ref 272), some (.ref 297), some (.int (nI t)), none, none] [.int a, .int a] (zW cb1 w1 o)
  refine AWL.run hM hRm [1188, 339] 400 ?_
  show ((a = a → AW Z k n 1188 [some (.ref 2000000), some (.ref 0), some (.ref 272), some (.ref 297), some (.int (nI t)), none, none] [] (zW cb1 w1 o)) ∧ (¬ (a = a) → AW Z k n 339 [some (.ref 2000000), some (.ref 0), some (.ref 272), some (.ref 297), some (.int (nI t)), none, none] [] (zW cb1 w1 o)))
  exact ⟨fun _ => AW.wide (by omega) (by omega) (kk _ _ _ hrel), fun hf => absurd rfl hf⟩
def zLC3 : List zIt := [(341, .aload_n 1, 1, .null, 0, 0, 0, []), (342, .aload_n 0, 1, .null, 0, 0, 0, []), (343, .iload 4, 2, .null, 0, 0, 0, []), (345, .iconst 1, 1, .int 1, 0, 0, 0, []), (346, .iadd, 1, .null, 0, 0, 0, []), (347, .iaload, 1, .null, 0, 0, 0, []), (348, .aload_n 0, 1, .null, 0, 0, 0, []), (349, .iload 4, 2, .null, 0, 0, 0, []), (351, .iconst 2, 1, .int 2, 0, 0, 0, []), (352, .iadd, 1, .null, 0, 0, 0, []), (353, .iaload, 1, .null, 0, 0, 0, []), (354, .invokevirtual 38, 3, .null, 0, 0, 0, []), (357, .aload_n 2, 1, .null, 0, 0, 0, []), (358, .aload_n 0, 1, .null, 0, 0, 0, []), (359, .iload 4, 2, .null, 0, 0, 0, []), (361, .iconst 1, 1, .int 1, 0, 0, 0, []), (362, .iadd, 1, .null, 0, 0, 0, []), (363, .iaload, 1, .null, 0, 0, 0, []), (364, .aload_n 0, 1, .null, 0, 0, 0, []), (365, .iload 4, 2, .null, 0, 0, 0, []), (367, .iconst 2, 1, .int 2, 0, 0, 0, []), (368, .iadd, 1, .null, 0, 0, 0, []), (369, .iaload, 1, .null, 0, 0, 0, []), (370, .invokevirtual 42, 3, .null, 0, 0, 0, []), (373, .if_icmp .eq 815, 3, .null, 1188, 0, 0, []), (376, .iconst 0, 1, .int 0, 0, 0, 0, []), (377, .ireturn, 1, .null, 0, 0, 0, [])]
set_option maxRecDepth 20000 in
theorem zLC3_ok : zMokL (zLM zLC3) := ⟨by decide +kernel, by decide +kernel, zCL_ok, rfl, trivial, by decide +kernel⟩
theorem zVL_B_person : zVirt ⟨"BorrowedLives", "person", "(II)I"⟩ 2 := ⟨⟨zIn_mem (k := 107) (by decide +kernel), by decide +kernel, by decide +kernel, by decide +kernel⟩, zIn_mem (k := 931) (by decide +kernel), zIn_mem (k := 932) (by decide +kernel)⟩
theorem zVL_R_person : zVirt ⟨"BorrowedLivesModel", "person", "(II)I"⟩ 2 := ⟨⟨zIn_mem (k := 119) (by decide +kernel), by decide +kernel, by decide +kernel, by decide +kernel⟩, zIn_mem (k := 1735) (by decide +kernel), zIn_mem (k := 1736) (by decide +kernel)⟩
set_option maxRecDepth 40000 in
set_option maxHeartbeats 8000000 in
theorem law_c3 {Z : zCtx} {L : Nat} {xs : Nat → Int32} (hZ : zOkL Z (zLM [])) (hR : zCan Z 1200 601024 7293033) (hN : zNew Z 0 298) (hT : zThrL Z) (hS : zScr Z L xs) {cb : List zE} {w : VR} {o : Nat → Int64} {k n t : Nat} (hk : k + 1 ≤ 601024) (hn : n + 6 ≤ 7293033) (ht : t + 7 ≤ L) (hL : L ≤ 3584) (h : zRel cb w) (kk : ∀ (cb1 : List zE) (w1 : VR) (o1 : Nat → Int64), zRel cb1 w1 → AW Z (k + 1) (n + 6) 1188 [some (.ref 2000000), some (.ref 0), some (.ref 272), some (.ref 297), some (.int (nI t)), none, none] [] (zW cb1 w1 o1)) : AW Z k n 341 [some (.ref 2000000), some (.ref 0), some (.ref 272), some (.ref 297), some (.int (nI t)), none, none] [] (zW cb w o) := by
  have hM := hZ.re zLC3_ok
  have hRm : zRoom Z k n := zRoom_of hR (by omega) (by omega)
  obtain ⟨a, cb1, w1, hrel, c1, c2⟩ := jj_person h (xs (t + 1)) (xs (t + 2))
  refine AWL.run hM hRm [347] 400 ?_
  show AW Z k n 347 [some (.ref 2000000), some (.ref 0), some (.ref 272), some (.ref 297), some (.int (nI t)), none, none] [.int (nI t + 1), .ref 2000000, .ref 0] (zW cb w o)
  refine AWL.sld (pc := 347) (t := t + 1) hM hS rfl rfl (nI_add t 1) (by omega) hL ?_
  show AW Z k n 348 [some (.ref 2000000), some (.ref 0), some (.ref 272), some (.ref 297), some (.int (nI t)), none, none] [.int (xs (t + 1)), .ref 0] (zW cb w o)
  refine AWL.run hM hRm [353] 400 ?_
  show AW Z k n 353 [some (.ref 2000000), some (.ref 0), some (.ref 272), some (.ref 297), some (.int (nI t)), none, none] [.int (nI t + 2), .ref 2000000, .int (xs (t + 1)), .ref 0] (zW cb w o)
  refine AWL.sld (pc := 353) (t := t + 2) hM hS rfl rfl (nI_add t 2) (by omega) hL ?_
  show AW Z k n 354 [some (.ref 2000000), some (.ref 0), some (.ref 272), some (.ref 297), some (.int (nI t)), none, none] [.int (xs (t + 2)), .int (xs (t + 1)), .ref 0] (zW cb w o)
  refine AWL.callB (pc := 354) (idx := 38) hM hR hN (zRel.len h) (zRel.recv h) c1 zMX11_person_ok rfl rfl rfl (Or.inl (zIn_mem (k := 930) (by decide +kernel))) zVL_B_person rfl (by decide) (by decide) (by omega) (by omega) rfl rfl ?_
  show AW Z k n 357 [some (.ref 2000000), some (.ref 0), some (.ref 272), some (.ref 297), some (.int (nI t)), none, none] [.int a] (zW cb1 w o)
  refine AWL.run hM hRm [363] 400 ?_
  show AW Z k n 363 [some (.ref 2000000), some (.ref 0), some (.ref 272), some (.ref 297), some (.int (nI t)), none, none] [.int (nI t + 1), .ref 2000000, .ref 272, .int a] (zW cb1 w o)
  refine AWL.sld (pc := 363) (t := t + 1) hM hS rfl rfl (nI_add t 1) (by omega) hL ?_
  show AW Z k n 364 [some (.ref 2000000), some (.ref 0), some (.ref 272), some (.ref 297), some (.int (nI t)), none, none] [.int (xs (t + 1)), .ref 272, .int a] (zW cb1 w o)
  refine AWL.run hM hRm [369] 400 ?_
  show AW Z k n 369 [some (.ref 2000000), some (.ref 0), some (.ref 272), some (.ref 297), some (.int (nI t)), none, none] [.int (nI t + 2), .ref 2000000, .int (xs (t + 1)), .ref 272, .int a] (zW cb1 w o)
  refine AWL.sld (pc := 369) (t := t + 2) hM hS rfl rfl (nI_add t 2) (by omega) hL ?_
  show AW Z k n 370 [some (.ref 2000000), some (.ref 0), some (.ref 272), some (.ref 297), some (.int (nI t)), none, none] [.int (xs (t + 2)), .int (xs (t + 1)), .ref 272, .int a] (zW cb1 w o)
  refine AWL.callR (pc := 370) (idx := 42) hM hR hN (zRel.len hrel) c2 zMX12_person_ok rfl rfl rfl (Or.inl (zIn_mem (k := 1734) (by decide +kernel))) zVL_R_person rfl (by decide) (by decide) (by omega) (by omega) (fun _ => rfl) rfl rfl ?_
  show AW Z k n 373 [some (.ref 2000000), some (.ref 0), some (.ref 272), some (.ref 297), some (.int (nI t)), none, none] [.int a, .int a] (zW cb1 w1 o)
  refine AWL.run hM hRm [1188, 376] 400 ?_
  show ((a = a → AW Z k n 1188 [some (.ref 2000000), some (.ref 0), some (.ref 272), some (.ref 297), some (.int (nI t)), none, none] [] (zW cb1 w1 o)) ∧ (¬ (a = a) → AW Z k n 376 [some (.ref 2000000), some (.ref 0), some (.ref 272), some (.ref 297), some (.int (nI t)), none, none] [] (zW cb1 w1 o)))
  exact ⟨fun _ => AW.wide (by omega) (by omega) (kk _ _ _ hrel), fun hf => absurd rfl hf⟩
def zLC4 : List zIt := [(378, .aload_n 1, 1, .null, 0, 0, 0, []), (379, .aload_n 0, 1, .null, 0, 0, 0, []), (380, .iload 4, 2, .null, 0, 0, 0, []), (382, .iconst 1, 1, .int 1, 0, 0, 0, []), (383, .iadd, 1, .null, 0, 0, 0, []), (384, .iaload, 1, .null, 0, 0, 0, []), (385, .aload_n 0, 1, .null, 0, 0, 0, []), (386, .iload 4, 2, .null, 0, 0, 0, []), (388, .iconst 2, 1, .int 2, 0, 0, 0, []), (389, .iadd, 1, .null, 0, 0, 0, []), (390, .iaload, 1, .null, 0, 0, 0, []), (391, .invokevirtual 43, 3, .null, 0, 0, 0, []), (394, .aload_n 2, 1, .null, 0, 0, 0, []), (395, .aload_n 0, 1, .null, 0, 0, 0, []), (396, .iload 4, 2, .null, 0, 0, 0, []), (398, .iconst 1, 1, .int 1, 0, 0, 0, []), (399, .iadd, 1, .null, 0, 0, 0, []), (400, .iaload, 1, .null, 0, 0, 0, []), (401, .aload_n 0, 1, .null, 0, 0, 0, []), (402, .iload 4, 2, .null, 0, 0, 0, []), (404, .iconst 2, 1, .int 2, 0, 0, 0, []), (405, .iadd, 1, .null, 0, 0, 0, []), (406, .iaload, 1, .null, 0, 0, 0, []), (407, .invokevirtual 46, 3, .null, 0, 0, 0, []), (410, .if_icmp .eq 778, 3, .null, 1188, 0, 0, []), (413, .iconst 0, 1, .int 0, 0, 0, 0, []), (414, .ireturn, 1, .null, 0, 0, 0, [])]
set_option maxRecDepth 20000 in
theorem zLC4_ok : zMokL (zLM zLC4) := ⟨by decide +kernel, by decide +kernel, zCL_ok, rfl, trivial, by decide +kernel⟩
theorem zVL_B_life : zVirt ⟨"BorrowedLives", "life", "(II)I"⟩ 2 := ⟨⟨zIn_mem (k := 107) (by decide +kernel), by decide +kernel, by decide +kernel, by decide +kernel⟩, zIn_mem (k := 948) (by decide +kernel), zIn_mem (k := 949) (by decide +kernel)⟩
theorem zVL_R_life : zVirt ⟨"BorrowedLivesModel", "life", "(II)I"⟩ 2 := ⟨⟨zIn_mem (k := 119) (by decide +kernel), by decide +kernel, by decide +kernel, by decide +kernel⟩, zIn_mem (k := 1746) (by decide +kernel), zIn_mem (k := 1747) (by decide +kernel)⟩
set_option maxRecDepth 40000 in
set_option maxHeartbeats 8000000 in
theorem law_c4 {Z : zCtx} {L : Nat} {xs : Nat → Int32} (hZ : zOkL Z (zLM [])) (hR : zCan Z 1200 601024 7293033) (hN : zNew Z 0 298) (hT : zThrL Z) (hS : zScr Z L xs) {cb : List zE} {w : VR} {o : Nat → Int64} {k n t : Nat} (hk : k + 1 ≤ 601024) (hn : n + 6 ≤ 7293033) (ht : t + 7 ≤ L) (hL : L ≤ 3584) (h : zRel cb w) (kk : ∀ (cb1 : List zE) (w1 : VR) (o1 : Nat → Int64), zRel cb1 w1 → AW Z (k + 1) (n + 6) 1188 [some (.ref 2000000), some (.ref 0), some (.ref 272), some (.ref 297), some (.int (nI t)), none, none] [] (zW cb1 w1 o1)) : AW Z k n 378 [some (.ref 2000000), some (.ref 0), some (.ref 272), some (.ref 297), some (.int (nI t)), none, none] [] (zW cb w o) := by
  have hM := hZ.re zLC4_ok
  have hRm : zRoom Z k n := zRoom_of hR (by omega) (by omega)
  obtain ⟨a, cb1, w1, hrel, c1, c2⟩ := jj_life h (xs (t + 1)) (xs (t + 2))
  refine AWL.run hM hRm [384] 400 ?_
  show AW Z k n 384 [some (.ref 2000000), some (.ref 0), some (.ref 272), some (.ref 297), some (.int (nI t)), none, none] [.int (nI t + 1), .ref 2000000, .ref 0] (zW cb w o)
  refine AWL.sld (pc := 384) (t := t + 1) hM hS rfl rfl (nI_add t 1) (by omega) hL ?_
  show AW Z k n 385 [some (.ref 2000000), some (.ref 0), some (.ref 272), some (.ref 297), some (.int (nI t)), none, none] [.int (xs (t + 1)), .ref 0] (zW cb w o)
  refine AWL.run hM hRm [390] 400 ?_
  show AW Z k n 390 [some (.ref 2000000), some (.ref 0), some (.ref 272), some (.ref 297), some (.int (nI t)), none, none] [.int (nI t + 2), .ref 2000000, .int (xs (t + 1)), .ref 0] (zW cb w o)
  refine AWL.sld (pc := 390) (t := t + 2) hM hS rfl rfl (nI_add t 2) (by omega) hL ?_
  show AW Z k n 391 [some (.ref 2000000), some (.ref 0), some (.ref 272), some (.ref 297), some (.int (nI t)), none, none] [.int (xs (t + 2)), .int (xs (t + 1)), .ref 0] (zW cb w o)
  refine AWL.callB (pc := 391) (idx := 43) hM hR hN (zRel.len h) (zRel.recv h) c1 zMX11_life_ok rfl rfl rfl (Or.inl (zIn_mem (k := 947) (by decide +kernel))) zVL_B_life rfl (by decide) (by decide) (by omega) (by omega) rfl rfl ?_
  show AW Z k n 394 [some (.ref 2000000), some (.ref 0), some (.ref 272), some (.ref 297), some (.int (nI t)), none, none] [.int a] (zW cb1 w o)
  refine AWL.run hM hRm [400] 400 ?_
  show AW Z k n 400 [some (.ref 2000000), some (.ref 0), some (.ref 272), some (.ref 297), some (.int (nI t)), none, none] [.int (nI t + 1), .ref 2000000, .ref 272, .int a] (zW cb1 w o)
  refine AWL.sld (pc := 400) (t := t + 1) hM hS rfl rfl (nI_add t 1) (by omega) hL ?_
  show AW Z k n 401 [some (.ref 2000000), some (.ref 0), some (.ref 272), some (.ref 297), some (.int (nI t)), none, none] [.int (xs (t + 1)), .ref 272, .int a] (zW cb1 w o)
  refine AWL.run hM hRm [406] 400 ?_
  show AW Z k n 406 [some (.ref 2000000), some (.ref 0), some (.ref 272), some (.ref 297), some (.int (nI t)), none, none] [.int (nI t + 2), .ref 2000000, .int (xs (t + 1)), .ref 272, .int a] (zW cb1 w o)
  refine AWL.sld (pc := 406) (t := t + 2) hM hS rfl rfl (nI_add t 2) (by omega) hL ?_
  show AW Z k n 407 [some (.ref 2000000), some (.ref 0), some (.ref 272), some (.ref 297), some (.int (nI t)), none, none] [.int (xs (t + 2)), .int (xs (t + 1)), .ref 272, .int a] (zW cb1 w o)
  refine AWL.callR (pc := 407) (idx := 46) hM hR hN (zRel.len hrel) c2 zMX12_life_ok rfl rfl rfl (Or.inl (zIn_mem (k := 1745) (by decide +kernel))) zVL_R_life rfl (by decide) (by decide) (by omega) (by omega) (fun _ => rfl) rfl rfl ?_
  show AW Z k n 410 [some (.ref 2000000), some (.ref 0), some (.ref 272), some (.ref 297), some (.int (nI t)), none, none] [.int a, .int a] (zW cb1 w1 o)
  refine AWL.run hM hRm [1188, 413] 400 ?_
  show ((a = a → AW Z k n 1188 [some (.ref 2000000), some (.ref 0), some (.ref 272), some (.ref 297), some (.int (nI t)), none, none] [] (zW cb1 w1 o)) ∧ (¬ (a = a) → AW Z k n 413 [some (.ref 2000000), some (.ref 0), some (.ref 272), some (.ref 297), some (.int (nI t)), none, none] [] (zW cb1 w1 o)))
  exact ⟨fun _ => AW.wide (by omega) (by omega) (kk _ _ _ hrel), fun hf => absurd rfl hf⟩
def zLC5 : List zIt := [(415, .aload_n 1, 1, .null, 0, 0, 0, []), (416, .aload_n 0, 1, .null, 0, 0, 0, []), (417, .iload 4, 2, .null, 0, 0, 0, []), (419, .iconst 1, 1, .int 1, 0, 0, 0, []), (420, .iadd, 1, .null, 0, 0, 0, []), (421, .iaload, 1, .null, 0, 0, 0, []), (422, .aload_n 0, 1, .null, 0, 0, 0, []), (423, .iload 4, 2, .null, 0, 0, 0, []), (425, .iconst 2, 1, .int 2, 0, 0, 0, []), (426, .iadd, 1, .null, 0, 0, 0, []), (427, .iaload, 1, .null, 0, 0, 0, []), (428, .invokevirtual 47, 3, .null, 0, 0, 0, []), (431, .aload_n 2, 1, .null, 0, 0, 0, []), (432, .aload_n 0, 1, .null, 0, 0, 0, []), (433, .iload 4, 2, .null, 0, 0, 0, []), (435, .iconst 1, 1, .int 1, 0, 0, 0, []), (436, .iadd, 1, .null, 0, 0, 0, []), (437, .iaload, 1, .null, 0, 0, 0, []), (438, .aload_n 0, 1, .null, 0, 0, 0, []), (439, .iload 4, 2, .null, 0, 0, 0, []), (441, .iconst 2, 1, .int 2, 0, 0, 0, []), (442, .iadd, 1, .null, 0, 0, 0, []), (443, .iaload, 1, .null, 0, 0, 0, []), (444, .invokevirtual 51, 3, .null, 0, 0, 0, []), (447, .if_icmp .eq 741, 3, .null, 1188, 0, 0, []), (450, .iconst 0, 1, .int 0, 0, 0, 0, []), (451, .ireturn, 1, .null, 0, 0, 0, [])]
set_option maxRecDepth 20000 in
theorem zLC5_ok : zMokL (zLM zLC5) := ⟨by decide +kernel, by decide +kernel, zCL_ok, rfl, trivial, by decide +kernel⟩
theorem zVL_B_may : zVirt ⟨"BorrowedLives", "may", "(II)Z"⟩ 2 := ⟨⟨zIn_mem (k := 107) (by decide +kernel), by decide +kernel, by decide +kernel, by decide +kernel⟩, zIn_mem (k := 962) (by decide +kernel), zIn_mem (k := 963) (by decide +kernel)⟩
theorem zVL_R_may : zVirt ⟨"BorrowedLivesModel", "may", "(II)Z"⟩ 2 := ⟨⟨zIn_mem (k := 119) (by decide +kernel), by decide +kernel, by decide +kernel, by decide +kernel⟩, zIn_mem (k := 1754) (by decide +kernel), zIn_mem (k := 1755) (by decide +kernel)⟩
set_option maxRecDepth 40000 in
set_option maxHeartbeats 8000000 in
theorem law_c5 {Z : zCtx} {L : Nat} {xs : Nat → Int32} (hZ : zOkL Z (zLM [])) (hR : zCan Z 1200 601024 7293033) (hN : zNew Z 0 298) (hT : zThrL Z) (hS : zScr Z L xs) {cb : List zE} {w : VR} {o : Nat → Int64} {k n t : Nat} (hk : k + 1 ≤ 601024) (hn : n + 6 ≤ 7293033) (ht : t + 7 ≤ L) (hL : L ≤ 3584) (h : zRel cb w) (kk : ∀ (cb1 : List zE) (w1 : VR) (o1 : Nat → Int64), zRel cb1 w1 → AW Z (k + 1) (n + 6) 1188 [some (.ref 2000000), some (.ref 0), some (.ref 272), some (.ref 297), some (.int (nI t)), none, none] [] (zW cb1 w1 o1)) : AW Z k n 415 [some (.ref 2000000), some (.ref 0), some (.ref 272), some (.ref 297), some (.int (nI t)), none, none] [] (zW cb w o) := by
  have hM := hZ.re zLC5_ok
  have hRm : zRoom Z k n := zRoom_of hR (by omega) (by omega)
  obtain ⟨a, cb1, w1, hrel, c1, c2⟩ := jj_may h (xs (t + 1)) (xs (t + 2))
  refine AWL.run hM hRm [421] 400 ?_
  show AW Z k n 421 [some (.ref 2000000), some (.ref 0), some (.ref 272), some (.ref 297), some (.int (nI t)), none, none] [.int (nI t + 1), .ref 2000000, .ref 0] (zW cb w o)
  refine AWL.sld (pc := 421) (t := t + 1) hM hS rfl rfl (nI_add t 1) (by omega) hL ?_
  show AW Z k n 422 [some (.ref 2000000), some (.ref 0), some (.ref 272), some (.ref 297), some (.int (nI t)), none, none] [.int (xs (t + 1)), .ref 0] (zW cb w o)
  refine AWL.run hM hRm [427] 400 ?_
  show AW Z k n 427 [some (.ref 2000000), some (.ref 0), some (.ref 272), some (.ref 297), some (.int (nI t)), none, none] [.int (nI t + 2), .ref 2000000, .int (xs (t + 1)), .ref 0] (zW cb w o)
  refine AWL.sld (pc := 427) (t := t + 2) hM hS rfl rfl (nI_add t 2) (by omega) hL ?_
  show AW Z k n 428 [some (.ref 2000000), some (.ref 0), some (.ref 272), some (.ref 297), some (.int (nI t)), none, none] [.int (xs (t + 2)), .int (xs (t + 1)), .ref 0] (zW cb w o)
  refine AWL.callB (pc := 428) (idx := 47) hM hR hN (zRel.len h) (zRel.recv h) c1 zMX11_may_ok rfl rfl rfl (Or.inl (zIn_mem (k := 961) (by decide +kernel))) zVL_B_may rfl (by decide) (by decide) (by omega) (by omega) rfl rfl ?_
  show AW Z k n 431 [some (.ref 2000000), some (.ref 0), some (.ref 272), some (.ref 297), some (.int (nI t)), none, none] [.int a] (zW cb1 w o)
  refine AWL.run hM hRm [437] 400 ?_
  show AW Z k n 437 [some (.ref 2000000), some (.ref 0), some (.ref 272), some (.ref 297), some (.int (nI t)), none, none] [.int (nI t + 1), .ref 2000000, .ref 272, .int a] (zW cb1 w o)
  refine AWL.sld (pc := 437) (t := t + 1) hM hS rfl rfl (nI_add t 1) (by omega) hL ?_
  show AW Z k n 438 [some (.ref 2000000), some (.ref 0), some (.ref 272), some (.ref 297), some (.int (nI t)), none, none] [.int (xs (t + 1)), .ref 272, .int a] (zW cb1 w o)
  refine AWL.run hM hRm [443] 400 ?_
  show AW Z k n 443 [some (.ref 2000000), some (.ref 0), some (.ref 272), some (.ref 297), some (.int (nI t)), none, none] [.int (nI t + 2), .ref 2000000, .int (xs (t + 1)), .ref 272, .int a] (zW cb1 w o)
  refine AWL.sld (pc := 443) (t := t + 2) hM hS rfl rfl (nI_add t 2) (by omega) hL ?_
  show AW Z k n 444 [some (.ref 2000000), some (.ref 0), some (.ref 272), some (.ref 297), some (.int (nI t)), none, none] [.int (xs (t + 2)), .int (xs (t + 1)), .ref 272, .int a] (zW cb1 w o)
  refine AWL.callR (pc := 444) (idx := 51) hM hR hN (zRel.len hrel) c2 zMX12_may_ok rfl rfl rfl (Or.inl (zIn_mem (k := 1753) (by decide +kernel))) zVL_R_may rfl (by decide) (by decide) (by omega) (by omega) (fun _ => rfl) rfl rfl ?_
  show AW Z k n 447 [some (.ref 2000000), some (.ref 0), some (.ref 272), some (.ref 297), some (.int (nI t)), none, none] [.int a, .int a] (zW cb1 w1 o)
  refine AWL.run hM hRm [1188, 450] 400 ?_
  show ((a = a → AW Z k n 1188 [some (.ref 2000000), some (.ref 0), some (.ref 272), some (.ref 297), some (.int (nI t)), none, none] [] (zW cb1 w1 o)) ∧ (¬ (a = a) → AW Z k n 450 [some (.ref 2000000), some (.ref 0), some (.ref 272), some (.ref 297), some (.int (nI t)), none, none] [] (zW cb1 w1 o)))
  exact ⟨fun _ => AW.wide (by omega) (by omega) (kk _ _ _ hrel), fun hf => absurd rfl hf⟩
def zLC6 : List zIt := [(452, .aload_n 1, 1, .null, 0, 0, 0, []), (453, .aload_n 0, 1, .null, 0, 0, 0, []), (454, .iload 4, 2, .null, 0, 0, 0, []), (456, .iconst 1, 1, .int 1, 0, 0, 0, []), (457, .iadd, 1, .null, 0, 0, 0, []), (458, .iaload, 1, .null, 0, 0, 0, []), (459, .aload_n 0, 1, .null, 0, 0, 0, []), (460, .iload 4, 2, .null, 0, 0, 0, []), (462, .iconst 2, 1, .int 2, 0, 0, 0, []), (463, .iadd, 1, .null, 0, 0, 0, []), (464, .iaload, 1, .null, 0, 0, 0, []), (465, .invokevirtual 52, 3, .null, 0, 0, 0, []), (468, .aload_n 2, 1, .null, 0, 0, 0, []), (469, .aload_n 0, 1, .null, 0, 0, 0, []), (470, .iload 4, 2, .null, 0, 0, 0, []), (472, .iconst 1, 1, .int 1, 0, 0, 0, []), (473, .iadd, 1, .null, 0, 0, 0, []), (474, .iaload, 1, .null, 0, 0, 0, []), (475, .aload_n 0, 1, .null, 0, 0, 0, []), (476, .iload 4, 2, .null, 0, 0, 0, []), (478, .iconst 2, 1, .int 2, 0, 0, 0, []), (479, .iadd, 1, .null, 0, 0, 0, []), (480, .iaload, 1, .null, 0, 0, 0, []), (481, .invokevirtual 55, 3, .null, 0, 0, 0, []), (484, .if_icmp .eq 704, 3, .null, 1188, 0, 0, []), (487, .iconst 0, 1, .int 0, 0, 0, 0, []), (488, .ireturn, 1, .null, 0, 0, 0, [])]
set_option maxRecDepth 20000 in
theorem zLC6_ok : zMokL (zLM zLC6) := ⟨by decide +kernel, by decide +kernel, zCL_ok, rfl, trivial, by decide +kernel⟩
theorem zVL_B_hide : zVirt ⟨"BorrowedLives", "hide", "(II)Z"⟩ 2 := ⟨⟨zIn_mem (k := 107) (by decide +kernel), by decide +kernel, by decide +kernel, by decide +kernel⟩, zIn_mem (k := 967) (by decide +kernel), zIn_mem (k := 968) (by decide +kernel)⟩
theorem zVL_R_hide : zVirt ⟨"BorrowedLivesModel", "hide", "(II)Z"⟩ 2 := ⟨⟨zIn_mem (k := 119) (by decide +kernel), by decide +kernel, by decide +kernel, by decide +kernel⟩, zIn_mem (k := 1758) (by decide +kernel), zIn_mem (k := 1759) (by decide +kernel)⟩
set_option maxRecDepth 40000 in
set_option maxHeartbeats 8000000 in
theorem law_c6 {Z : zCtx} {L : Nat} {xs : Nat → Int32} (hZ : zOkL Z (zLM [])) (hR : zCan Z 1200 601024 7293033) (hN : zNew Z 0 298) (hT : zThrL Z) (hS : zScr Z L xs) {cb : List zE} {w : VR} {o : Nat → Int64} {k n t : Nat} (hk : k + 1 ≤ 601024) (hn : n + 6 ≤ 7293033) (ht : t + 7 ≤ L) (hL : L ≤ 3584) (h : zRel cb w) (kk : ∀ (cb1 : List zE) (w1 : VR) (o1 : Nat → Int64), zRel cb1 w1 → AW Z (k + 1) (n + 6) 1188 [some (.ref 2000000), some (.ref 0), some (.ref 272), some (.ref 297), some (.int (nI t)), none, none] [] (zW cb1 w1 o1)) : AW Z k n 452 [some (.ref 2000000), some (.ref 0), some (.ref 272), some (.ref 297), some (.int (nI t)), none, none] [] (zW cb w o) := by
  have hM := hZ.re zLC6_ok
  have hRm : zRoom Z k n := zRoom_of hR (by omega) (by omega)
  obtain ⟨a, cb1, w1, hrel, c1, c2⟩ := jj_hide h (xs (t + 1)) (xs (t + 2))
  refine AWL.run hM hRm [458] 400 ?_
  show AW Z k n 458 [some (.ref 2000000), some (.ref 0), some (.ref 272), some (.ref 297), some (.int (nI t)), none, none] [.int (nI t + 1), .ref 2000000, .ref 0] (zW cb w o)
  refine AWL.sld (pc := 458) (t := t + 1) hM hS rfl rfl (nI_add t 1) (by omega) hL ?_
  show AW Z k n 459 [some (.ref 2000000), some (.ref 0), some (.ref 272), some (.ref 297), some (.int (nI t)), none, none] [.int (xs (t + 1)), .ref 0] (zW cb w o)
  refine AWL.run hM hRm [464] 400 ?_
  show AW Z k n 464 [some (.ref 2000000), some (.ref 0), some (.ref 272), some (.ref 297), some (.int (nI t)), none, none] [.int (nI t + 2), .ref 2000000, .int (xs (t + 1)), .ref 0] (zW cb w o)
  refine AWL.sld (pc := 464) (t := t + 2) hM hS rfl rfl (nI_add t 2) (by omega) hL ?_
  show AW Z k n 465 [some (.ref 2000000), some (.ref 0), some (.ref 272), some (.ref 297), some (.int (nI t)), none, none] [.int (xs (t + 2)), .int (xs (t + 1)), .ref 0] (zW cb w o)
  refine AWL.callB (pc := 465) (idx := 52) hM hR hN (zRel.len h) (zRel.recv h) c1 zMX11_hide_ok rfl rfl rfl (Or.inl (zIn_mem (k := 966) (by decide +kernel))) zVL_B_hide rfl (by decide) (by decide) (by omega) (by omega) rfl rfl ?_
  show AW Z k n 468 [some (.ref 2000000), some (.ref 0), some (.ref 272), some (.ref 297), some (.int (nI t)), none, none] [.int a] (zW cb1 w o)
  refine AWL.run hM hRm [474] 400 ?_
  show AW Z k n 474 [some (.ref 2000000), some (.ref 0), some (.ref 272), some (.ref 297), some (.int (nI t)), none, none] [.int (nI t + 1), .ref 2000000, .ref 272, .int a] (zW cb1 w o)
  refine AWL.sld (pc := 474) (t := t + 1) hM hS rfl rfl (nI_add t 1) (by omega) hL ?_
  show AW Z k n 475 [some (.ref 2000000), some (.ref 0), some (.ref 272), some (.ref 297), some (.int (nI t)), none, none] [.int (xs (t + 1)), .ref 272, .int a] (zW cb1 w o)
  refine AWL.run hM hRm [480] 400 ?_
  show AW Z k n 480 [some (.ref 2000000), some (.ref 0), some (.ref 272), some (.ref 297), some (.int (nI t)), none, none] [.int (nI t + 2), .ref 2000000, .int (xs (t + 1)), .ref 272, .int a] (zW cb1 w o)
  refine AWL.sld (pc := 480) (t := t + 2) hM hS rfl rfl (nI_add t 2) (by omega) hL ?_
  show AW Z k n 481 [some (.ref 2000000), some (.ref 0), some (.ref 272), some (.ref 297), some (.int (nI t)), none, none] [.int (xs (t + 2)), .int (xs (t + 1)), .ref 272, .int a] (zW cb1 w o)
  refine AWL.callR (pc := 481) (idx := 55) hM hR hN (zRel.len hrel) c2 zMX12_hide_ok rfl rfl rfl (Or.inl (zIn_mem (k := 1757) (by decide +kernel))) zVL_R_hide rfl (by decide) (by decide) (by omega) (by omega) (fun _ => rfl) rfl rfl ?_
  show AW Z k n 484 [some (.ref 2000000), some (.ref 0), some (.ref 272), some (.ref 297), some (.int (nI t)), none, none] [.int a, .int a] (zW cb1 w1 o)
  refine AWL.run hM hRm [1188, 487] 400 ?_
  show ((a = a → AW Z k n 1188 [some (.ref 2000000), some (.ref 0), some (.ref 272), some (.ref 297), some (.int (nI t)), none, none] [] (zW cb1 w1 o)) ∧ (¬ (a = a) → AW Z k n 487 [some (.ref 2000000), some (.ref 0), some (.ref 272), some (.ref 297), some (.int (nI t)), none, none] [] (zW cb1 w1 o)))
  exact ⟨fun _ => AW.wide (by omega) (by omega) (kk _ _ _ hrel), fun hf => absurd rfl hf⟩
def zLC7 : List zIt := [(489, .aload_n 1, 1, .null, 0, 0, 0, []), (490, .aload_n 0, 1, .null, 0, 0, 0, []), (491, .iload 4, 2, .null, 0, 0, 0, []), (493, .iconst 1, 1, .int 1, 0, 0, 0, []), (494, .iadd, 1, .null, 0, 0, 0, []), (495, .iaload, 1, .null, 0, 0, 0, []), (496, .invokevirtual 56, 3, .null, 0, 0, 0, []), (499, .aload_n 2, 1, .null, 0, 0, 0, []), (500, .aload_n 0, 1, .null, 0, 0, 0, []), (501, .iload 4, 2, .null, 0, 0, 0, []), (503, .iconst 1, 1, .int 1, 0, 0, 0, []), (504, .iadd, 1, .null, 0, 0, 0, []), (505, .iaload, 1, .null, 0, 0, 0, []), (506, .invokevirtual 60, 3, .null, 0, 0, 0, []), (509, .if_icmp .eq 679, 3, .null, 1188, 0, 0, []), (512, .iconst 0, 1, .int 0, 0, 0, 0, []), (513, .ireturn, 1, .null, 0, 0, 0, [])]
set_option maxRecDepth 20000 in
theorem zLC7_ok : zMokL (zLM zLC7) := ⟨by decide +kernel, by decide +kernel, zCL_ok, rfl, trivial, by decide +kernel⟩
theorem zVL_B_lot : zVirt ⟨"BorrowedLives", "lot", "(I)I"⟩ 1 := ⟨⟨zIn_mem (k := 107) (by decide +kernel), by decide +kernel, by decide +kernel, by decide +kernel⟩, zIn_mem (k := 988) (by decide +kernel), zIn_mem (k := 989) (by decide +kernel)⟩
theorem zVL_R_lot : zVirt ⟨"BorrowedLivesModel", "lot", "(I)I"⟩ 1 := ⟨⟨zIn_mem (k := 119) (by decide +kernel), by decide +kernel, by decide +kernel, by decide +kernel⟩, zIn_mem (k := 1774) (by decide +kernel), zIn_mem (k := 1775) (by decide +kernel)⟩
set_option maxRecDepth 40000 in
set_option maxHeartbeats 8000000 in
theorem law_c7 {Z : zCtx} {L : Nat} {xs : Nat → Int32} (hZ : zOkL Z (zLM [])) (hR : zCan Z 1200 601024 7293033) (hN : zNew Z 0 298) (hT : zThrL Z) (hS : zScr Z L xs) {cb : List zE} {w : VR} {o : Nat → Int64} {k n t : Nat} (hk : k + 1 ≤ 601024) (hn : n + 6 ≤ 7293033) (ht : t + 7 ≤ L) (hL : L ≤ 3584) (h : zRel cb w) (kk : ∀ (cb1 : List zE) (w1 : VR) (o1 : Nat → Int64), zRel cb1 w1 → AW Z (k + 1) (n + 6) 1188 [some (.ref 2000000), some (.ref 0), some (.ref 272), some (.ref 297), some (.int (nI t)), none, none] [] (zW cb1 w1 o1)) : AW Z k n 489 [some (.ref 2000000), some (.ref 0), some (.ref 272), some (.ref 297), some (.int (nI t)), none, none] [] (zW cb w o) := by
  have hM := hZ.re zLC7_ok
  have hRm : zRoom Z k n := zRoom_of hR (by omega) (by omega)
  obtain ⟨a, cb1, w1, hrel, c1, c2⟩ := jj_lot h (xs (t + 1))
  refine AWL.run hM hRm [495] 400 ?_
  show AW Z k n 495 [some (.ref 2000000), some (.ref 0), some (.ref 272), some (.ref 297), some (.int (nI t)), none, none] [.int (nI t + 1), .ref 2000000, .ref 0] (zW cb w o)
  refine AWL.sld (pc := 495) (t := t + 1) hM hS rfl rfl (nI_add t 1) (by omega) hL ?_
  show AW Z k n 496 [some (.ref 2000000), some (.ref 0), some (.ref 272), some (.ref 297), some (.int (nI t)), none, none] [.int (xs (t + 1)), .ref 0] (zW cb w o)
  refine AWL.callB (pc := 496) (idx := 56) hM hR hN (zRel.len h) (zRel.recv h) c1 zMX11_lot_ok rfl rfl rfl (Or.inl (zIn_mem (k := 987) (by decide +kernel))) zVL_B_lot rfl (by decide) (by decide) (by omega) (by omega) rfl rfl ?_
  show AW Z k n 499 [some (.ref 2000000), some (.ref 0), some (.ref 272), some (.ref 297), some (.int (nI t)), none, none] [.int a] (zW cb1 w o)
  refine AWL.run hM hRm [505] 400 ?_
  show AW Z k n 505 [some (.ref 2000000), some (.ref 0), some (.ref 272), some (.ref 297), some (.int (nI t)), none, none] [.int (nI t + 1), .ref 2000000, .ref 272, .int a] (zW cb1 w o)
  refine AWL.sld (pc := 505) (t := t + 1) hM hS rfl rfl (nI_add t 1) (by omega) hL ?_
  show AW Z k n 506 [some (.ref 2000000), some (.ref 0), some (.ref 272), some (.ref 297), some (.int (nI t)), none, none] [.int (xs (t + 1)), .ref 272, .int a] (zW cb1 w o)
  refine AWL.callR (pc := 506) (idx := 60) hM hR hN (zRel.len hrel) c2 zMX12_lot_ok rfl rfl rfl (Or.inl (zIn_mem (k := 1773) (by decide +kernel))) zVL_R_lot rfl (by decide) (by decide) (by omega) (by omega) (fun _ => rfl) rfl rfl ?_
  show AW Z k n 509 [some (.ref 2000000), some (.ref 0), some (.ref 272), some (.ref 297), some (.int (nI t)), none, none] [.int a, .int a] (zW cb1 w1 o)
  refine AWL.run hM hRm [1188, 512] 400 ?_
  show ((a = a → AW Z k n 1188 [some (.ref 2000000), some (.ref 0), some (.ref 272), some (.ref 297), some (.int (nI t)), none, none] [] (zW cb1 w1 o)) ∧ (¬ (a = a) → AW Z k n 512 [some (.ref 2000000), some (.ref 0), some (.ref 272), some (.ref 297), some (.int (nI t)), none, none] [] (zW cb1 w1 o)))
  exact ⟨fun _ => AW.wide (by omega) (by omega) (kk _ _ _ hrel), fun hf => absurd rfl hf⟩
def zLC8 : List zIt := [(514, .aload_n 1, 1, .null, 0, 0, 0, []), (515, .aload_n 0, 1, .null, 0, 0, 0, []), (516, .iload 4, 2, .null, 0, 0, 0, []), (518, .iconst 1, 1, .int 1, 0, 0, 0, []), (519, .iadd, 1, .null, 0, 0, 0, []), (520, .iaload, 1, .null, 0, 0, 0, []), (521, .aload_n 0, 1, .null, 0, 0, 0, []), (522, .iload 4, 2, .null, 0, 0, 0, []), (524, .iconst 2, 1, .int 2, 0, 0, 0, []), (525, .iadd, 1, .null, 0, 0, 0, []), (526, .iaload, 1, .null, 0, 0, 0, []), (527, .invokevirtual 61, 3, .null, 0, 0, 0, []), (530, .aload_n 2, 1, .null, 0, 0, 0, []), (531, .aload_n 0, 1, .null, 0, 0, 0, []), (532, .iload 4, 2, .null, 0, 0, 0, []), (534, .iconst 1, 1, .int 1, 0, 0, 0, []), (535, .iadd, 1, .null, 0, 0, 0, []), (536, .iaload, 1, .null, 0, 0, 0, []), (537, .aload_n 0, 1, .null, 0, 0, 0, []), (538, .iload 4, 2, .null, 0, 0, 0, []), (540, .iconst 2, 1, .int 2, 0, 0, 0, []), (541, .iadd, 1, .null, 0, 0, 0, []), (542, .iaload, 1, .null, 0, 0, 0, []), (543, .invokevirtual 64, 3, .null, 0, 0, 0, []), (546, .if_icmp .eq 642, 3, .null, 1188, 0, 0, []), (549, .iconst 0, 1, .int 0, 0, 0, 0, []), (550, .ireturn, 1, .null, 0, 0, 0, [])]
set_option maxRecDepth 20000 in
theorem zLC8_ok : zMokL (zLM zLC8) := ⟨by decide +kernel, by decide +kernel, zCL_ok, rfl, trivial, by decide +kernel⟩
theorem zVL_B_swap : zVirt ⟨"BorrowedLives", "swap", "(II)Z"⟩ 2 := ⟨⟨zIn_mem (k := 107) (by decide +kernel), by decide +kernel, by decide +kernel, by decide +kernel⟩, zIn_mem (k := 1014) (by decide +kernel), zIn_mem (k := 1015) (by decide +kernel)⟩
theorem zVL_R_swap : zVirt ⟨"BorrowedLivesModel", "swap", "(II)Z"⟩ 2 := ⟨⟨zIn_mem (k := 119) (by decide +kernel), by decide +kernel, by decide +kernel, by decide +kernel⟩, zIn_mem (k := 1798) (by decide +kernel), zIn_mem (k := 1799) (by decide +kernel)⟩
set_option maxRecDepth 40000 in
set_option maxHeartbeats 8000000 in
theorem law_c8 {Z : zCtx} {L : Nat} {xs : Nat → Int32} (hZ : zOkL Z (zLM [])) (hR : zCan Z 1200 601024 7293033) (hN : zNew Z 0 298) (hT : zThrL Z) (hS : zScr Z L xs) {cb : List zE} {w : VR} {o : Nat → Int64} {k n t : Nat} (hk : k + 1 ≤ 601024) (hn : n + 6 ≤ 7293033) (ht : t + 7 ≤ L) (hL : L ≤ 3584) (h : zRel cb w) (kk : ∀ (cb1 : List zE) (w1 : VR) (o1 : Nat → Int64), zRel cb1 w1 → AW Z (k + 1) (n + 6) 1188 [some (.ref 2000000), some (.ref 0), some (.ref 272), some (.ref 297), some (.int (nI t)), none, none] [] (zW cb1 w1 o1)) : AW Z k n 514 [some (.ref 2000000), some (.ref 0), some (.ref 272), some (.ref 297), some (.int (nI t)), none, none] [] (zW cb w o) := by
  have hM := hZ.re zLC8_ok
  have hRm : zRoom Z k n := zRoom_of hR (by omega) (by omega)
  obtain ⟨a, cb1, w1, hrel, c1, c2⟩ := jj_swap h (xs (t + 1)) (xs (t + 2))
  refine AWL.run hM hRm [520] 400 ?_
  show AW Z k n 520 [some (.ref 2000000), some (.ref 0), some (.ref 272), some (.ref 297), some (.int (nI t)), none, none] [.int (nI t + 1), .ref 2000000, .ref 0] (zW cb w o)
  refine AWL.sld (pc := 520) (t := t + 1) hM hS rfl rfl (nI_add t 1) (by omega) hL ?_
  show AW Z k n 521 [some (.ref 2000000), some (.ref 0), some (.ref 272), some (.ref 297), some (.int (nI t)), none, none] [.int (xs (t + 1)), .ref 0] (zW cb w o)
  refine AWL.run hM hRm [526] 400 ?_
  show AW Z k n 526 [some (.ref 2000000), some (.ref 0), some (.ref 272), some (.ref 297), some (.int (nI t)), none, none] [.int (nI t + 2), .ref 2000000, .int (xs (t + 1)), .ref 0] (zW cb w o)
  refine AWL.sld (pc := 526) (t := t + 2) hM hS rfl rfl (nI_add t 2) (by omega) hL ?_
  show AW Z k n 527 [some (.ref 2000000), some (.ref 0), some (.ref 272), some (.ref 297), some (.int (nI t)), none, none] [.int (xs (t + 2)), .int (xs (t + 1)), .ref 0] (zW cb w o)
  refine AWL.callB (pc := 527) (idx := 61) hM hR hN (zRel.len h) (zRel.recv h) c1 zMX11_swap_ok rfl rfl rfl (Or.inl (zIn_mem (k := 1013) (by decide +kernel))) zVL_B_swap rfl (by decide) (by decide) (by omega) (by omega) rfl rfl ?_
  show AW Z k n 530 [some (.ref 2000000), some (.ref 0), some (.ref 272), some (.ref 297), some (.int (nI t)), none, none] [.int a] (zW cb1 w o)
  refine AWL.run hM hRm [536] 400 ?_
  show AW Z k n 536 [some (.ref 2000000), some (.ref 0), some (.ref 272), some (.ref 297), some (.int (nI t)), none, none] [.int (nI t + 1), .ref 2000000, .ref 272, .int a] (zW cb1 w o)
  refine AWL.sld (pc := 536) (t := t + 1) hM hS rfl rfl (nI_add t 1) (by omega) hL ?_
  show AW Z k n 537 [some (.ref 2000000), some (.ref 0), some (.ref 272), some (.ref 297), some (.int (nI t)), none, none] [.int (xs (t + 1)), .ref 272, .int a] (zW cb1 w o)
  refine AWL.run hM hRm [542] 400 ?_
  show AW Z k n 542 [some (.ref 2000000), some (.ref 0), some (.ref 272), some (.ref 297), some (.int (nI t)), none, none] [.int (nI t + 2), .ref 2000000, .int (xs (t + 1)), .ref 272, .int a] (zW cb1 w o)
  refine AWL.sld (pc := 542) (t := t + 2) hM hS rfl rfl (nI_add t 2) (by omega) hL ?_
  show AW Z k n 543 [some (.ref 2000000), some (.ref 0), some (.ref 272), some (.ref 297), some (.int (nI t)), none, none] [.int (xs (t + 2)), .int (xs (t + 1)), .ref 272, .int a] (zW cb1 w o)
  refine AWL.callR (pc := 543) (idx := 64) hM hR hN (zRel.len hrel) c2 zMX12_swap_ok rfl rfl rfl (Or.inl (zIn_mem (k := 1797) (by decide +kernel))) zVL_R_swap rfl (by decide) (by decide) (by omega) (by omega) (fun _ => rfl) rfl rfl ?_
  show AW Z k n 546 [some (.ref 2000000), some (.ref 0), some (.ref 272), some (.ref 297), some (.int (nI t)), none, none] [.int a, .int a] (zW cb1 w1 o)
  refine AWL.run hM hRm [1188, 549] 400 ?_
  show ((a = a → AW Z k n 1188 [some (.ref 2000000), some (.ref 0), some (.ref 272), some (.ref 297), some (.int (nI t)), none, none] [] (zW cb1 w1 o)) ∧ (¬ (a = a) → AW Z k n 549 [some (.ref 2000000), some (.ref 0), some (.ref 272), some (.ref 297), some (.int (nI t)), none, none] [] (zW cb1 w1 o)))
  exact ⟨fun _ => AW.wide (by omega) (by omega) (kk _ _ _ hrel), fun hf => absurd rfl hf⟩
def zLC9 : List zIt := [(551, .aload_n 1, 1, .null, 0, 0, 0, []), (552, .invokevirtual 65, 3, .null, 0, 0, 0, []), (555, .aload_n 2, 1, .null, 0, 0, 0, []), (556, .invokevirtual 68, 3, .null, 0, 0, 0, []), (559, .if_icmp .eq 629, 3, .null, 1188, 0, 0, []), (562, .iconst 0, 1, .int 0, 0, 0, 0, []), (563, .ireturn, 1, .null, 0, 0, 0, [])]
set_option maxRecDepth 20000 in
theorem zLC9_ok : zMokL (zLM zLC9) := ⟨by decide +kernel, by decide +kernel, zCL_ok, rfl, trivial, by decide +kernel⟩
theorem zVL_B_day : zVirt ⟨"BorrowedLives", "day", "()I"⟩ 0 := ⟨⟨zIn_mem (k := 107) (by decide +kernel), by decide +kernel, by decide +kernel, by decide +kernel⟩, zIn_mem (k := 1024) (by decide +kernel), zIn_mem (k := 1025) (by decide +kernel)⟩
theorem zVL_R_day : zVirt ⟨"BorrowedLivesModel", "day", "()I"⟩ 0 := ⟨⟨zIn_mem (k := 119) (by decide +kernel), by decide +kernel, by decide +kernel, by decide +kernel⟩, zIn_mem (k := 1814) (by decide +kernel), zIn_mem (k := 1815) (by decide +kernel)⟩
set_option maxRecDepth 40000 in
set_option maxHeartbeats 8000000 in
theorem law_c9 {Z : zCtx} {L : Nat} {xs : Nat → Int32} (hZ : zOkL Z (zLM [])) (hR : zCan Z 1200 601024 7293033) (hN : zNew Z 0 298) (hT : zThrL Z) (hS : zScr Z L xs) {cb : List zE} {w : VR} {o : Nat → Int64} {k n t : Nat} (hk : k + 1 ≤ 601024) (hn : n + 6 ≤ 7293033) (ht : t + 7 ≤ L) (hL : L ≤ 3584) (h : zRel cb w) (kk : ∀ (cb1 : List zE) (w1 : VR) (o1 : Nat → Int64), zRel cb1 w1 → AW Z (k + 1) (n + 6) 1188 [some (.ref 2000000), some (.ref 0), some (.ref 272), some (.ref 297), some (.int (nI t)), none, none] [] (zW cb1 w1 o1)) : AW Z k n 551 [some (.ref 2000000), some (.ref 0), some (.ref 272), some (.ref 297), some (.int (nI t)), none, none] [] (zW cb w o) := by
  have hM := hZ.re zLC9_ok
  have hRm : zRoom Z k n := zRoom_of hR (by omega) (by omega)
  obtain ⟨a, cb1, w1, hrel, c1, c2⟩ := jj_day h
  refine AWL.run hM hRm [552] 400 ?_
  show AW Z k n 552 [some (.ref 2000000), some (.ref 0), some (.ref 272), some (.ref 297), some (.int (nI t)), none, none] [.ref 0] (zW cb w o)
  refine AWL.callB (pc := 552) (idx := 65) hM hR hN (zRel.len h) (zRel.recv h) c1 zMX11_day_ok rfl rfl rfl (Or.inl (zIn_mem (k := 1023) (by decide +kernel))) zVL_B_day rfl (by decide) (by decide) (by omega) (by omega) rfl rfl ?_
  show AW Z k n 555 [some (.ref 2000000), some (.ref 0), some (.ref 272), some (.ref 297), some (.int (nI t)), none, none] [.int a] (zW cb1 w o)
  refine AWL.run hM hRm [556] 400 ?_
  show AW Z k n 556 [some (.ref 2000000), some (.ref 0), some (.ref 272), some (.ref 297), some (.int (nI t)), none, none] [.ref 272, .int a] (zW cb1 w o)
  refine AWL.callR (pc := 556) (idx := 68) hM hR hN (zRel.len hrel) c2 zMX12_day_ok rfl rfl rfl (Or.inl (zIn_mem (k := 1813) (by decide +kernel))) zVL_R_day rfl (by decide) (by decide) (by omega) (by omega) (fun _ => rfl) rfl rfl ?_
  show AW Z k n 559 [some (.ref 2000000), some (.ref 0), some (.ref 272), some (.ref 297), some (.int (nI t)), none, none] [.int a, .int a] (zW cb1 w1 o)
  refine AWL.run hM hRm [1188, 562] 400 ?_
  show ((a = a → AW Z k n 1188 [some (.ref 2000000), some (.ref 0), some (.ref 272), some (.ref 297), some (.int (nI t)), none, none] [] (zW cb1 w1 o)) ∧ (¬ (a = a) → AW Z k n 562 [some (.ref 2000000), some (.ref 0), some (.ref 272), some (.ref 297), some (.int (nI t)), none, none] [] (zW cb1 w1 o)))
  exact ⟨fun _ => AW.wide (by omega) (by omega) (kk _ _ _ hrel), fun hf => absurd rfl hf⟩
def zLC10 : List zIt := [(564, .aload_n 1, 1, .null, 0, 0, 0, []), (565, .invokevirtual 69, 3, .null, 0, 0, 0, []), (568, .aload_n 2, 1, .null, 0, 0, 0, []), (569, .invokevirtual 72, 3, .null, 0, 0, 0, []), (572, .if_icmp .eq 616, 3, .null, 1188, 0, 0, []), (575, .iconst 0, 1, .int 0, 0, 0, 0, []), (576, .ireturn, 1, .null, 0, 0, 0, [])]
set_option maxRecDepth 20000 in
theorem zLC10_ok : zMokL (zLM zLC10) := ⟨by decide +kernel, by decide +kernel, zCL_ok, rfl, trivial, by decide +kernel⟩
theorem zVL_B_home : zVirt ⟨"BorrowedLives", "home", "()I"⟩ 0 := ⟨⟨zIn_mem (k := 107) (by decide +kernel), by decide +kernel, by decide +kernel, by decide +kernel⟩, zIn_mem (k := 1075) (by decide +kernel), zIn_mem (k := 1076) (by decide +kernel)⟩
theorem zVL_R_home : zVirt ⟨"BorrowedLivesModel", "home", "()I"⟩ 0 := ⟨⟨zIn_mem (k := 119) (by decide +kernel), by decide +kernel, by decide +kernel, by decide +kernel⟩, zIn_mem (k := 1857) (by decide +kernel), zIn_mem (k := 1858) (by decide +kernel)⟩
set_option maxRecDepth 40000 in
set_option maxHeartbeats 8000000 in
theorem law_c10 {Z : zCtx} {L : Nat} {xs : Nat → Int32} (hZ : zOkL Z (zLM [])) (hR : zCan Z 1200 601024 7293033) (hN : zNew Z 0 298) (hT : zThrL Z) (hS : zScr Z L xs) {cb : List zE} {w : VR} {o : Nat → Int64} {k n t : Nat} (hk : k + 1 ≤ 601024) (hn : n + 6 ≤ 7293033) (ht : t + 7 ≤ L) (hL : L ≤ 3584) (h : zRel cb w) (kk : ∀ (cb1 : List zE) (w1 : VR) (o1 : Nat → Int64), zRel cb1 w1 → AW Z (k + 1) (n + 6) 1188 [some (.ref 2000000), some (.ref 0), some (.ref 272), some (.ref 297), some (.int (nI t)), none, none] [] (zW cb1 w1 o1)) : AW Z k n 564 [some (.ref 2000000), some (.ref 0), some (.ref 272), some (.ref 297), some (.int (nI t)), none, none] [] (zW cb w o) := by
  have hM := hZ.re zLC10_ok
  have hRm : zRoom Z k n := zRoom_of hR (by omega) (by omega)
  obtain ⟨a, cb1, w1, hrel, c1, c2⟩ := jj_home h
  refine AWL.run hM hRm [565] 400 ?_
  show AW Z k n 565 [some (.ref 2000000), some (.ref 0), some (.ref 272), some (.ref 297), some (.int (nI t)), none, none] [.ref 0] (zW cb w o)
  refine AWL.callB (pc := 565) (idx := 69) hM hR hN (zRel.len h) (zRel.recv h) c1 zMX11_home_ok rfl rfl rfl (Or.inl (zIn_mem (k := 1074) (by decide +kernel))) zVL_B_home rfl (by decide) (by decide) (by omega) (by omega) rfl rfl ?_
  show AW Z k n 568 [some (.ref 2000000), some (.ref 0), some (.ref 272), some (.ref 297), some (.int (nI t)), none, none] [.int a] (zW cb1 w o)
  refine AWL.run hM hRm [569] 400 ?_
  show AW Z k n 569 [some (.ref 2000000), some (.ref 0), some (.ref 272), some (.ref 297), some (.int (nI t)), none, none] [.ref 272, .int a] (zW cb1 w o)
  refine AWL.callR (pc := 569) (idx := 72) hM hR hN (zRel.len hrel) c2 zMX12_home_ok rfl rfl rfl (Or.inl (zIn_mem (k := 1856) (by decide +kernel))) zVL_R_home rfl (by decide) (by decide) (by omega) (by omega) (fun _ => rfl) rfl rfl ?_
  show AW Z k n 572 [some (.ref 2000000), some (.ref 0), some (.ref 272), some (.ref 297), some (.int (nI t)), none, none] [.int a, .int a] (zW cb1 w1 o)
  refine AWL.run hM hRm [1188, 575] 400 ?_
  show ((a = a → AW Z k n 1188 [some (.ref 2000000), some (.ref 0), some (.ref 272), some (.ref 297), some (.int (nI t)), none, none] [] (zW cb1 w1 o)) ∧ (¬ (a = a) → AW Z k n 575 [some (.ref 2000000), some (.ref 0), some (.ref 272), some (.ref 297), some (.int (nI t)), none, none] [] (zW cb1 w1 o)))
  exact ⟨fun _ => AW.wide (by omega) (by omega) (kk _ _ _ hrel), fun hf => absurd rfl hf⟩
def zLC11 : List zIt := [(577, .aload_n 1, 1, .null, 0, 0, 0, []), (578, .invokevirtual 73, 3, .null, 0, 0, 0, []), (581, .aload_n 2, 1, .null, 0, 0, 0, []), (582, .invokevirtual 77, 3, .null, 0, 0, 0, []), (585, .if_icmp .eq 603, 3, .null, 1188, 0, 0, []), (588, .iconst 0, 1, .int 0, 0, 0, 0, []), (589, .ireturn, 1, .null, 0, 0, 0, [])]
set_option maxRecDepth 20000 in
theorem zLC11_ok : zMokL (zLM zLC11) := ⟨by decide +kernel, by decide +kernel, zCL_ok, rfl, trivial, by decide +kernel⟩
theorem zVL_B_undo : zVirt ⟨"BorrowedLives", "undo", "()Z"⟩ 0 := ⟨⟨zIn_mem (k := 107) (by decide +kernel), by decide +kernel, by decide +kernel, by decide +kernel⟩, zIn_mem (k := 1088) (by decide +kernel), zIn_mem (k := 1089) (by decide +kernel)⟩
theorem zVL_R_undo : zVirt ⟨"BorrowedLivesModel", "undo", "()Z"⟩ 0 := ⟨⟨zIn_mem (k := 119) (by decide +kernel), by decide +kernel, by decide +kernel, by decide +kernel⟩, zIn_mem (k := 1869) (by decide +kernel), zIn_mem (k := 1870) (by decide +kernel)⟩
set_option maxRecDepth 40000 in
set_option maxHeartbeats 8000000 in
theorem law_c11 {Z : zCtx} {L : Nat} {xs : Nat → Int32} (hZ : zOkL Z (zLM [])) (hR : zCan Z 1200 601024 7293033) (hN : zNew Z 0 298) (hT : zThrL Z) (hS : zScr Z L xs) {cb : List zE} {w : VR} {o : Nat → Int64} {k n t : Nat} (hk : k + 1 ≤ 601024) (hn : n + 6 ≤ 7293033) (ht : t + 7 ≤ L) (hL : L ≤ 3584) (h : zRel cb w) (kk : ∀ (cb1 : List zE) (w1 : VR) (o1 : Nat → Int64), zRel cb1 w1 → AW Z (k + 1) (n + 6) 1188 [some (.ref 2000000), some (.ref 0), some (.ref 272), some (.ref 297), some (.int (nI t)), none, none] [] (zW cb1 w1 o1)) : AW Z k n 577 [some (.ref 2000000), some (.ref 0), some (.ref 272), some (.ref 297), some (.int (nI t)), none, none] [] (zW cb w o) := by
  have hM := hZ.re zLC11_ok
  have hRm : zRoom Z k n := zRoom_of hR (by omega) (by omega)
  obtain ⟨a, cb1, w1, hrel, c1, c2⟩ := jj_undo h
  refine AWL.run hM hRm [578] 400 ?_
  show AW Z k n 578 [some (.ref 2000000), some (.ref 0), some (.ref 272), some (.ref 297), some (.int (nI t)), none, none] [.ref 0] (zW cb w o)
  refine AWL.callB (pc := 578) (idx := 73) hM hR hN (zRel.len h) (zRel.recv h) c1 zMX11_undo_ok rfl rfl rfl (Or.inl (zIn_mem (k := 1087) (by decide +kernel))) zVL_B_undo rfl (by decide) (by decide) (by omega) (by omega) rfl rfl ?_
  show AW Z k n 581 [some (.ref 2000000), some (.ref 0), some (.ref 272), some (.ref 297), some (.int (nI t)), none, none] [.int a] (zW cb1 w o)
  refine AWL.run hM hRm [582] 400 ?_
  show AW Z k n 582 [some (.ref 2000000), some (.ref 0), some (.ref 272), some (.ref 297), some (.int (nI t)), none, none] [.ref 272, .int a] (zW cb1 w o)
  refine AWL.callR (pc := 582) (idx := 77) hM hR hN (zRel.len hrel) c2 zMX12_undo_ok rfl rfl rfl (Or.inl (zIn_mem (k := 1868) (by decide +kernel))) zVL_R_undo rfl (by decide) (by decide) (by omega) (by omega) (fun _ => rfl) rfl rfl ?_
  show AW Z k n 585 [some (.ref 2000000), some (.ref 0), some (.ref 272), some (.ref 297), some (.int (nI t)), none, none] [.int a, .int a] (zW cb1 w1 o)
  refine AWL.run hM hRm [1188, 588] 400 ?_
  show ((a = a → AW Z k n 1188 [some (.ref 2000000), some (.ref 0), some (.ref 272), some (.ref 297), some (.int (nI t)), none, none] [] (zW cb1 w1 o)) ∧ (¬ (a = a) → AW Z k n 588 [some (.ref 2000000), some (.ref 0), some (.ref 272), some (.ref 297), some (.int (nI t)), none, none] [] (zW cb1 w1 o)))
  exact ⟨fun _ => AW.wide (by omega) (by omega) (kk _ _ _ hrel), fun hf => absurd rfl hf⟩
def zLC12 : List zIt := [(590, .aload_n 1, 1, .null, 0, 0, 0, []), (591, .aload_n 0, 1, .null, 0, 0, 0, []), (592, .iload 4, 2, .null, 0, 0, 0, []), (594, .iconst 1, 1, .int 1, 0, 0, 0, []), (595, .iadd, 1, .null, 0, 0, 0, []), (596, .iaload, 1, .null, 0, 0, 0, []), (597, .invokevirtual 78, 3, .null, 0, 0, 0, []), (600, .aload_n 2, 1, .null, 0, 0, 0, []), (601, .aload_n 0, 1, .null, 0, 0, 0, []), (602, .iload 4, 2, .null, 0, 0, 0, []), (604, .iconst 1, 1, .int 1, 0, 0, 0, []), (605, .iadd, 1, .null, 0, 0, 0, []), (606, .iaload, 1, .null, 0, 0, 0, []), (607, .invokevirtual 81, 3, .null, 0, 0, 0, []), (610, .if_icmp .eq 578, 3, .null, 1188, 0, 0, []), (613, .iconst 0, 1, .int 0, 0, 0, 0, []), (614, .ireturn, 1, .null, 0, 0, 0, [])]
set_option maxRecDepth 20000 in
theorem zLC12_ok : zMokL (zLM zLC12) := ⟨by decide +kernel, by decide +kernel, zCL_ok, rfl, trivial, by decide +kernel⟩
theorem zVL_B_judged : zVirt ⟨"BorrowedLives", "judged", "(I)I"⟩ 1 := ⟨⟨zIn_mem (k := 107) (by decide +kernel), by decide +kernel, by decide +kernel, by decide +kernel⟩, zIn_mem (k := 1092) (by decide +kernel), zIn_mem (k := 1093) (by decide +kernel)⟩
theorem zVL_R_judged : zVirt ⟨"BorrowedLivesModel", "judged", "(I)I"⟩ 1 := ⟨⟨zIn_mem (k := 119) (by decide +kernel), by decide +kernel, by decide +kernel, by decide +kernel⟩, zIn_mem (k := 1873) (by decide +kernel), zIn_mem (k := 1874) (by decide +kernel)⟩
set_option maxRecDepth 40000 in
set_option maxHeartbeats 8000000 in
theorem law_c12 {Z : zCtx} {L : Nat} {xs : Nat → Int32} (hZ : zOkL Z (zLM [])) (hR : zCan Z 1200 601024 7293033) (hN : zNew Z 0 298) (hT : zThrL Z) (hS : zScr Z L xs) {cb : List zE} {w : VR} {o : Nat → Int64} {k n t : Nat} (hk : k + 1 ≤ 601024) (hn : n + 6 ≤ 7293033) (ht : t + 7 ≤ L) (hL : L ≤ 3584) (h : zRel cb w) (kk : ∀ (cb1 : List zE) (w1 : VR) (o1 : Nat → Int64), zRel cb1 w1 → AW Z (k + 1) (n + 6) 1188 [some (.ref 2000000), some (.ref 0), some (.ref 272), some (.ref 297), some (.int (nI t)), none, none] [] (zW cb1 w1 o1)) : AW Z k n 590 [some (.ref 2000000), some (.ref 0), some (.ref 272), some (.ref 297), some (.int (nI t)), none, none] [] (zW cb w o) := by
  have hM := hZ.re zLC12_ok
  have hRm : zRoom Z k n := zRoom_of hR (by omega) (by omega)
  obtain ⟨a, cb1, w1, hrel, c1, c2⟩ := jj_judged h (xs (t + 1))
  refine AWL.run hM hRm [596] 400 ?_
  show AW Z k n 596 [some (.ref 2000000), some (.ref 0), some (.ref 272), some (.ref 297), some (.int (nI t)), none, none] [.int (nI t + 1), .ref 2000000, .ref 0] (zW cb w o)
  refine AWL.sld (pc := 596) (t := t + 1) hM hS rfl rfl (nI_add t 1) (by omega) hL ?_
  show AW Z k n 597 [some (.ref 2000000), some (.ref 0), some (.ref 272), some (.ref 297), some (.int (nI t)), none, none] [.int (xs (t + 1)), .ref 0] (zW cb w o)
  refine AWL.callB (pc := 597) (idx := 78) hM hR hN (zRel.len h) (zRel.recv h) c1 zMX11_judged_ok rfl rfl rfl (Or.inl (zIn_mem (k := 1091) (by decide +kernel))) zVL_B_judged rfl (by decide) (by decide) (by omega) (by omega) rfl rfl ?_
  show AW Z k n 600 [some (.ref 2000000), some (.ref 0), some (.ref 272), some (.ref 297), some (.int (nI t)), none, none] [.int a] (zW cb1 w o)
  refine AWL.run hM hRm [606] 400 ?_
  show AW Z k n 606 [some (.ref 2000000), some (.ref 0), some (.ref 272), some (.ref 297), some (.int (nI t)), none, none] [.int (nI t + 1), .ref 2000000, .ref 272, .int a] (zW cb1 w o)
  refine AWL.sld (pc := 606) (t := t + 1) hM hS rfl rfl (nI_add t 1) (by omega) hL ?_
  show AW Z k n 607 [some (.ref 2000000), some (.ref 0), some (.ref 272), some (.ref 297), some (.int (nI t)), none, none] [.int (xs (t + 1)), .ref 272, .int a] (zW cb1 w o)
  refine AWL.callR (pc := 607) (idx := 81) hM hR hN (zRel.len hrel) c2 zMX12_judged_ok rfl rfl rfl (Or.inl (zIn_mem (k := 1872) (by decide +kernel))) zVL_R_judged rfl (by decide) (by decide) (by omega) (by omega) (fun _ => rfl) rfl rfl ?_
  show AW Z k n 610 [some (.ref 2000000), some (.ref 0), some (.ref 272), some (.ref 297), some (.int (nI t)), none, none] [.int a, .int a] (zW cb1 w1 o)
  refine AWL.run hM hRm [1188, 613] 400 ?_
  show ((a = a → AW Z k n 1188 [some (.ref 2000000), some (.ref 0), some (.ref 272), some (.ref 297), some (.int (nI t)), none, none] [] (zW cb1 w1 o)) ∧ (¬ (a = a) → AW Z k n 613 [some (.ref 2000000), some (.ref 0), some (.ref 272), some (.ref 297), some (.int (nI t)), none, none] [] (zW cb1 w1 o)))
  exact ⟨fun _ => AW.wide (by omega) (by omega) (kk _ _ _ hrel), fun hf => absurd rfl hf⟩
def zLC13 : List zIt := [(615, .aload_n 1, 1, .null, 0, 0, 0, []), (616, .invokevirtual 82, 3, .null, 0, 0, 0, []), (619, .aload_n 2, 1, .null, 0, 0, 0, []), (620, .invokevirtual 85, 3, .null, 0, 0, 0, []), (623, .if_icmp .eq 565, 3, .null, 1188, 0, 0, []), (626, .iconst 0, 1, .int 0, 0, 0, 0, []), (627, .ireturn, 1, .null, 0, 0, 0, [])]
set_option maxRecDepth 20000 in
theorem zLC13_ok : zMokL (zLM zLC13) := ⟨by decide +kernel, by decide +kernel, zCL_ok, rfl, trivial, by decide +kernel⟩
theorem zVL_B_lots : zVirt ⟨"BorrowedLives", "lots", "()I"⟩ 0 := ⟨⟨zIn_mem (k := 107) (by decide +kernel), by decide +kernel, by decide +kernel, by decide +kernel⟩, zIn_mem (k := 1110) (by decide +kernel), zIn_mem (k := 1111) (by decide +kernel)⟩
theorem zVL_R_lots : zVirt ⟨"BorrowedLivesModel", "lots", "()I"⟩ 0 := ⟨⟨zIn_mem (k := 119) (by decide +kernel), by decide +kernel, by decide +kernel, by decide +kernel⟩, zIn_mem (k := 1885) (by decide +kernel), zIn_mem (k := 1886) (by decide +kernel)⟩
set_option maxRecDepth 40000 in
set_option maxHeartbeats 8000000 in
theorem law_c13 {Z : zCtx} {L : Nat} {xs : Nat → Int32} (hZ : zOkL Z (zLM [])) (hR : zCan Z 1200 601024 7293033) (hN : zNew Z 0 298) (hT : zThrL Z) (hS : zScr Z L xs) {cb : List zE} {w : VR} {o : Nat → Int64} {k n t : Nat} (hk : k + 1 ≤ 601024) (hn : n + 6 ≤ 7293033) (ht : t + 7 ≤ L) (hL : L ≤ 3584) (h : zRel cb w) (kk : ∀ (cb1 : List zE) (w1 : VR) (o1 : Nat → Int64), zRel cb1 w1 → AW Z (k + 1) (n + 6) 1188 [some (.ref 2000000), some (.ref 0), some (.ref 272), some (.ref 297), some (.int (nI t)), none, none] [] (zW cb1 w1 o1)) : AW Z k n 615 [some (.ref 2000000), some (.ref 0), some (.ref 272), some (.ref 297), some (.int (nI t)), none, none] [] (zW cb w o) := by
  have hM := hZ.re zLC13_ok
  have hRm : zRoom Z k n := zRoom_of hR (by omega) (by omega)
  obtain ⟨a, cb1, w1, hrel, c1, c2⟩ := jj_lots h
  refine AWL.run hM hRm [616] 400 ?_
  show AW Z k n 616 [some (.ref 2000000), some (.ref 0), some (.ref 272), some (.ref 297), some (.int (nI t)), none, none] [.ref 0] (zW cb w o)
  refine AWL.callB (pc := 616) (idx := 82) hM hR hN (zRel.len h) (zRel.recv h) c1 zMX11_lots_ok rfl rfl rfl (Or.inl (zIn_mem (k := 1109) (by decide +kernel))) zVL_B_lots rfl (by decide) (by decide) (by omega) (by omega) rfl rfl ?_
  show AW Z k n 619 [some (.ref 2000000), some (.ref 0), some (.ref 272), some (.ref 297), some (.int (nI t)), none, none] [.int a] (zW cb1 w o)
  refine AWL.run hM hRm [620] 400 ?_
  show AW Z k n 620 [some (.ref 2000000), some (.ref 0), some (.ref 272), some (.ref 297), some (.int (nI t)), none, none] [.ref 272, .int a] (zW cb1 w o)
  refine AWL.callR (pc := 620) (idx := 85) hM hR hN (zRel.len hrel) c2 zMX12_lots_ok rfl rfl rfl (Or.inl (zIn_mem (k := 1884) (by decide +kernel))) zVL_R_lots rfl (by decide) (by decide) (by omega) (by omega) (fun _ => rfl) rfl rfl ?_
  show AW Z k n 623 [some (.ref 2000000), some (.ref 0), some (.ref 272), some (.ref 297), some (.int (nI t)), none, none] [.int a, .int a] (zW cb1 w1 o)
  refine AWL.run hM hRm [1188, 626] 400 ?_
  show ((a = a → AW Z k n 1188 [some (.ref 2000000), some (.ref 0), some (.ref 272), some (.ref 297), some (.int (nI t)), none, none] [] (zW cb1 w1 o)) ∧ (¬ (a = a) → AW Z k n 626 [some (.ref 2000000), some (.ref 0), some (.ref 272), some (.ref 297), some (.int (nI t)), none, none] [] (zW cb1 w1 o)))
  exact ⟨fun _ => AW.wide (by omega) (by omega) (kk _ _ _ hrel), fun hf => absurd rfl hf⟩
def zLC14 : List zIt := [(628, .aload_n 1, 1, .null, 0, 0, 0, []), (629, .aload_n 0, 1, .null, 0, 0, 0, []), (630, .iload 4, 2, .null, 0, 0, 0, []), (632, .iconst 1, 1, .int 1, 0, 0, 0, []), (633, .iadd, 1, .null, 0, 0, 0, []), (634, .iaload, 1, .null, 0, 0, 0, []), (635, .aload_n 0, 1, .null, 0, 0, 0, []), (636, .iload 4, 2, .null, 0, 0, 0, []), (638, .iconst 2, 1, .int 2, 0, 0, 0, []), (639, .iadd, 1, .null, 0, 0, 0, []), (640, .iaload, 1, .null, 0, 0, 0, []), (641, .invokevirtual 86, 3, .null, 0, 0, 0, []), (644, .aload_n 2, 1, .null, 0, 0, 0, []), (645, .aload_n 0, 1, .null, 0, 0, 0, []), (646, .iload 4, 2, .null, 0, 0, 0, []), (648, .iconst 1, 1, .int 1, 0, 0, 0, []), (649, .iadd, 1, .null, 0, 0, 0, []), (650, .iaload, 1, .null, 0, 0, 0, []), (651, .aload_n 0, 1, .null, 0, 0, 0, []), (652, .iload 4, 2, .null, 0, 0, 0, []), (654, .iconst 2, 1, .int 2, 0, 0, 0, []), (655, .iadd, 1, .null, 0, 0, 0, []), (656, .iaload, 1, .null, 0, 0, 0, []), (657, .invokevirtual 89, 3, .null, 0, 0, 0, []), (660, .if_icmp .eq 528, 3, .null, 1188, 0, 0, []), (663, .iconst 0, 1, .int 0, 0, 0, 0, []), (664, .ireturn, 1, .null, 0, 0, 0, [])]
set_option maxRecDepth 20000 in
theorem zLC14_ok : zMokL (zLM zLC14) := ⟨by decide +kernel, by decide +kernel, zCL_ok, rfl, trivial, by decide +kernel⟩
theorem zVL_B_odds : zVirt ⟨"BorrowedLives", "odds", "(II)I"⟩ 2 := ⟨⟨zIn_mem (k := 107) (by decide +kernel), by decide +kernel, by decide +kernel, by decide +kernel⟩, zIn_mem (k := 1114) (by decide +kernel), zIn_mem (k := 1115) (by decide +kernel)⟩
theorem zVL_R_odds : zVirt ⟨"BorrowedLivesModel", "odds", "(II)I"⟩ 2 := ⟨⟨zIn_mem (k := 119) (by decide +kernel), by decide +kernel, by decide +kernel, by decide +kernel⟩, zIn_mem (k := 1889) (by decide +kernel), zIn_mem (k := 1890) (by decide +kernel)⟩
set_option maxRecDepth 40000 in
set_option maxHeartbeats 8000000 in
theorem law_c14 {Z : zCtx} {L : Nat} {xs : Nat → Int32} (hZ : zOkL Z (zLM [])) (hR : zCan Z 1200 601024 7293033) (hN : zNew Z 0 298) (hT : zThrL Z) (hS : zScr Z L xs) {cb : List zE} {w : VR} {o : Nat → Int64} {k n t : Nat} (hk : k + 1 ≤ 601024) (hn : n + 6 ≤ 7293033) (ht : t + 7 ≤ L) (hL : L ≤ 3584) (h : zRel cb w) (kk : ∀ (cb1 : List zE) (w1 : VR) (o1 : Nat → Int64), zRel cb1 w1 → AW Z (k + 1) (n + 6) 1188 [some (.ref 2000000), some (.ref 0), some (.ref 272), some (.ref 297), some (.int (nI t)), none, none] [] (zW cb1 w1 o1)) : AW Z k n 628 [some (.ref 2000000), some (.ref 0), some (.ref 272), some (.ref 297), some (.int (nI t)), none, none] [] (zW cb w o) := by
  have hM := hZ.re zLC14_ok
  have hRm : zRoom Z k n := zRoom_of hR (by omega) (by omega)
  obtain ⟨a, cb1, w1, hrel, c1, c2⟩ := jj_odds h (xs (t + 1)) (xs (t + 2))
  refine AWL.run hM hRm [634] 400 ?_
  show AW Z k n 634 [some (.ref 2000000), some (.ref 0), some (.ref 272), some (.ref 297), some (.int (nI t)), none, none] [.int (nI t + 1), .ref 2000000, .ref 0] (zW cb w o)
  refine AWL.sld (pc := 634) (t := t + 1) hM hS rfl rfl (nI_add t 1) (by omega) hL ?_
  show AW Z k n 635 [some (.ref 2000000), some (.ref 0), some (.ref 272), some (.ref 297), some (.int (nI t)), none, none] [.int (xs (t + 1)), .ref 0] (zW cb w o)
  refine AWL.run hM hRm [640] 400 ?_
  show AW Z k n 640 [some (.ref 2000000), some (.ref 0), some (.ref 272), some (.ref 297), some (.int (nI t)), none, none] [.int (nI t + 2), .ref 2000000, .int (xs (t + 1)), .ref 0] (zW cb w o)
  refine AWL.sld (pc := 640) (t := t + 2) hM hS rfl rfl (nI_add t 2) (by omega) hL ?_
  show AW Z k n 641 [some (.ref 2000000), some (.ref 0), some (.ref 272), some (.ref 297), some (.int (nI t)), none, none] [.int (xs (t + 2)), .int (xs (t + 1)), .ref 0] (zW cb w o)
  refine AWL.callB (pc := 641) (idx := 86) hM hR hN (zRel.len h) (zRel.recv h) c1 zMX11_odds_ok rfl rfl rfl (Or.inl (zIn_mem (k := 1113) (by decide +kernel))) zVL_B_odds rfl (by decide) (by decide) (by omega) (by omega) rfl rfl ?_
  show AW Z k n 644 [some (.ref 2000000), some (.ref 0), some (.ref 272), some (.ref 297), some (.int (nI t)), none, none] [.int a] (zW cb1 w o)
  refine AWL.run hM hRm [650] 400 ?_
  show AW Z k n 650 [some (.ref 2000000), some (.ref 0), some (.ref 272), some (.ref 297), some (.int (nI t)), none, none] [.int (nI t + 1), .ref 2000000, .ref 272, .int a] (zW cb1 w o)
  refine AWL.sld (pc := 650) (t := t + 1) hM hS rfl rfl (nI_add t 1) (by omega) hL ?_
  show AW Z k n 651 [some (.ref 2000000), some (.ref 0), some (.ref 272), some (.ref 297), some (.int (nI t)), none, none] [.int (xs (t + 1)), .ref 272, .int a] (zW cb1 w o)
  refine AWL.run hM hRm [656] 400 ?_
  show AW Z k n 656 [some (.ref 2000000), some (.ref 0), some (.ref 272), some (.ref 297), some (.int (nI t)), none, none] [.int (nI t + 2), .ref 2000000, .int (xs (t + 1)), .ref 272, .int a] (zW cb1 w o)
  refine AWL.sld (pc := 656) (t := t + 2) hM hS rfl rfl (nI_add t 2) (by omega) hL ?_
  show AW Z k n 657 [some (.ref 2000000), some (.ref 0), some (.ref 272), some (.ref 297), some (.int (nI t)), none, none] [.int (xs (t + 2)), .int (xs (t + 1)), .ref 272, .int a] (zW cb1 w o)
  refine AWL.callR (pc := 657) (idx := 89) hM hR hN (zRel.len hrel) c2 zMX12_odds_ok rfl rfl rfl (Or.inl (zIn_mem (k := 1888) (by decide +kernel))) zVL_R_odds rfl (by decide) (by decide) (by omega) (by omega) (fun _ => rfl) rfl rfl ?_
  show AW Z k n 660 [some (.ref 2000000), some (.ref 0), some (.ref 272), some (.ref 297), some (.int (nI t)), none, none] [.int a, .int a] (zW cb1 w1 o)
  refine AWL.run hM hRm [1188, 663] 400 ?_
  show ((a = a → AW Z k n 1188 [some (.ref 2000000), some (.ref 0), some (.ref 272), some (.ref 297), some (.int (nI t)), none, none] [] (zW cb1 w1 o)) ∧ (¬ (a = a) → AW Z k n 663 [some (.ref 2000000), some (.ref 0), some (.ref 272), some (.ref 297), some (.int (nI t)), none, none] [] (zW cb1 w1 o)))
  exact ⟨fun _ => AW.wide (by omega) (by omega) (kk _ _ _ hrel), fun hf => absurd rfl hf⟩
def zLC15 : List zIt := [(665, .aload_n 1, 1, .null, 0, 0, 0, []), (666, .aload_n 0, 1, .null, 0, 0, 0, []), (667, .iload 4, 2, .null, 0, 0, 0, []), (669, .iconst 1, 1, .int 1, 0, 0, 0, []), (670, .iadd, 1, .null, 0, 0, 0, []), (671, .iaload, 1, .null, 0, 0, 0, []), (672, .invokevirtual 90, 3, .null, 0, 0, 0, []), (675, .aload_n 2, 1, .null, 0, 0, 0, []), (676, .aload_n 0, 1, .null, 0, 0, 0, []), (677, .iload 4, 2, .null, 0, 0, 0, []), (679, .iconst 1, 1, .int 1, 0, 0, 0, []), (680, .iadd, 1, .null, 0, 0, 0, []), (681, .iaload, 1, .null, 0, 0, 0, []), (682, .invokevirtual 93, 3, .null, 0, 0, 0, []), (685, .if_icmp .eq 503, 3, .null, 1188, 0, 0, []), (688, .iconst 0, 1, .int 0, 0, 0, 0, []), (689, .ireturn, 1, .null, 0, 0, 0, [])]
set_option maxRecDepth 20000 in
theorem zLC15_ok : zMokL (zLM zLC15) := ⟨by decide +kernel, by decide +kernel, zCL_ok, rfl, trivial, by decide +kernel⟩
theorem zVL_B_least : zVirt ⟨"BorrowedLives", "least", "(I)I"⟩ 1 := ⟨⟨zIn_mem (k := 107) (by decide +kernel), by decide +kernel, by decide +kernel, by decide +kernel⟩, zIn_mem (k := 1120) (by decide +kernel), zIn_mem (k := 1121) (by decide +kernel)⟩
theorem zVL_R_least : zVirt ⟨"BorrowedLivesModel", "least", "(I)I"⟩ 1 := ⟨⟨zIn_mem (k := 119) (by decide +kernel), by decide +kernel, by decide +kernel, by decide +kernel⟩, zIn_mem (k := 1894) (by decide +kernel), zIn_mem (k := 1895) (by decide +kernel)⟩
set_option maxRecDepth 40000 in
set_option maxHeartbeats 8000000 in
theorem law_c15 {Z : zCtx} {L : Nat} {xs : Nat → Int32} (hZ : zOkL Z (zLM [])) (hR : zCan Z 1200 601024 7293033) (hN : zNew Z 0 298) (hT : zThrL Z) (hS : zScr Z L xs) {cb : List zE} {w : VR} {o : Nat → Int64} {k n t : Nat} (hk : k + 1 ≤ 601024) (hn : n + 6 ≤ 7293033) (ht : t + 7 ≤ L) (hL : L ≤ 3584) (h : zRel cb w) (kk : ∀ (cb1 : List zE) (w1 : VR) (o1 : Nat → Int64), zRel cb1 w1 → AW Z (k + 1) (n + 6) 1188 [some (.ref 2000000), some (.ref 0), some (.ref 272), some (.ref 297), some (.int (nI t)), none, none] [] (zW cb1 w1 o1)) : AW Z k n 665 [some (.ref 2000000), some (.ref 0), some (.ref 272), some (.ref 297), some (.int (nI t)), none, none] [] (zW cb w o) := by
  have hM := hZ.re zLC15_ok
  have hRm : zRoom Z k n := zRoom_of hR (by omega) (by omega)
  obtain ⟨a, cb1, w1, hrel, c1, c2⟩ := jj_least h (xs (t + 1))
  refine AWL.run hM hRm [671] 400 ?_
  show AW Z k n 671 [some (.ref 2000000), some (.ref 0), some (.ref 272), some (.ref 297), some (.int (nI t)), none, none] [.int (nI t + 1), .ref 2000000, .ref 0] (zW cb w o)
  refine AWL.sld (pc := 671) (t := t + 1) hM hS rfl rfl (nI_add t 1) (by omega) hL ?_
  show AW Z k n 672 [some (.ref 2000000), some (.ref 0), some (.ref 272), some (.ref 297), some (.int (nI t)), none, none] [.int (xs (t + 1)), .ref 0] (zW cb w o)
  refine AWL.callB (pc := 672) (idx := 90) hM hR hN (zRel.len h) (zRel.recv h) c1 zMX11_least_ok rfl rfl rfl (Or.inl (zIn_mem (k := 1119) (by decide +kernel))) zVL_B_least rfl (by decide) (by decide) (by omega) (by omega) rfl rfl ?_
  show AW Z k n 675 [some (.ref 2000000), some (.ref 0), some (.ref 272), some (.ref 297), some (.int (nI t)), none, none] [.int a] (zW cb1 w o)
  refine AWL.run hM hRm [681] 400 ?_
  show AW Z k n 681 [some (.ref 2000000), some (.ref 0), some (.ref 272), some (.ref 297), some (.int (nI t)), none, none] [.int (nI t + 1), .ref 2000000, .ref 272, .int a] (zW cb1 w o)
  refine AWL.sld (pc := 681) (t := t + 1) hM hS rfl rfl (nI_add t 1) (by omega) hL ?_
  show AW Z k n 682 [some (.ref 2000000), some (.ref 0), some (.ref 272), some (.ref 297), some (.int (nI t)), none, none] [.int (xs (t + 1)), .ref 272, .int a] (zW cb1 w o)
  refine AWL.callR (pc := 682) (idx := 93) hM hR hN (zRel.len hrel) c2 zMX12_least_ok rfl rfl rfl (Or.inl (zIn_mem (k := 1893) (by decide +kernel))) zVL_R_least rfl (by decide) (by decide) (by omega) (by omega) (fun _ => rfl) rfl rfl ?_
  show AW Z k n 685 [some (.ref 2000000), some (.ref 0), some (.ref 272), some (.ref 297), some (.int (nI t)), none, none] [.int a, .int a] (zW cb1 w1 o)
  refine AWL.run hM hRm [1188, 688] 400 ?_
  show ((a = a → AW Z k n 1188 [some (.ref 2000000), some (.ref 0), some (.ref 272), some (.ref 297), some (.int (nI t)), none, none] [] (zW cb1 w1 o)) ∧ (¬ (a = a) → AW Z k n 688 [some (.ref 2000000), some (.ref 0), some (.ref 272), some (.ref 297), some (.int (nI t)), none, none] [] (zW cb1 w1 o)))
  exact ⟨fun _ => AW.wide (by omega) (by omega) (kk _ _ _ hrel), fun hf => absurd rfl hf⟩
def zLC16 : List zIt := [(690, .aload_n 1, 1, .null, 0, 0, 0, []), (691, .aload_n 0, 1, .null, 0, 0, 0, []), (692, .iload 4, 2, .null, 0, 0, 0, []), (694, .iconst 1, 1, .int 1, 0, 0, 0, []), (695, .iadd, 1, .null, 0, 0, 0, []), (696, .iaload, 1, .null, 0, 0, 0, []), (697, .aload_n 0, 1, .null, 0, 0, 0, []), (698, .iload 4, 2, .null, 0, 0, 0, []), (700, .iconst 2, 1, .int 2, 0, 0, 0, []), (701, .iadd, 1, .null, 0, 0, 0, []), (702, .iaload, 1, .null, 0, 0, 0, []), (703, .invokevirtual 94, 3, .null, 0, 0, 0, []), (706, .aload_n 2, 1, .null, 0, 0, 0, []), (707, .aload_n 0, 1, .null, 0, 0, 0, []), (708, .iload 4, 2, .null, 0, 0, 0, []), (710, .iconst 1, 1, .int 1, 0, 0, 0, []), (711, .iadd, 1, .null, 0, 0, 0, []), (712, .iaload, 1, .null, 0, 0, 0, []), (713, .aload_n 0, 1, .null, 0, 0, 0, []), (714, .iload 4, 2, .null, 0, 0, 0, []), (716, .iconst 2, 1, .int 2, 0, 0, 0, []), (717, .iadd, 1, .null, 0, 0, 0, []), (718, .iaload, 1, .null, 0, 0, 0, []), (719, .invokevirtual 97, 3, .null, 0, 0, 0, []), (722, .if_icmp .eq 466, 3, .null, 1188, 0, 0, []), (725, .iconst 0, 1, .int 0, 0, 0, 0, []), (726, .ireturn, 1, .null, 0, 0, 0, [])]
set_option maxRecDepth 20000 in
theorem zLC16_ok : zMokL (zLM zLC16) := ⟨by decide +kernel, by decide +kernel, zCL_ok, rfl, trivial, by decide +kernel⟩
theorem zVL_B_prepare : zVirt ⟨"BorrowedLives", "prepare", "(II)I"⟩ 2 := ⟨⟨zIn_mem (k := 107) (by decide +kernel), by decide +kernel, by decide +kernel, by decide +kernel⟩, zIn_mem (k := 1142) (by decide +kernel), zIn_mem (k := 1143) (by decide +kernel)⟩
theorem zVL_R_prepare : zVirt ⟨"BorrowedLivesModel", "prepare", "(II)I"⟩ 2 := ⟨⟨zIn_mem (k := 119) (by decide +kernel), by decide +kernel, by decide +kernel, by decide +kernel⟩, zIn_mem (k := 1902) (by decide +kernel), zIn_mem (k := 1903) (by decide +kernel)⟩
set_option maxRecDepth 40000 in
set_option maxHeartbeats 8000000 in
theorem law_c16 {Z : zCtx} {L : Nat} {xs : Nat → Int32} (hZ : zOkL Z (zLM [])) (hR : zCan Z 1200 601024 7293033) (hN : zNew Z 0 298) (hT : zThrL Z) (hS : zScr Z L xs) {cb : List zE} {w : VR} {o : Nat → Int64} {k n t : Nat} (hk : k + 1 ≤ 601024) (hn : n + 6 ≤ 7293033) (ht : t + 7 ≤ L) (hL : L ≤ 3584) (h : zRel cb w) (kk : ∀ (cb1 : List zE) (w1 : VR) (o1 : Nat → Int64), zRel cb1 w1 → AW Z (k + 1) (n + 6) 1188 [some (.ref 2000000), some (.ref 0), some (.ref 272), some (.ref 297), some (.int (nI t)), none, none] [] (zW cb1 w1 o1)) : AW Z k n 690 [some (.ref 2000000), some (.ref 0), some (.ref 272), some (.ref 297), some (.int (nI t)), none, none] [] (zW cb w o) := by
  have hM := hZ.re zLC16_ok
  have hRm : zRoom Z k n := zRoom_of hR (by omega) (by omega)
  obtain ⟨a, cb1, w1, hrel, c1, c2⟩ := jj_prepare h (xs (t + 1)) (xs (t + 2))
  refine AWL.run hM hRm [696] 400 ?_
  show AW Z k n 696 [some (.ref 2000000), some (.ref 0), some (.ref 272), some (.ref 297), some (.int (nI t)), none, none] [.int (nI t + 1), .ref 2000000, .ref 0] (zW cb w o)
  refine AWL.sld (pc := 696) (t := t + 1) hM hS rfl rfl (nI_add t 1) (by omega) hL ?_
  show AW Z k n 697 [some (.ref 2000000), some (.ref 0), some (.ref 272), some (.ref 297), some (.int (nI t)), none, none] [.int (xs (t + 1)), .ref 0] (zW cb w o)
  refine AWL.run hM hRm [702] 400 ?_
  show AW Z k n 702 [some (.ref 2000000), some (.ref 0), some (.ref 272), some (.ref 297), some (.int (nI t)), none, none] [.int (nI t + 2), .ref 2000000, .int (xs (t + 1)), .ref 0] (zW cb w o)
  refine AWL.sld (pc := 702) (t := t + 2) hM hS rfl rfl (nI_add t 2) (by omega) hL ?_
  show AW Z k n 703 [some (.ref 2000000), some (.ref 0), some (.ref 272), some (.ref 297), some (.int (nI t)), none, none] [.int (xs (t + 2)), .int (xs (t + 1)), .ref 0] (zW cb w o)
  refine AWL.callB (pc := 703) (idx := 94) hM hR hN (zRel.len h) (zRel.recv h) c1 zMX11_prepare_ok rfl rfl rfl (Or.inl (zIn_mem (k := 1141) (by decide +kernel))) zVL_B_prepare rfl (by decide) (by decide) (by omega) (by omega) rfl rfl ?_
  show AW Z k n 706 [some (.ref 2000000), some (.ref 0), some (.ref 272), some (.ref 297), some (.int (nI t)), none, none] [.int a] (zW cb1 w o)
  refine AWL.run hM hRm [712] 400 ?_
  show AW Z k n 712 [some (.ref 2000000), some (.ref 0), some (.ref 272), some (.ref 297), some (.int (nI t)), none, none] [.int (nI t + 1), .ref 2000000, .ref 272, .int a] (zW cb1 w o)
  refine AWL.sld (pc := 712) (t := t + 1) hM hS rfl rfl (nI_add t 1) (by omega) hL ?_
  show AW Z k n 713 [some (.ref 2000000), some (.ref 0), some (.ref 272), some (.ref 297), some (.int (nI t)), none, none] [.int (xs (t + 1)), .ref 272, .int a] (zW cb1 w o)
  refine AWL.run hM hRm [718] 400 ?_
  show AW Z k n 718 [some (.ref 2000000), some (.ref 0), some (.ref 272), some (.ref 297), some (.int (nI t)), none, none] [.int (nI t + 2), .ref 2000000, .int (xs (t + 1)), .ref 272, .int a] (zW cb1 w o)
  refine AWL.sld (pc := 718) (t := t + 2) hM hS rfl rfl (nI_add t 2) (by omega) hL ?_
  show AW Z k n 719 [some (.ref 2000000), some (.ref 0), some (.ref 272), some (.ref 297), some (.int (nI t)), none, none] [.int (xs (t + 2)), .int (xs (t + 1)), .ref 272, .int a] (zW cb1 w o)
  refine AWL.callR (pc := 719) (idx := 97) hM hR hN (zRel.len hrel) c2 zMX12_prepare_ok rfl rfl rfl (Or.inl (zIn_mem (k := 1901) (by decide +kernel))) zVL_R_prepare rfl (by decide) (by decide) (by omega) (by omega) (fun _ => rfl) rfl rfl ?_
  show AW Z k n 722 [some (.ref 2000000), some (.ref 0), some (.ref 272), some (.ref 297), some (.int (nI t)), none, none] [.int a, .int a] (zW cb1 w1 o)
  refine AWL.run hM hRm [1188, 725] 400 ?_
  show ((a = a → AW Z k n 1188 [some (.ref 2000000), some (.ref 0), some (.ref 272), some (.ref 297), some (.int (nI t)), none, none] [] (zW cb1 w1 o)) ∧ (¬ (a = a) → AW Z k n 725 [some (.ref 2000000), some (.ref 0), some (.ref 272), some (.ref 297), some (.int (nI t)), none, none] [] (zW cb1 w1 o)))
  exact ⟨fun _ => AW.wide (by omega) (by omega) (kk _ _ _ hrel), fun hf => absurd rfl hf⟩
def zLC17 : List zIt := [(727, .aload_n 1, 1, .null, 0, 0, 0, []), (728, .aload_n 0, 1, .null, 0, 0, 0, []), (729, .iload 4, 2, .null, 0, 0, 0, []), (731, .iconst 1, 1, .int 1, 0, 0, 0, []), (732, .iadd, 1, .null, 0, 0, 0, []), (733, .iaload, 1, .null, 0, 0, 0, []), (734, .aload_n 0, 1, .null, 0, 0, 0, []), (735, .iload 4, 2, .null, 0, 0, 0, []), (737, .iconst 2, 1, .int 2, 0, 0, 0, []), (738, .iadd, 1, .null, 0, 0, 0, []), (739, .iaload, 1, .null, 0, 0, 0, []), (740, .aload_n 0, 1, .null, 0, 0, 0, []), (741, .iload 4, 2, .null, 0, 0, 0, []), (743, .iconst 3, 1, .int 3, 0, 0, 0, []), (744, .iadd, 1, .null, 0, 0, 0, []), (745, .iaload, 1, .null, 0, 0, 0, []), (746, .aload_n 0, 1, .null, 0, 0, 0, []), (747, .iload 4, 2, .null, 0, 0, 0, []), (749, .iconst 4, 1, .int 4, 0, 0, 0, []), (750, .iadd, 1, .null, 0, 0, 0, []), (751, .iaload, 1, .null, 0, 0, 0, []), (752, .aload_n 3, 1, .null, 0, 0, 0, []), (753, .invokestatic 98, 3, .null, 0, 0, 0, []), (756, .istore 5, 2, .null, 0, 0, 0, []), (758, .aload_n 2, 1, .null, 0, 0, 0, []), (759, .aload_n 0, 1, .null, 0, 0, 0, []), (760, .iload 4, 2, .null, 0, 0, 0, []), (762, .iconst 1, 1, .int 1, 0, 0, 0, []), (763, .iadd, 1, .null, 0, 0, 0, []), (764, .iaload, 1, .null, 0, 0, 0, []), (765, .aload_n 0, 1, .null, 0, 0, 0, []), (766, .iload 4, 2, .null, 0, 0, 0, []), (768, .iconst 2, 1, .int 2, 0, 0, 0, []), (769, .iadd, 1, .null, 0, 0, 0, []), (770, .iaload, 1, .null, 0, 0, 0, []), (771, .aload_n 0, 1, .null, 0, 0, 0, []), (772, .iload 4, 2, .null, 0, 0, 0, []), (774, .iconst 3, 1, .int 3, 0, 0, 0, []), (775, .iadd, 1, .null, 0, 0, 0, []), (776, .iaload, 1, .null, 0, 0, 0, []), (777, .aload_n 0, 1, .null, 0, 0, 0, []), (778, .iload 4, 2, .null, 0, 0, 0, []), (780, .iconst 4, 1, .int 4, 0, 0, 0, []), (781, .iadd, 1, .null, 0, 0, 0, []), (782, .iaload, 1, .null, 0, 0, 0, []), (783, .invokevirtual 103, 3, .null, 0, 0, 0, []), (786, .istore 6, 2, .null, 0, 0, 0, []), (788, .aload_n 2, 1, .null, 0, 0, 0, []), (789, .invokevirtual 104, 3, .null, 0, 0, 0, []), (792, .iload 5, 2, .null, 0, 0, 0, []), (794, .if_icmp .eq 5, 3, .null, 799, 0, 0, []), (797, .iconst 0, 1, .int 0, 0, 0, 0, []), (798, .ireturn, 1, .null, 0, 0, 0, []), (799, .iload 5, 2, .null, 0, 0, 0, []), (801, .ifCond .ne 15, 3, .null, 816, 0, 0, []), (804, .aload_n 3, 1, .null, 0, 0, 0, []), (805, .iconst 0, 1, .int 0, 0, 0, 0, []), (806, .laload, 1, .null, 0, 0, 0, []), (807, .iload 6, 2, .null, 0, 0, 0, []), (809, .i2l, 1, .null, 0, 0, 0, []), (810, .lcmp, 1, .null, 0, 0, 0, []), (811, .ifCond .eq 5, 3, .null, 816, 0, 0, []), (814, .iconst 0, 1, .int 0, 0, 0, 0, []), (815, .ireturn, 1, .null, 0, 0, 0, []), (816, .goto 372, 3, .null, 1188, 0, 0, [])]
set_option maxRecDepth 20000 in
theorem zLC17_ok : zMokL (zLM zLC17) := ⟨by decide +kernel, by decide +kernel, zCL_ok, rfl, trivial, by decide +kernel⟩
theorem zVL_R_deeds : zVirt ⟨"BorrowedLivesModel", "deeds", "(IIII)I"⟩ 4 := ⟨⟨zIn_mem (k := 119) (by decide +kernel), by decide +kernel, by decide +kernel, by decide +kernel⟩, zIn_mem (k := 1912) (by decide +kernel), zIn_mem (k := 1913) (by decide +kernel)⟩
theorem zVL_R_thrown : zVirt ⟨"BorrowedLivesModel", "thrown", "()I"⟩ 0 := ⟨⟨zIn_mem (k := 119) (by decide +kernel), by decide +kernel, by decide +kernel, by decide +kernel⟩, zIn_mem (k := 1397) (by decide +kernel), zIn_mem (k := 1398) (by decide +kernel)⟩
set_option maxRecDepth 40000 in
set_option maxHeartbeats 8000000 in
theorem law_c17 {Z : zCtx} {L : Nat} {xs : Nat → Int32} (hZ : zOkL Z (zLM [])) (hR : zCan Z 1200 601024 7293033) (hN : zNew Z 0 298) (hT : zThrL Z) (hS : zScr Z L xs) {cb : List zE} {w : VR} {o : Nat → Int64} {k n t : Nat} (hk : k + 1 ≤ 601024) (hn : n + 6 ≤ 7293033) (ht : t + 7 ≤ L) (hL : L ≤ 3584) (h : zRel cb w) (kk : ∀ (cb1 : List zE) (w1 : VR) (o1 : Nat → Int64), zRel cb1 w1 → AW Z (k + 1) (n + 6) 1188 [some (.ref 2000000), some (.ref 0), some (.ref 272), some (.ref 297), some (.int (nI t)), none, none] [] (zW cb1 w1 o1)) : AW Z k n 727 [some (.ref 2000000), some (.ref 0), some (.ref 272), some (.ref 297), some (.int (nI t)), none, none] [] (zW cb w o) := by
  have hM := hZ.re zLC17_ok
  have hRm : zRoom Z k n := zRoom_of hR (by omega) (by omega)
  obtain ⟨w1, b, c2, hc⟩ := jj_deeds h (xs (t + 1)) (xs (t + 2)) (xs (t + 3)) (xs (t + 4))
  refine AWL.run hM hRm [733] 400 ?_
  show AW Z k n 733 [some (.ref 2000000), some (.ref 0), some (.ref 272), some (.ref 297), some (.int (nI t)), none, none] [.int (nI t + 1), .ref 2000000, .ref 0] (zW cb w o)
  refine AWL.sld (pc := 733) (t := t + 1) hM hS rfl rfl (nI_add t 1) (by omega) hL ?_
  show AW Z k n 734 [some (.ref 2000000), some (.ref 0), some (.ref 272), some (.ref 297), some (.int (nI t)), none, none] [.int (xs (t + 1)), .ref 0] (zW cb w o)
  refine AWL.run hM hRm [739] 400 ?_
  show AW Z k n 739 [some (.ref 2000000), some (.ref 0), some (.ref 272), some (.ref 297), some (.int (nI t)), none, none] [.int (nI t + 2), .ref 2000000, .int (xs (t + 1)), .ref 0] (zW cb w o)
  refine AWL.sld (pc := 739) (t := t + 2) hM hS rfl rfl (nI_add t 2) (by omega) hL ?_
  show AW Z k n 740 [some (.ref 2000000), some (.ref 0), some (.ref 272), some (.ref 297), some (.int (nI t)), none, none] [.int (xs (t + 2)), .int (xs (t + 1)), .ref 0] (zW cb w o)
  refine AWL.run hM hRm [745] 400 ?_
  show AW Z k n 745 [some (.ref 2000000), some (.ref 0), some (.ref 272), some (.ref 297), some (.int (nI t)), none, none] [.int (nI t + 3), .ref 2000000, .int (xs (t + 2)), .int (xs (t + 1)), .ref 0] (zW cb w o)
  refine AWL.sld (pc := 745) (t := t + 3) hM hS rfl rfl (nI_add t 3) (by omega) hL ?_
  show AW Z k n 746 [some (.ref 2000000), some (.ref 0), some (.ref 272), some (.ref 297), some (.int (nI t)), none, none] [.int (xs (t + 3)), .int (xs (t + 2)), .int (xs (t + 1)), .ref 0] (zW cb w o)
  refine AWL.run hM hRm [751] 400 ?_
  show AW Z k n 751 [some (.ref 2000000), some (.ref 0), some (.ref 272), some (.ref 297), some (.int (nI t)), none, none] [.int (nI t + 4), .ref 2000000, .int (xs (t + 3)), .int (xs (t + 2)), .int (xs (t + 1)), .ref 0] (zW cb w o)
  refine AWL.sld (pc := 751) (t := t + 4) hM hS rfl rfl (nI_add t 4) (by omega) hL ?_
  show AW Z k n 752 [some (.ref 2000000), some (.ref 0), some (.ref 272), some (.ref 297), some (.int (nI t)), none, none] [.int (xs (t + 4)), .int (xs (t + 3)), .int (xs (t + 2)), .int (xs (t + 1)), .ref 0] (zW cb w o)
  refine AWL.run hM hRm [753] 400 ?_
  show AW Z k n 753 [some (.ref 2000000), some (.ref 0), some (.ref 272), some (.ref 297), some (.int (nI t)), none, none] [.ref 297, .int (xs (t + 4)), .int (xs (t + 3)), .int (xs (t + 2)), .int (xs (t + 1)), .ref 0] (zW cb w o)
  have hRm1 : zRoom Z (k + 1) (n + 6) := zRoom_of hR hk hn
  have hlen := zRel.len h
  have hzl : (zW cb w o).length ≤ 1000000 := by
    have e : (zW cb w o).length = cb.length + 26 := by simp [zW, kR]
    omega
  rcases hc with ⟨cb1, hrel, hth, hX⟩ | ⟨hrel, hth, hX⟩
  · refine AWL.callW (pc := 753) (idx := 98) (M' := zML_deeds) (np := 6) hM hR hT (c_Law_deeds (xs (t + 1)) (xs (t + 2)) (xs (t + 3)) (xs (t + 4)) hlen (zRel.recv h) hX (fun v cc hv => ⟨_, hv.1⟩) (fun cc hx => hx.elim)) (zIn_mem (k := 1285) (by decide +kernel)) rfl rfl (zIn_mem (k := 1283) (by decide +kernel)) ⟨⟨zIn_mem (k := 106) (by decide +kernel), by decide +kernel, by decide +kernel, by decide +kernel⟩, zIn_mem (k := 1284) (by decide +kernel)⟩ rfl hzl (by decide) (by decide) hk hn rfl rfl (fun v cc1 hv => ?_)
    rcases hv with ⟨b9, cb9, ⟨hb9, hcb9⟩, hl9, rfl, rfl⟩ | ⟨hf, -⟩
    rotate_left
    · exact hf.elim
    have e9 := hcb9.symm
    subst e9
    cases hb9
    show AW Z (k + 1) (n + 6) 756 [some (.ref 2000000), some (.ref 0), some (.ref 272), some (.ref 297), some (.int (nI t)), none, none] [.int 0] (zW cb1 w (vp_updL o 0 b.toInt64))
    refine AWL.run hM hRm1 [758] 400 ?_
    show AW Z (k + 1) (n + 6) 758 [some (.ref 2000000), some (.ref 0), some (.ref 272), some (.ref 297), some (.int (nI t)), some (.int 0), none] [] (zW cb1 w (vp_updL o 0 b.toInt64))
    refine AWL.run hM hRm1 [764] 400 ?_
    show AW Z (k + 1) (n + 6) 764 [some (.ref 2000000), some (.ref 0), some (.ref 272), some (.ref 297), some (.int (nI t)), some (.int 0), none] [.int (nI t + 1), .ref 2000000, .ref 272] (zW cb1 w (vp_updL o 0 b.toInt64))
    refine AWL.sld (pc := 764) (t := t + 1) hM hS rfl rfl (nI_add t 1) (by omega) hL ?_
    show AW Z (k + 1) (n + 6) 765 [some (.ref 2000000), some (.ref 0), some (.ref 272), some (.ref 297), some (.int (nI t)), some (.int 0), none] [.int (xs (t + 1)), .ref 272] (zW cb1 w (vp_updL o 0 b.toInt64))
    refine AWL.run hM hRm1 [770] 400 ?_
    show AW Z (k + 1) (n + 6) 770 [some (.ref 2000000), some (.ref 0), some (.ref 272), some (.ref 297), some (.int (nI t)), some (.int 0), none] [.int (nI t + 2), .ref 2000000, .int (xs (t + 1)), .ref 272] (zW cb1 w (vp_updL o 0 b.toInt64))
    refine AWL.sld (pc := 770) (t := t + 2) hM hS rfl rfl (nI_add t 2) (by omega) hL ?_
    show AW Z (k + 1) (n + 6) 771 [some (.ref 2000000), some (.ref 0), some (.ref 272), some (.ref 297), some (.int (nI t)), some (.int 0), none] [.int (xs (t + 2)), .int (xs (t + 1)), .ref 272] (zW cb1 w (vp_updL o 0 b.toInt64))
    refine AWL.run hM hRm1 [776] 400 ?_
    show AW Z (k + 1) (n + 6) 776 [some (.ref 2000000), some (.ref 0), some (.ref 272), some (.ref 297), some (.int (nI t)), some (.int 0), none] [.int (nI t + 3), .ref 2000000, .int (xs (t + 2)), .int (xs (t + 1)), .ref 272] (zW cb1 w (vp_updL o 0 b.toInt64))
    refine AWL.sld (pc := 776) (t := t + 3) hM hS rfl rfl (nI_add t 3) (by omega) hL ?_
    show AW Z (k + 1) (n + 6) 777 [some (.ref 2000000), some (.ref 0), some (.ref 272), some (.ref 297), some (.int (nI t)), some (.int 0), none] [.int (xs (t + 3)), .int (xs (t + 2)), .int (xs (t + 1)), .ref 272] (zW cb1 w (vp_updL o 0 b.toInt64))
    refine AWL.run hM hRm1 [782] 400 ?_
    show AW Z (k + 1) (n + 6) 782 [some (.ref 2000000), some (.ref 0), some (.ref 272), some (.ref 297), some (.int (nI t)), some (.int 0), none] [.int (nI t + 4), .ref 2000000, .int (xs (t + 3)), .int (xs (t + 2)), .int (xs (t + 1)), .ref 272] (zW cb1 w (vp_updL o 0 b.toInt64))
    refine AWL.sld (pc := 782) (t := t + 4) hM hS rfl rfl (nI_add t 4) (by omega) hL ?_
    show AW Z (k + 1) (n + 6) 783 [some (.ref 2000000), some (.ref 0), some (.ref 272), some (.ref 297), some (.int (nI t)), some (.int 0), none] [.int (xs (t + 4)), .int (xs (t + 3)), .int (xs (t + 2)), .int (xs (t + 1)), .ref 272] (zW cb1 w (vp_updL o 0 b.toInt64))
    refine AWL.callR (pc := 783) (idx := 103) hM hR hN (zRel.len hrel) c2 zMX12_deeds_ok rfl rfl rfl (Or.inl (zIn_mem (k := 1911) (by decide +kernel))) zVL_R_deeds rfl (by decide) (by decide) (by omega) (by omega) (fun _ => rfl) rfl rfl ?_
    show AW Z (k + 1) (n + 6) 786 [some (.ref 2000000), some (.ref 0), some (.ref 272), some (.ref 297), some (.int (nI t)), some (.int 0), none] [.int b] (zW cb1 w1 (vp_updL o 0 b.toInt64))
    refine AWL.run hM hRm1 [789] 400 ?_
    show AW Z (k + 1) (n + 6) 789 [some (.ref 2000000), some (.ref 0), some (.ref 272), some (.ref 297), some (.int (nI t)), some (.int 0), some (.int b)] [.ref 272] (zW cb1 w1 (vp_updL o 0 b.toInt64))
    have c3 : Ct zMX12_thrown 1 0 0 0 [.ref 0] ([kR 0 w1] : List (List zE)).flatten (fun v cc => v = some (.int 0) ∧ cc = ([kR 0 w1] : List (List zE)).flatten) := by rw [← hth]; exact c_R_thrown 10000 w1 (R_thrown w1) rfl
    refine AWL.callR (pc := 789) (idx := 104) hM hR hN (zRel.len hrel) c3 zMX12_thrown_ok rfl rfl rfl (Or.inl (zIn_mem (k := 1396) (by decide +kernel))) zVL_R_thrown rfl (by decide) (by decide) (by omega) (by omega) (fun _ => rfl) rfl rfl ?_
    show AW Z (k + 1) (n + 6) 792 [some (.ref 2000000), some (.ref 0), some (.ref 272), some (.ref 297), some (.int (nI t)), some (.int 0), some (.int b)] [.int 0] (zW cb1 w1 (vp_updL o 0 b.toInt64))
    refine AWL.run hM hRm1 [799, 797] 400 ?_
    show (((0 : Int32) = 0 → AW Z (k + 1) (n + 6) 799 [some (.ref 2000000), some (.ref 0), some (.ref 272), some (.ref 297), some (.int (nI t)), some (.int 0), some (.int b)] [] (zW cb1 w1 (vp_updL o 0 b.toInt64))) ∧ (¬ ((0 : Int32) = 0) → AW Z (k + 1) (n + 6) 797 [some (.ref 2000000), some (.ref 0), some (.ref 272), some (.ref 297), some (.int (nI t)), some (.int 0), some (.int b)] [] (zW cb1 w1 (vp_updL o 0 b.toInt64))))
    refine ⟨fun _ => ?_, fun hf => absurd rfl hf⟩
    refine AWL.run hM hRm1 [816, 806] 400 ?_
    show ((¬ ((0 : Int32) = 0) → AW Z (k + 1) (n + 6) 816 [some (.ref 2000000), some (.ref 0), some (.ref 272), some (.ref 297), some (.int (nI t)), some (.int 0), some (.int b)] [] (zW cb1 w1 (vp_updL o 0 b.toInt64))) ∧ ((0 : Int32) = 0 → AW Z (k + 1) (n + 6) 806 [some (.ref 2000000), some (.ref 0), some (.ref 272), some (.ref 297), some (.int (nI t)), some (.int 0), some (.int b)] [.int 0, .ref 297] (zW cb1 w1 (vp_updL o 0 b.toInt64))))
    refine ⟨fun hf => absurd rfl hf, fun _ => ?_⟩
    refine AWL.lld (pc := 806) hM rfl rfl (show (zW cb1 w1 (vp_updL o 0 b.toInt64))[297]? = some (.inl (1, 1, .inr (.inl (vp_updL o 0 b.toInt64)))) from by unfold zW; rw [List.getElem?_append_right (by rw [zRel.len hrel]; decide), zRel.len hrel]; rfl) (show ¬ ((0 : Int32) < 0 ∨ 1 ≤ Int32.toNatClampNeg 0) from by decide) hRm1 ?_
    show AW Z (k + 1) (n + 6) 807 [some (.ref 2000000), some (.ref 0), some (.ref 272), some (.ref 297), some (.int (nI t)), some (.int 0), some (.int b)] [.long b.toInt64] (zW cb1 w1 (vp_updL o 0 b.toInt64))
    refine AWL.run hM hRm1 [816, 814] 400 ?_
    show ((lg_cmp b.toInt64 b.toInt64 = 0 → AW Z (k + 1) (n + 6) 816 [some (.ref 2000000), some (.ref 0), some (.ref 272), some (.ref 297), some (.int (nI t)), some (.int 0), some (.int b)] [] (zW cb1 w1 (vp_updL o 0 b.toInt64))) ∧ (¬ (lg_cmp b.toInt64 b.toInt64 = 0) → AW Z (k + 1) (n + 6) 814 [some (.ref 2000000), some (.ref 0), some (.ref 272), some (.ref 297), some (.int (nI t)), some (.int 0), some (.int b)] [] (zW cb1 w1 (vp_updL o 0 b.toInt64))))
    refine ⟨fun _ => ?_, fun hf => absurd (zcmp_self _) hf⟩
    refine AWL.run hM hRm1 [1188] 400 ?_
    show AW Z (k + 1) (n + 6) 1188 [some (.ref 2000000), some (.ref 0), some (.ref 272), some (.ref 297), some (.int (nI t)), some (.int 0), some (.int b)] [] (zW cb1 w1 (vp_updL o 0 b.toInt64))
    refine AW.forget [true, true, true, true, true, false, false] ?_
    show AW Z (k + 1) (n + 6) 1188 [some (.ref 2000000), some (.ref 0), some (.ref 272), some (.ref 297), some (.int (nI t)), none, none] [] (zW cb1 w1 (vp_updL o 0 b.toInt64))
    exact kk _ _ _ hrel
  · refine AWL.callW (pc := 753) (idx := 98) (M' := zML_deeds) (np := 6) hM hR hT (c_Law_deeds (xs (t + 1)) (xs (t + 2)) (xs (t + 3)) (xs (t + 4)) hlen (zRel.recv h) hX (fun v cc hv => hv.elim) (fun cc hx => hx)) (zIn_mem (k := 1285) (by decide +kernel)) rfl rfl (zIn_mem (k := 1283) (by decide +kernel)) ⟨⟨zIn_mem (k := 106) (by decide +kernel), by decide +kernel, by decide +kernel, by decide +kernel⟩, zIn_mem (k := 1284) (by decide +kernel)⟩ rfl hzl (by decide) (by decide) hk hn rfl rfl (fun v cc1 hv => ?_)
    rcases hv with ⟨b9, cb9, hf, -⟩ | ⟨-, rfl, rfl⟩
    · exact hf.elim
    show AW Z (k + 1) (n + 6) 756 [some (.ref 2000000), some (.ref 0), some (.ref 272), some (.ref 297), some (.int (nI t)), none, none] [.int 1] (zW cb w o)
    refine AWL.run hM hRm1 [758] 400 ?_
    show AW Z (k + 1) (n + 6) 758 [some (.ref 2000000), some (.ref 0), some (.ref 272), some (.ref 297), some (.int (nI t)), some (.int 1), none] [] (zW cb w o)
    refine AWL.run hM hRm1 [764] 400 ?_
    show AW Z (k + 1) (n + 6) 764 [some (.ref 2000000), some (.ref 0), some (.ref 272), some (.ref 297), some (.int (nI t)), some (.int 1), none] [.int (nI t + 1), .ref 2000000, .ref 272] (zW cb w o)
    refine AWL.sld (pc := 764) (t := t + 1) hM hS rfl rfl (nI_add t 1) (by omega) hL ?_
    show AW Z (k + 1) (n + 6) 765 [some (.ref 2000000), some (.ref 0), some (.ref 272), some (.ref 297), some (.int (nI t)), some (.int 1), none] [.int (xs (t + 1)), .ref 272] (zW cb w o)
    refine AWL.run hM hRm1 [770] 400 ?_
    show AW Z (k + 1) (n + 6) 770 [some (.ref 2000000), some (.ref 0), some (.ref 272), some (.ref 297), some (.int (nI t)), some (.int 1), none] [.int (nI t + 2), .ref 2000000, .int (xs (t + 1)), .ref 272] (zW cb w o)
    refine AWL.sld (pc := 770) (t := t + 2) hM hS rfl rfl (nI_add t 2) (by omega) hL ?_
    show AW Z (k + 1) (n + 6) 771 [some (.ref 2000000), some (.ref 0), some (.ref 272), some (.ref 297), some (.int (nI t)), some (.int 1), none] [.int (xs (t + 2)), .int (xs (t + 1)), .ref 272] (zW cb w o)
    refine AWL.run hM hRm1 [776] 400 ?_
    show AW Z (k + 1) (n + 6) 776 [some (.ref 2000000), some (.ref 0), some (.ref 272), some (.ref 297), some (.int (nI t)), some (.int 1), none] [.int (nI t + 3), .ref 2000000, .int (xs (t + 2)), .int (xs (t + 1)), .ref 272] (zW cb w o)
    refine AWL.sld (pc := 776) (t := t + 3) hM hS rfl rfl (nI_add t 3) (by omega) hL ?_
    show AW Z (k + 1) (n + 6) 777 [some (.ref 2000000), some (.ref 0), some (.ref 272), some (.ref 297), some (.int (nI t)), some (.int 1), none] [.int (xs (t + 3)), .int (xs (t + 2)), .int (xs (t + 1)), .ref 272] (zW cb w o)
    refine AWL.run hM hRm1 [782] 400 ?_
    show AW Z (k + 1) (n + 6) 782 [some (.ref 2000000), some (.ref 0), some (.ref 272), some (.ref 297), some (.int (nI t)), some (.int 1), none] [.int (nI t + 4), .ref 2000000, .int (xs (t + 3)), .int (xs (t + 2)), .int (xs (t + 1)), .ref 272] (zW cb w o)
    refine AWL.sld (pc := 782) (t := t + 4) hM hS rfl rfl (nI_add t 4) (by omega) hL ?_
    show AW Z (k + 1) (n + 6) 783 [some (.ref 2000000), some (.ref 0), some (.ref 272), some (.ref 297), some (.int (nI t)), some (.int 1), none] [.int (xs (t + 4)), .int (xs (t + 3)), .int (xs (t + 2)), .int (xs (t + 1)), .ref 272] (zW cb w o)
    refine AWL.callR (pc := 783) (idx := 103) hM hR hN hlen c2 zMX12_deeds_ok rfl rfl rfl (Or.inl (zIn_mem (k := 1911) (by decide +kernel))) zVL_R_deeds rfl (by decide) (by decide) (by omega) (by omega) (fun _ => rfl) rfl rfl ?_
    show AW Z (k + 1) (n + 6) 786 [some (.ref 2000000), some (.ref 0), some (.ref 272), some (.ref 297), some (.int (nI t)), some (.int 1), none] [.int b] (zW cb w1 o)
    refine AWL.run hM hRm1 [789] 400 ?_
    show AW Z (k + 1) (n + 6) 789 [some (.ref 2000000), some (.ref 0), some (.ref 272), some (.ref 297), some (.int (nI t)), some (.int 1), some (.int b)] [.ref 272] (zW cb w1 o)
    have c3 : Ct zMX12_thrown 1 0 0 0 [.ref 0] ([kR 0 w1] : List (List zE)).flatten (fun v cc => v = some (.int 1) ∧ cc = ([kR 0 w1] : List (List zE)).flatten) := by rw [← hth]; exact c_R_thrown 10000 w1 (R_thrown w1) rfl
    refine AWL.callR (pc := 789) (idx := 104) hM hR hN hlen c3 zMX12_thrown_ok rfl rfl rfl (Or.inl (zIn_mem (k := 1396) (by decide +kernel))) zVL_R_thrown rfl (by decide) (by decide) (by omega) (by omega) (fun _ => rfl) rfl rfl ?_
    show AW Z (k + 1) (n + 6) 792 [some (.ref 2000000), some (.ref 0), some (.ref 272), some (.ref 297), some (.int (nI t)), some (.int 1), some (.int b)] [.int 1] (zW cb w1 o)
    refine AWL.run hM hRm1 [799, 797] 400 ?_
    show (((1 : Int32) = 1 → AW Z (k + 1) (n + 6) 799 [some (.ref 2000000), some (.ref 0), some (.ref 272), some (.ref 297), some (.int (nI t)), some (.int 1), some (.int b)] [] (zW cb w1 o)) ∧ (¬ ((1 : Int32) = 1) → AW Z (k + 1) (n + 6) 797 [some (.ref 2000000), some (.ref 0), some (.ref 272), some (.ref 297), some (.int (nI t)), some (.int 1), some (.int b)] [] (zW cb w1 o)))
    refine ⟨fun _ => ?_, fun hf => absurd rfl hf⟩
    refine AWL.run hM hRm1 [816, 806] 400 ?_
    show ((¬ ((1 : Int32) = 0) → AW Z (k + 1) (n + 6) 816 [some (.ref 2000000), some (.ref 0), some (.ref 272), some (.ref 297), some (.int (nI t)), some (.int 1), some (.int b)] [] (zW cb w1 o)) ∧ ((1 : Int32) = 0 → AW Z (k + 1) (n + 6) 806 [some (.ref 2000000), some (.ref 0), some (.ref 272), some (.ref 297), some (.int (nI t)), some (.int 1), some (.int b)] [.int 0, .ref 297] (zW cb w1 o)))
    refine ⟨fun _ => ?_, fun hf => absurd hf (by decide)⟩
    refine AWL.run hM hRm1 [1188] 400 ?_
    show AW Z (k + 1) (n + 6) 1188 [some (.ref 2000000), some (.ref 0), some (.ref 272), some (.ref 297), some (.int (nI t)), some (.int 1), some (.int b)] [] (zW cb w1 o)
    refine AW.forget [true, true, true, true, true, false, false] ?_
    show AW Z (k + 1) (n + 6) 1188 [some (.ref 2000000), some (.ref 0), some (.ref 272), some (.ref 297), some (.int (nI t)), none, none] [] (zW cb w1 o)
    exact kk _ _ _ hrel
def zLC18 : List zIt := [(819, .aload_n 1, 1, .null, 0, 0, 0, []), (820, .aload_n 0, 1, .null, 0, 0, 0, []), (821, .iload 4, 2, .null, 0, 0, 0, []), (823, .iconst 1, 1, .int 1, 0, 0, 0, []), (824, .iadd, 1, .null, 0, 0, 0, []), (825, .iaload, 1, .null, 0, 0, 0, []), (826, .invokevirtual 107, 3, .null, 0, 0, 0, []), (829, .aload_n 2, 1, .null, 0, 0, 0, []), (830, .aload_n 0, 1, .null, 0, 0, 0, []), (831, .iload 4, 2, .null, 0, 0, 0, []), (833, .iconst 1, 1, .int 1, 0, 0, 0, []), (834, .iadd, 1, .null, 0, 0, 0, []), (835, .iaload, 1, .null, 0, 0, 0, []), (836, .invokevirtual 110, 3, .null, 0, 0, 0, []), (839, .if_icmp .eq 349, 3, .null, 1188, 0, 0, []), (842, .iconst 0, 1, .int 0, 0, 0, 0, []), (843, .ireturn, 1, .null, 0, 0, 0, [])]
set_option maxRecDepth 20000 in
theorem zLC18_ok : zMokL (zLM zLC18) := ⟨by decide +kernel, by decide +kernel, zCL_ok, rfl, trivial, by decide +kernel⟩
theorem zVL_B_pairs : zVirt ⟨"BorrowedLives", "pairs", "(I)I"⟩ 1 := ⟨⟨zIn_mem (k := 107) (by decide +kernel), by decide +kernel, by decide +kernel, by decide +kernel⟩, zIn_mem (k := 1162) (by decide +kernel), zIn_mem (k := 1163) (by decide +kernel)⟩
theorem zVL_R_pairs : zVirt ⟨"BorrowedLivesModel", "pairs", "(I)I"⟩ 1 := ⟨⟨zIn_mem (k := 119) (by decide +kernel), by decide +kernel, by decide +kernel, by decide +kernel⟩, zIn_mem (k := 1924) (by decide +kernel), zIn_mem (k := 1925) (by decide +kernel)⟩
set_option maxRecDepth 40000 in
set_option maxHeartbeats 8000000 in
theorem law_c18 {Z : zCtx} {L : Nat} {xs : Nat → Int32} (hZ : zOkL Z (zLM [])) (hR : zCan Z 1200 601024 7293033) (hN : zNew Z 0 298) (hT : zThrL Z) (hS : zScr Z L xs) {cb : List zE} {w : VR} {o : Nat → Int64} {k n t : Nat} (hk : k + 1 ≤ 601024) (hn : n + 6 ≤ 7293033) (ht : t + 7 ≤ L) (hL : L ≤ 3584) (h : zRel cb w) (kk : ∀ (cb1 : List zE) (w1 : VR) (o1 : Nat → Int64), zRel cb1 w1 → AW Z (k + 1) (n + 6) 1188 [some (.ref 2000000), some (.ref 0), some (.ref 272), some (.ref 297), some (.int (nI t)), none, none] [] (zW cb1 w1 o1)) : AW Z k n 819 [some (.ref 2000000), some (.ref 0), some (.ref 272), some (.ref 297), some (.int (nI t)), none, none] [] (zW cb w o) := by
  have hM := hZ.re zLC18_ok
  have hRm : zRoom Z k n := zRoom_of hR (by omega) (by omega)
  obtain ⟨a, cb1, w1, hrel, c1, c2⟩ := jj_pairs h (xs (t + 1))
  refine AWL.run hM hRm [825] 400 ?_
  show AW Z k n 825 [some (.ref 2000000), some (.ref 0), some (.ref 272), some (.ref 297), some (.int (nI t)), none, none] [.int (nI t + 1), .ref 2000000, .ref 0] (zW cb w o)
  refine AWL.sld (pc := 825) (t := t + 1) hM hS rfl rfl (nI_add t 1) (by omega) hL ?_
  show AW Z k n 826 [some (.ref 2000000), some (.ref 0), some (.ref 272), some (.ref 297), some (.int (nI t)), none, none] [.int (xs (t + 1)), .ref 0] (zW cb w o)
  refine AWL.callB (pc := 826) (idx := 107) hM hR hN (zRel.len h) (zRel.recv h) c1 zMX11_pairs_ok rfl rfl rfl (Or.inl (zIn_mem (k := 1161) (by decide +kernel))) zVL_B_pairs rfl (by decide) (by decide) (by omega) (by omega) rfl rfl ?_
  show AW Z k n 829 [some (.ref 2000000), some (.ref 0), some (.ref 272), some (.ref 297), some (.int (nI t)), none, none] [.int a] (zW cb1 w o)
  refine AWL.run hM hRm [835] 400 ?_
  show AW Z k n 835 [some (.ref 2000000), some (.ref 0), some (.ref 272), some (.ref 297), some (.int (nI t)), none, none] [.int (nI t + 1), .ref 2000000, .ref 272, .int a] (zW cb1 w o)
  refine AWL.sld (pc := 835) (t := t + 1) hM hS rfl rfl (nI_add t 1) (by omega) hL ?_
  show AW Z k n 836 [some (.ref 2000000), some (.ref 0), some (.ref 272), some (.ref 297), some (.int (nI t)), none, none] [.int (xs (t + 1)), .ref 272, .int a] (zW cb1 w o)
  refine AWL.callR (pc := 836) (idx := 110) hM hR hN (zRel.len hrel) c2 zMX12_pairs_ok rfl rfl rfl (Or.inl (zIn_mem (k := 1923) (by decide +kernel))) zVL_R_pairs rfl (by decide) (by decide) (by omega) (by omega) (fun _ => rfl) rfl rfl ?_
  show AW Z k n 839 [some (.ref 2000000), some (.ref 0), some (.ref 272), some (.ref 297), some (.int (nI t)), none, none] [.int a, .int a] (zW cb1 w1 o)
  refine AWL.run hM hRm [1188, 842] 400 ?_
  show ((a = a → AW Z k n 1188 [some (.ref 2000000), some (.ref 0), some (.ref 272), some (.ref 297), some (.int (nI t)), none, none] [] (zW cb1 w1 o)) ∧ (¬ (a = a) → AW Z k n 842 [some (.ref 2000000), some (.ref 0), some (.ref 272), some (.ref 297), some (.int (nI t)), none, none] [] (zW cb1 w1 o)))
  exact ⟨fun _ => AW.wide (by omega) (by omega) (kk _ _ _ hrel), fun hf => absurd rfl hf⟩
def zLC19 : List zIt := [(844, .aload_n 1, 1, .null, 0, 0, 0, []), (845, .aload_n 0, 1, .null, 0, 0, 0, []), (846, .iload 4, 2, .null, 0, 0, 0, []), (848, .iconst 1, 1, .int 1, 0, 0, 0, []), (849, .iadd, 1, .null, 0, 0, 0, []), (850, .iaload, 1, .null, 0, 0, 0, []), (851, .aload_n 0, 1, .null, 0, 0, 0, []), (852, .iload 4, 2, .null, 0, 0, 0, []), (854, .iconst 2, 1, .int 2, 0, 0, 0, []), (855, .iadd, 1, .null, 0, 0, 0, []), (856, .iaload, 1, .null, 0, 0, 0, []), (857, .aload_n 0, 1, .null, 0, 0, 0, []), (858, .iload 4, 2, .null, 0, 0, 0, []), (860, .iconst 3, 1, .int 3, 0, 0, 0, []), (861, .iadd, 1, .null, 0, 0, 0, []), (862, .iaload, 1, .null, 0, 0, 0, []), (863, .invokevirtual 111, 3, .null, 0, 0, 0, []), (866, .aload_n 2, 1, .null, 0, 0, 0, []), (867, .aload_n 0, 1, .null, 0, 0, 0, []), (868, .iload 4, 2, .null, 0, 0, 0, []), (870, .iconst 1, 1, .int 1, 0, 0, 0, []), (871, .iadd, 1, .null, 0, 0, 0, []), (872, .iaload, 1, .null, 0, 0, 0, []), (873, .aload_n 0, 1, .null, 0, 0, 0, []), (874, .iload 4, 2, .null, 0, 0, 0, []), (876, .iconst 2, 1, .int 2, 0, 0, 0, []), (877, .iadd, 1, .null, 0, 0, 0, []), (878, .iaload, 1, .null, 0, 0, 0, []), (879, .aload_n 0, 1, .null, 0, 0, 0, []), (880, .iload 4, 2, .null, 0, 0, 0, []), (882, .iconst 3, 1, .int 3, 0, 0, 0, []), (883, .iadd, 1, .null, 0, 0, 0, []), (884, .iaload, 1, .null, 0, 0, 0, []), (885, .invokevirtual 115, 3, .null, 0, 0, 0, []), (888, .if_icmp .eq 300, 3, .null, 1188, 0, 0, []), (891, .iconst 0, 1, .int 0, 0, 0, 0, []), (892, .ireturn, 1, .null, 0, 0, 0, [])]
set_option maxRecDepth 20000 in
theorem zLC19_ok : zMokL (zLM zLC19) := ⟨by decide +kernel, by decide +kernel, zCL_ok, rfl, trivial, by decide +kernel⟩
theorem zVL_B_tale : zVirt ⟨"BorrowedLives", "tale", "(III)Z"⟩ 3 := ⟨⟨zIn_mem (k := 107) (by decide +kernel), by decide +kernel, by decide +kernel, by decide +kernel⟩, zIn_mem (k := 1191) (by decide +kernel), zIn_mem (k := 1192) (by decide +kernel)⟩
theorem zVL_R_tale : zVirt ⟨"BorrowedLivesModel", "tale", "(III)Z"⟩ 3 := ⟨⟨zIn_mem (k := 119) (by decide +kernel), by decide +kernel, by decide +kernel, by decide +kernel⟩, zIn_mem (k := 1936) (by decide +kernel), zIn_mem (k := 1937) (by decide +kernel)⟩
set_option maxRecDepth 40000 in
set_option maxHeartbeats 8000000 in
theorem law_c19 {Z : zCtx} {L : Nat} {xs : Nat → Int32} (hZ : zOkL Z (zLM [])) (hR : zCan Z 1200 601024 7293033) (hN : zNew Z 0 298) (hT : zThrL Z) (hS : zScr Z L xs) {cb : List zE} {w : VR} {o : Nat → Int64} {k n t : Nat} (hk : k + 1 ≤ 601024) (hn : n + 6 ≤ 7293033) (ht : t + 7 ≤ L) (hL : L ≤ 3584) (h : zRel cb w) (kk : ∀ (cb1 : List zE) (w1 : VR) (o1 : Nat → Int64), zRel cb1 w1 → AW Z (k + 1) (n + 6) 1188 [some (.ref 2000000), some (.ref 0), some (.ref 272), some (.ref 297), some (.int (nI t)), none, none] [] (zW cb1 w1 o1)) : AW Z k n 844 [some (.ref 2000000), some (.ref 0), some (.ref 272), some (.ref 297), some (.int (nI t)), none, none] [] (zW cb w o) := by
  have hM := hZ.re zLC19_ok
  have hRm : zRoom Z k n := zRoom_of hR (by omega) (by omega)
  obtain ⟨a, cb1, w1, hrel, c1, c2⟩ := jj_tale h (xs (t + 1)) (xs (t + 2)) (xs (t + 3))
  refine AWL.run hM hRm [850] 400 ?_
  show AW Z k n 850 [some (.ref 2000000), some (.ref 0), some (.ref 272), some (.ref 297), some (.int (nI t)), none, none] [.int (nI t + 1), .ref 2000000, .ref 0] (zW cb w o)
  refine AWL.sld (pc := 850) (t := t + 1) hM hS rfl rfl (nI_add t 1) (by omega) hL ?_
  show AW Z k n 851 [some (.ref 2000000), some (.ref 0), some (.ref 272), some (.ref 297), some (.int (nI t)), none, none] [.int (xs (t + 1)), .ref 0] (zW cb w o)
  refine AWL.run hM hRm [856] 400 ?_
  show AW Z k n 856 [some (.ref 2000000), some (.ref 0), some (.ref 272), some (.ref 297), some (.int (nI t)), none, none] [.int (nI t + 2), .ref 2000000, .int (xs (t + 1)), .ref 0] (zW cb w o)
  refine AWL.sld (pc := 856) (t := t + 2) hM hS rfl rfl (nI_add t 2) (by omega) hL ?_
  show AW Z k n 857 [some (.ref 2000000), some (.ref 0), some (.ref 272), some (.ref 297), some (.int (nI t)), none, none] [.int (xs (t + 2)), .int (xs (t + 1)), .ref 0] (zW cb w o)
  refine AWL.run hM hRm [862] 400 ?_
  show AW Z k n 862 [some (.ref 2000000), some (.ref 0), some (.ref 272), some (.ref 297), some (.int (nI t)), none, none] [.int (nI t + 3), .ref 2000000, .int (xs (t + 2)), .int (xs (t + 1)), .ref 0] (zW cb w o)
  refine AWL.sld (pc := 862) (t := t + 3) hM hS rfl rfl (nI_add t 3) (by omega) hL ?_
  show AW Z k n 863 [some (.ref 2000000), some (.ref 0), some (.ref 272), some (.ref 297), some (.int (nI t)), none, none] [.int (xs (t + 3)), .int (xs (t + 2)), .int (xs (t + 1)), .ref 0] (zW cb w o)
  refine AWL.callB (pc := 863) (idx := 111) hM hR hN (zRel.len h) (zRel.recv h) c1 zMX11_tale_ok rfl rfl rfl (Or.inl (zIn_mem (k := 1190) (by decide +kernel))) zVL_B_tale rfl (by decide) (by decide) (by omega) (by omega) rfl rfl ?_
  show AW Z k n 866 [some (.ref 2000000), some (.ref 0), some (.ref 272), some (.ref 297), some (.int (nI t)), none, none] [.int a] (zW cb1 w o)
  refine AWL.run hM hRm [872] 400 ?_
  show AW Z k n 872 [some (.ref 2000000), some (.ref 0), some (.ref 272), some (.ref 297), some (.int (nI t)), none, none] [.int (nI t + 1), .ref 2000000, .ref 272, .int a] (zW cb1 w o)
  refine AWL.sld (pc := 872) (t := t + 1) hM hS rfl rfl (nI_add t 1) (by omega) hL ?_
  show AW Z k n 873 [some (.ref 2000000), some (.ref 0), some (.ref 272), some (.ref 297), some (.int (nI t)), none, none] [.int (xs (t + 1)), .ref 272, .int a] (zW cb1 w o)
  refine AWL.run hM hRm [878] 400 ?_
  show AW Z k n 878 [some (.ref 2000000), some (.ref 0), some (.ref 272), some (.ref 297), some (.int (nI t)), none, none] [.int (nI t + 2), .ref 2000000, .int (xs (t + 1)), .ref 272, .int a] (zW cb1 w o)
  refine AWL.sld (pc := 878) (t := t + 2) hM hS rfl rfl (nI_add t 2) (by omega) hL ?_
  show AW Z k n 879 [some (.ref 2000000), some (.ref 0), some (.ref 272), some (.ref 297), some (.int (nI t)), none, none] [.int (xs (t + 2)), .int (xs (t + 1)), .ref 272, .int a] (zW cb1 w o)
  refine AWL.run hM hRm [884] 400 ?_
  show AW Z k n 884 [some (.ref 2000000), some (.ref 0), some (.ref 272), some (.ref 297), some (.int (nI t)), none, none] [.int (nI t + 3), .ref 2000000, .int (xs (t + 2)), .int (xs (t + 1)), .ref 272, .int a] (zW cb1 w o)
  refine AWL.sld (pc := 884) (t := t + 3) hM hS rfl rfl (nI_add t 3) (by omega) hL ?_
  show AW Z k n 885 [some (.ref 2000000), some (.ref 0), some (.ref 272), some (.ref 297), some (.int (nI t)), none, none] [.int (xs (t + 3)), .int (xs (t + 2)), .int (xs (t + 1)), .ref 272, .int a] (zW cb1 w o)
  refine AWL.callR (pc := 885) (idx := 115) hM hR hN (zRel.len hrel) c2 zMX12_tale_ok rfl rfl rfl (Or.inl (zIn_mem (k := 1935) (by decide +kernel))) zVL_R_tale rfl (by decide) (by decide) (by omega) (by omega) (fun _ => rfl) rfl rfl ?_
  show AW Z k n 888 [some (.ref 2000000), some (.ref 0), some (.ref 272), some (.ref 297), some (.int (nI t)), none, none] [.int a, .int a] (zW cb1 w1 o)
  refine AWL.run hM hRm [1188, 891] 400 ?_
  show ((a = a → AW Z k n 1188 [some (.ref 2000000), some (.ref 0), some (.ref 272), some (.ref 297), some (.int (nI t)), none, none] [] (zW cb1 w1 o)) ∧ (¬ (a = a) → AW Z k n 891 [some (.ref 2000000), some (.ref 0), some (.ref 272), some (.ref 297), some (.int (nI t)), none, none] [] (zW cb1 w1 o)))
  exact ⟨fun _ => AW.wide (by omega) (by omega) (kk _ _ _ hrel), fun hf => absurd rfl hf⟩
def zLC20 : List zIt := [(893, .aload_n 1, 1, .null, 0, 0, 0, []), (894, .invokevirtual 116, 3, .null, 0, 0, 0, []), (897, .aload_n 2, 1, .null, 0, 0, 0, []), (898, .invokevirtual 119, 3, .null, 0, 0, 0, []), (901, .if_icmp .eq 287, 3, .null, 1188, 0, 0, []), (904, .iconst 0, 1, .int 0, 0, 0, 0, []), (905, .ireturn, 1, .null, 0, 0, 0, [])]
set_option maxRecDepth 20000 in
theorem zLC20_ok : zMokL (zLM zLC20) := ⟨by decide +kernel, by decide +kernel, zCL_ok, rfl, trivial, by decide +kernel⟩
theorem zVL_B_how : zVirt ⟨"BorrowedLives", "how", "()I"⟩ 0 := ⟨⟨zIn_mem (k := 107) (by decide +kernel), by decide +kernel, by decide +kernel, by decide +kernel⟩, zIn_mem (k := 1199) (by decide +kernel), zIn_mem (k := 1200) (by decide +kernel)⟩
theorem zVL_R_how : zVirt ⟨"BorrowedLivesModel", "how", "()I"⟩ 0 := ⟨⟨zIn_mem (k := 119) (by decide +kernel), by decide +kernel, by decide +kernel, by decide +kernel⟩, zIn_mem (k := 1940) (by decide +kernel), zIn_mem (k := 1941) (by decide +kernel)⟩
set_option maxRecDepth 40000 in
set_option maxHeartbeats 8000000 in
theorem law_c20 {Z : zCtx} {L : Nat} {xs : Nat → Int32} (hZ : zOkL Z (zLM [])) (hR : zCan Z 1200 601024 7293033) (hN : zNew Z 0 298) (hT : zThrL Z) (hS : zScr Z L xs) {cb : List zE} {w : VR} {o : Nat → Int64} {k n t : Nat} (hk : k + 1 ≤ 601024) (hn : n + 6 ≤ 7293033) (ht : t + 7 ≤ L) (hL : L ≤ 3584) (h : zRel cb w) (kk : ∀ (cb1 : List zE) (w1 : VR) (o1 : Nat → Int64), zRel cb1 w1 → AW Z (k + 1) (n + 6) 1188 [some (.ref 2000000), some (.ref 0), some (.ref 272), some (.ref 297), some (.int (nI t)), none, none] [] (zW cb1 w1 o1)) : AW Z k n 893 [some (.ref 2000000), some (.ref 0), some (.ref 272), some (.ref 297), some (.int (nI t)), none, none] [] (zW cb w o) := by
  have hM := hZ.re zLC20_ok
  have hRm : zRoom Z k n := zRoom_of hR (by omega) (by omega)
  obtain ⟨a, cb1, w1, hrel, c1, c2⟩ := jj_how h
  refine AWL.run hM hRm [894] 400 ?_
  show AW Z k n 894 [some (.ref 2000000), some (.ref 0), some (.ref 272), some (.ref 297), some (.int (nI t)), none, none] [.ref 0] (zW cb w o)
  refine AWL.callB (pc := 894) (idx := 116) hM hR hN (zRel.len h) (zRel.recv h) c1 zMX11_how_ok rfl rfl rfl (Or.inl (zIn_mem (k := 1198) (by decide +kernel))) zVL_B_how rfl (by decide) (by decide) (by omega) (by omega) rfl rfl ?_
  show AW Z k n 897 [some (.ref 2000000), some (.ref 0), some (.ref 272), some (.ref 297), some (.int (nI t)), none, none] [.int a] (zW cb1 w o)
  refine AWL.run hM hRm [898] 400 ?_
  show AW Z k n 898 [some (.ref 2000000), some (.ref 0), some (.ref 272), some (.ref 297), some (.int (nI t)), none, none] [.ref 272, .int a] (zW cb1 w o)
  refine AWL.callR (pc := 898) (idx := 119) hM hR hN (zRel.len hrel) c2 zMX12_how_ok rfl rfl rfl (Or.inl (zIn_mem (k := 1939) (by decide +kernel))) zVL_R_how rfl (by decide) (by decide) (by omega) (by omega) (fun _ => rfl) rfl rfl ?_
  show AW Z k n 901 [some (.ref 2000000), some (.ref 0), some (.ref 272), some (.ref 297), some (.int (nI t)), none, none] [.int a, .int a] (zW cb1 w1 o)
  refine AWL.run hM hRm [1188, 904] 400 ?_
  show ((a = a → AW Z k n 1188 [some (.ref 2000000), some (.ref 0), some (.ref 272), some (.ref 297), some (.int (nI t)), none, none] [] (zW cb1 w1 o)) ∧ (¬ (a = a) → AW Z k n 904 [some (.ref 2000000), some (.ref 0), some (.ref 272), some (.ref 297), some (.int (nI t)), none, none] [] (zW cb1 w1 o)))
  exact ⟨fun _ => AW.wide (by omega) (by omega) (kk _ _ _ hrel), fun hf => absurd rfl hf⟩
def zLC21 : List zIt := [(906, .aload_n 1, 1, .null, 0, 0, 0, []), (907, .aload_n 0, 1, .null, 0, 0, 0, []), (908, .iload 4, 2, .null, 0, 0, 0, []), (910, .iconst 1, 1, .int 1, 0, 0, 0, []), (911, .iadd, 1, .null, 0, 0, 0, []), (912, .iaload, 1, .null, 0, 0, 0, []), (913, .invokevirtual 120, 3, .null, 0, 0, 0, []), (916, .aload_n 2, 1, .null, 0, 0, 0, []), (917, .aload_n 0, 1, .null, 0, 0, 0, []), (918, .iload 4, 2, .null, 0, 0, 0, []), (920, .iconst 1, 1, .int 1, 0, 0, 0, []), (921, .iadd, 1, .null, 0, 0, 0, []), (922, .iaload, 1, .null, 0, 0, 0, []), (923, .invokevirtual 123, 3, .null, 0, 0, 0, []), (926, .if_icmp .eq 262, 3, .null, 1188, 0, 0, []), (929, .iconst 0, 1, .int 0, 0, 0, 0, []), (930, .ireturn, 1, .null, 0, 0, 0, [])]
set_option maxRecDepth 20000 in
theorem zLC21_ok : zMokL (zLM zLC21) := ⟨by decide +kernel, by decide +kernel, zCL_ok, rfl, trivial, by decide +kernel⟩
theorem zVL_B_who : zVirt ⟨"BorrowedLives", "who", "(I)I"⟩ 1 := ⟨⟨zIn_mem (k := 107) (by decide +kernel), by decide +kernel, by decide +kernel, by decide +kernel⟩, zIn_mem (k := 1215) (by decide +kernel), zIn_mem (k := 1216) (by decide +kernel)⟩
theorem zVL_R_who : zVirt ⟨"BorrowedLivesModel", "who", "(I)I"⟩ 1 := ⟨⟨zIn_mem (k := 119) (by decide +kernel), by decide +kernel, by decide +kernel, by decide +kernel⟩, zIn_mem (k := 1952) (by decide +kernel), zIn_mem (k := 1953) (by decide +kernel)⟩
set_option maxRecDepth 40000 in
set_option maxHeartbeats 8000000 in
theorem law_c21 {Z : zCtx} {L : Nat} {xs : Nat → Int32} (hZ : zOkL Z (zLM [])) (hR : zCan Z 1200 601024 7293033) (hN : zNew Z 0 298) (hT : zThrL Z) (hS : zScr Z L xs) {cb : List zE} {w : VR} {o : Nat → Int64} {k n t : Nat} (hk : k + 1 ≤ 601024) (hn : n + 6 ≤ 7293033) (ht : t + 7 ≤ L) (hL : L ≤ 3584) (h : zRel cb w) (kk : ∀ (cb1 : List zE) (w1 : VR) (o1 : Nat → Int64), zRel cb1 w1 → AW Z (k + 1) (n + 6) 1188 [some (.ref 2000000), some (.ref 0), some (.ref 272), some (.ref 297), some (.int (nI t)), none, none] [] (zW cb1 w1 o1)) : AW Z k n 906 [some (.ref 2000000), some (.ref 0), some (.ref 272), some (.ref 297), some (.int (nI t)), none, none] [] (zW cb w o) := by
  have hM := hZ.re zLC21_ok
  have hRm : zRoom Z k n := zRoom_of hR (by omega) (by omega)
  obtain ⟨a, cb1, w1, hrel, c1, c2⟩ := jj_who h (xs (t + 1))
  refine AWL.run hM hRm [912] 400 ?_
  show AW Z k n 912 [some (.ref 2000000), some (.ref 0), some (.ref 272), some (.ref 297), some (.int (nI t)), none, none] [.int (nI t + 1), .ref 2000000, .ref 0] (zW cb w o)
  refine AWL.sld (pc := 912) (t := t + 1) hM hS rfl rfl (nI_add t 1) (by omega) hL ?_
  show AW Z k n 913 [some (.ref 2000000), some (.ref 0), some (.ref 272), some (.ref 297), some (.int (nI t)), none, none] [.int (xs (t + 1)), .ref 0] (zW cb w o)
  refine AWL.callB (pc := 913) (idx := 120) hM hR hN (zRel.len h) (zRel.recv h) c1 zMX11_who_ok rfl rfl rfl (Or.inl (zIn_mem (k := 1214) (by decide +kernel))) zVL_B_who rfl (by decide) (by decide) (by omega) (by omega) rfl rfl ?_
  show AW Z k n 916 [some (.ref 2000000), some (.ref 0), some (.ref 272), some (.ref 297), some (.int (nI t)), none, none] [.int a] (zW cb1 w o)
  refine AWL.run hM hRm [922] 400 ?_
  show AW Z k n 922 [some (.ref 2000000), some (.ref 0), some (.ref 272), some (.ref 297), some (.int (nI t)), none, none] [.int (nI t + 1), .ref 2000000, .ref 272, .int a] (zW cb1 w o)
  refine AWL.sld (pc := 922) (t := t + 1) hM hS rfl rfl (nI_add t 1) (by omega) hL ?_
  show AW Z k n 923 [some (.ref 2000000), some (.ref 0), some (.ref 272), some (.ref 297), some (.int (nI t)), none, none] [.int (xs (t + 1)), .ref 272, .int a] (zW cb1 w o)
  refine AWL.callR (pc := 923) (idx := 123) hM hR hN (zRel.len hrel) c2 zMX12_who_ok rfl rfl rfl (Or.inl (zIn_mem (k := 1951) (by decide +kernel))) zVL_R_who rfl (by decide) (by decide) (by omega) (by omega) (fun _ => rfl) rfl rfl ?_
  show AW Z k n 926 [some (.ref 2000000), some (.ref 0), some (.ref 272), some (.ref 297), some (.int (nI t)), none, none] [.int a, .int a] (zW cb1 w1 o)
  refine AWL.run hM hRm [1188, 929] 400 ?_
  show ((a = a → AW Z k n 1188 [some (.ref 2000000), some (.ref 0), some (.ref 272), some (.ref 297), some (.int (nI t)), none, none] [] (zW cb1 w1 o)) ∧ (¬ (a = a) → AW Z k n 929 [some (.ref 2000000), some (.ref 0), some (.ref 272), some (.ref 297), some (.int (nI t)), none, none] [] (zW cb1 w1 o)))
  exact ⟨fun _ => AW.wide (by omega) (by omega) (kk _ _ _ hrel), fun hf => absurd rfl hf⟩
def zLC22 : List zIt := [(931, .aload_n 1, 1, .null, 0, 0, 0, []), (932, .invokevirtual 124, 3, .null, 0, 0, 0, []), (935, .aload_n 2, 1, .null, 0, 0, 0, []), (936, .invokevirtual 127, 3, .null, 0, 0, 0, []), (939, .if_icmp .eq 249, 3, .null, 1188, 0, 0, []), (942, .iconst 0, 1, .int 0, 0, 0, 0, []), (943, .ireturn, 1, .null, 0, 0, 0, [])]
set_option maxRecDepth 20000 in
theorem zLC22_ok : zMokL (zLM zLC22) := ⟨by decide +kernel, by decide +kernel, zCL_ok, rfl, trivial, by decide +kernel⟩
theorem zVL_B_ask : zVirt ⟨"BorrowedLives", "ask", "()I"⟩ 0 := ⟨⟨zIn_mem (k := 107) (by decide +kernel), by decide +kernel, by decide +kernel, by decide +kernel⟩, zIn_mem (k := 1224) (by decide +kernel), zIn_mem (k := 1225) (by decide +kernel)⟩
theorem zVL_R_ask : zVirt ⟨"BorrowedLivesModel", "ask", "()I"⟩ 0 := ⟨⟨zIn_mem (k := 119) (by decide +kernel), by decide +kernel, by decide +kernel, by decide +kernel⟩, zIn_mem (k := 1956) (by decide +kernel), zIn_mem (k := 1957) (by decide +kernel)⟩
set_option maxRecDepth 40000 in
set_option maxHeartbeats 8000000 in
theorem law_c22 {Z : zCtx} {L : Nat} {xs : Nat → Int32} (hZ : zOkL Z (zLM [])) (hR : zCan Z 1200 601024 7293033) (hN : zNew Z 0 298) (hT : zThrL Z) (hS : zScr Z L xs) {cb : List zE} {w : VR} {o : Nat → Int64} {k n t : Nat} (hk : k + 1 ≤ 601024) (hn : n + 6 ≤ 7293033) (ht : t + 7 ≤ L) (hL : L ≤ 3584) (h : zRel cb w) (kk : ∀ (cb1 : List zE) (w1 : VR) (o1 : Nat → Int64), zRel cb1 w1 → AW Z (k + 1) (n + 6) 1188 [some (.ref 2000000), some (.ref 0), some (.ref 272), some (.ref 297), some (.int (nI t)), none, none] [] (zW cb1 w1 o1)) : AW Z k n 931 [some (.ref 2000000), some (.ref 0), some (.ref 272), some (.ref 297), some (.int (nI t)), none, none] [] (zW cb w o) := by
  have hM := hZ.re zLC22_ok
  have hRm : zRoom Z k n := zRoom_of hR (by omega) (by omega)
  obtain ⟨a, cb1, w1, hrel, c1, c2⟩ := jj_ask h
  refine AWL.run hM hRm [932] 400 ?_
  show AW Z k n 932 [some (.ref 2000000), some (.ref 0), some (.ref 272), some (.ref 297), some (.int (nI t)), none, none] [.ref 0] (zW cb w o)
  refine AWL.callB (pc := 932) (idx := 124) hM hR hN (zRel.len h) (zRel.recv h) c1 zMX11_ask_ok rfl rfl rfl (Or.inl (zIn_mem (k := 1223) (by decide +kernel))) zVL_B_ask rfl (by decide) (by decide) (by omega) (by omega) rfl rfl ?_
  show AW Z k n 935 [some (.ref 2000000), some (.ref 0), some (.ref 272), some (.ref 297), some (.int (nI t)), none, none] [.int a] (zW cb1 w o)
  refine AWL.run hM hRm [936] 400 ?_
  show AW Z k n 936 [some (.ref 2000000), some (.ref 0), some (.ref 272), some (.ref 297), some (.int (nI t)), none, none] [.ref 272, .int a] (zW cb1 w o)
  refine AWL.callR (pc := 936) (idx := 127) hM hR hN (zRel.len hrel) c2 zMX12_ask_ok rfl rfl rfl (Or.inl (zIn_mem (k := 1955) (by decide +kernel))) zVL_R_ask rfl (by decide) (by decide) (by omega) (by omega) (fun _ => rfl) rfl rfl ?_
  show AW Z k n 939 [some (.ref 2000000), some (.ref 0), some (.ref 272), some (.ref 297), some (.int (nI t)), none, none] [.int a, .int a] (zW cb1 w1 o)
  refine AWL.run hM hRm [1188, 942] 400 ?_
  show ((a = a → AW Z k n 1188 [some (.ref 2000000), some (.ref 0), some (.ref 272), some (.ref 297), some (.int (nI t)), none, none] [] (zW cb1 w1 o)) ∧ (¬ (a = a) → AW Z k n 942 [some (.ref 2000000), some (.ref 0), some (.ref 272), some (.ref 297), some (.int (nI t)), none, none] [] (zW cb1 w1 o)))
  exact ⟨fun _ => AW.wide (by omega) (by omega) (kk _ _ _ hrel), fun hf => absurd rfl hf⟩
def zLC23 : List zIt := [(944, .aload_n 1, 1, .null, 0, 0, 0, []), (945, .aload_n 0, 1, .null, 0, 0, 0, []), (946, .iload 4, 2, .null, 0, 0, 0, []), (948, .iconst 1, 1, .int 1, 0, 0, 0, []), (949, .iadd, 1, .null, 0, 0, 0, []), (950, .iaload, 1, .null, 0, 0, 0, []), (951, .invokevirtual 128, 3, .null, 0, 0, 0, []), (954, .aload_n 2, 1, .null, 0, 0, 0, []), (955, .aload_n 0, 1, .null, 0, 0, 0, []), (956, .iload 4, 2, .null, 0, 0, 0, []), (958, .iconst 1, 1, .int 1, 0, 0, 0, []), (959, .iadd, 1, .null, 0, 0, 0, []), (960, .iaload, 1, .null, 0, 0, 0, []), (961, .invokevirtual 131, 3, .null, 0, 0, 0, []), (964, .if_icmp .eq 224, 3, .null, 1188, 0, 0, []), (967, .iconst 0, 1, .int 0, 0, 0, 0, []), (968, .ireturn, 1, .null, 0, 0, 0, [])]
set_option maxRecDepth 20000 in
theorem zLC23_ok : zMokL (zLM zLC23) := ⟨by decide +kernel, by decide +kernel, zCL_ok, rfl, trivial, by decide +kernel⟩
theorem zVL_B_law : zVirt ⟨"BorrowedLives", "law", "(I)I"⟩ 1 := ⟨⟨zIn_mem (k := 107) (by decide +kernel), by decide +kernel, by decide +kernel, by decide +kernel⟩, zIn_mem (k := 1237) (by decide +kernel), zIn_mem (k := 1238) (by decide +kernel)⟩
theorem zVL_R_law : zVirt ⟨"BorrowedLivesModel", "law", "(I)I"⟩ 1 := ⟨⟨zIn_mem (k := 119) (by decide +kernel), by decide +kernel, by decide +kernel, by decide +kernel⟩, zIn_mem (k := 1908) (by decide +kernel), zIn_mem (k := 1909) (by decide +kernel)⟩
set_option maxRecDepth 40000 in
set_option maxHeartbeats 8000000 in
theorem law_c23 {Z : zCtx} {L : Nat} {xs : Nat → Int32} (hZ : zOkL Z (zLM [])) (hR : zCan Z 1200 601024 7293033) (hN : zNew Z 0 298) (hT : zThrL Z) (hS : zScr Z L xs) {cb : List zE} {w : VR} {o : Nat → Int64} {k n t : Nat} (hk : k + 1 ≤ 601024) (hn : n + 6 ≤ 7293033) (ht : t + 7 ≤ L) (hL : L ≤ 3584) (h : zRel cb w) (kk : ∀ (cb1 : List zE) (w1 : VR) (o1 : Nat → Int64), zRel cb1 w1 → AW Z (k + 1) (n + 6) 1188 [some (.ref 2000000), some (.ref 0), some (.ref 272), some (.ref 297), some (.int (nI t)), none, none] [] (zW cb1 w1 o1)) : AW Z k n 944 [some (.ref 2000000), some (.ref 0), some (.ref 272), some (.ref 297), some (.int (nI t)), none, none] [] (zW cb w o) := by
  have hM := hZ.re zLC23_ok
  have hRm : zRoom Z k n := zRoom_of hR (by omega) (by omega)
  obtain ⟨a, cb1, w1, hrel, c1, c2⟩ := jj_law h (xs (t + 1))
  refine AWL.run hM hRm [950] 400 ?_
  show AW Z k n 950 [some (.ref 2000000), some (.ref 0), some (.ref 272), some (.ref 297), some (.int (nI t)), none, none] [.int (nI t + 1), .ref 2000000, .ref 0] (zW cb w o)
  refine AWL.sld (pc := 950) (t := t + 1) hM hS rfl rfl (nI_add t 1) (by omega) hL ?_
  show AW Z k n 951 [some (.ref 2000000), some (.ref 0), some (.ref 272), some (.ref 297), some (.int (nI t)), none, none] [.int (xs (t + 1)), .ref 0] (zW cb w o)
  refine AWL.callB (pc := 951) (idx := 128) hM hR hN (zRel.len h) (zRel.recv h) c1 zMX11_law_ok rfl rfl rfl (Or.inl (zIn_mem (k := 1236) (by decide +kernel))) zVL_B_law rfl (by decide) (by decide) (by omega) (by omega) rfl rfl ?_
  show AW Z k n 954 [some (.ref 2000000), some (.ref 0), some (.ref 272), some (.ref 297), some (.int (nI t)), none, none] [.int a] (zW cb1 w o)
  refine AWL.run hM hRm [960] 400 ?_
  show AW Z k n 960 [some (.ref 2000000), some (.ref 0), some (.ref 272), some (.ref 297), some (.int (nI t)), none, none] [.int (nI t + 1), .ref 2000000, .ref 272, .int a] (zW cb1 w o)
  refine AWL.sld (pc := 960) (t := t + 1) hM hS rfl rfl (nI_add t 1) (by omega) hL ?_
  show AW Z k n 961 [some (.ref 2000000), some (.ref 0), some (.ref 272), some (.ref 297), some (.int (nI t)), none, none] [.int (xs (t + 1)), .ref 272, .int a] (zW cb1 w o)
  refine AWL.callR (pc := 961) (idx := 131) hM hR hN (zRel.len hrel) c2 zMX12_law_ok rfl rfl rfl (Or.inl (zIn_mem (k := 1907) (by decide +kernel))) zVL_R_law rfl (by decide) (by decide) (by omega) (by omega) (fun _ => rfl) rfl rfl ?_
  show AW Z k n 964 [some (.ref 2000000), some (.ref 0), some (.ref 272), some (.ref 297), some (.int (nI t)), none, none] [.int a, .int a] (zW cb1 w1 o)
  refine AWL.run hM hRm [1188, 967] 400 ?_
  show ((a = a → AW Z k n 1188 [some (.ref 2000000), some (.ref 0), some (.ref 272), some (.ref 297), some (.int (nI t)), none, none] [] (zW cb1 w1 o)) ∧ (¬ (a = a) → AW Z k n 967 [some (.ref 2000000), some (.ref 0), some (.ref 272), some (.ref 297), some (.int (nI t)), none, none] [] (zW cb1 w1 o)))
  exact ⟨fun _ => AW.wide (by omega) (by omega) (kk _ _ _ hrel), fun hf => absurd rfl hf⟩
def zLC24 : List zIt := [(969, .aload_n 1, 1, .null, 0, 0, 0, []), (970, .aload_n 0, 1, .null, 0, 0, 0, []), (971, .iload 4, 2, .null, 0, 0, 0, []), (973, .iconst 1, 1, .int 1, 0, 0, 0, []), (974, .iadd, 1, .null, 0, 0, 0, []), (975, .iaload, 1, .null, 0, 0, 0, []), (976, .aload_n 0, 1, .null, 0, 0, 0, []), (977, .iload 4, 2, .null, 0, 0, 0, []), (979, .iconst 2, 1, .int 2, 0, 0, 0, []), (980, .iadd, 1, .null, 0, 0, 0, []), (981, .iaload, 1, .null, 0, 0, 0, []), (982, .aload_n 0, 1, .null, 0, 0, 0, []), (983, .iload 4, 2, .null, 0, 0, 0, []), (985, .iconst 3, 1, .int 3, 0, 0, 0, []), (986, .iadd, 1, .null, 0, 0, 0, []), (987, .iaload, 1, .null, 0, 0, 0, []), (988, .aload_n 0, 1, .null, 0, 0, 0, []), (989, .iload 4, 2, .null, 0, 0, 0, []), (991, .iconst 4, 1, .int 4, 0, 0, 0, []), (992, .iadd, 1, .null, 0, 0, 0, []), (993, .iaload, 1, .null, 0, 0, 0, []), (994, .aload_n 3, 1, .null, 0, 0, 0, []), (995, .invokestatic 132, 3, .null, 0, 0, 0, []), (998, .istore 5, 2, .null, 0, 0, 0, []), (1000, .aload_n 2, 1, .null, 0, 0, 0, []), (1001, .aload_n 0, 1, .null, 0, 0, 0, []), (1002, .iload 4, 2, .null, 0, 0, 0, []), (1004, .iconst 1, 1, .int 1, 0, 0, 0, []), (1005, .iadd, 1, .null, 0, 0, 0, []), (1006, .iaload, 1, .null, 0, 0, 0, []), (1007, .aload_n 0, 1, .null, 0, 0, 0, []), (1008, .iload 4, 2, .null, 0, 0, 0, []), (1010, .iconst 2, 1, .int 2, 0, 0, 0, []), (1011, .iadd, 1, .null, 0, 0, 0, []), (1012, .iaload, 1, .null, 0, 0, 0, []), (1013, .aload_n 0, 1, .null, 0, 0, 0, []), (1014, .iload 4, 2, .null, 0, 0, 0, []), (1016, .iconst 3, 1, .int 3, 0, 0, 0, []), (1017, .iadd, 1, .null, 0, 0, 0, []), (1018, .iaload, 1, .null, 0, 0, 0, []), (1019, .aload_n 0, 1, .null, 0, 0, 0, []), (1020, .iload 4, 2, .null, 0, 0, 0, []), (1022, .iconst 4, 1, .int 4, 0, 0, 0, []), (1023, .iadd, 1, .null, 0, 0, 0, []), (1024, .iaload, 1, .null, 0, 0, 0, []), (1025, .invokevirtual 134, 3, .null, 0, 0, 0, []), (1028, .istore 6, 2, .null, 0, 0, 0, []), (1030, .aload_n 2, 1, .null, 0, 0, 0, []), (1031, .invokevirtual 104, 3, .null, 0, 0, 0, []), (1034, .iload 5, 2, .null, 0, 0, 0, []), (1036, .if_icmp .eq 5, 3, .null, 1041, 0, 0, []), (1039, .iconst 0, 1, .int 0, 0, 0, 0, []), (1040, .ireturn, 1, .null, 0, 0, 0, []), (1041, .iload 5, 2, .null, 0, 0, 0, []), (1043, .ifCond .ne 15, 3, .null, 1058, 0, 0, []), (1046, .aload_n 3, 1, .null, 0, 0, 0, []), (1047, .iconst 0, 1, .int 0, 0, 0, 0, []), (1048, .laload, 1, .null, 0, 0, 0, []), (1049, .iload 6, 2, .null, 0, 0, 0, []), (1051, .i2l, 1, .null, 0, 0, 0, []), (1052, .lcmp, 1, .null, 0, 0, 0, []), (1053, .ifCond .eq 5, 3, .null, 1058, 0, 0, []), (1056, .iconst 0, 1, .int 0, 0, 0, 0, []), (1057, .ireturn, 1, .null, 0, 0, 0, []), (1058, .goto 130, 3, .null, 1188, 0, 0, [])]
set_option maxRecDepth 20000 in
theorem zLC24_ok : zMokL (zLM zLC24) := ⟨by decide +kernel, by decide +kernel, zCL_ok, rfl, trivial, by decide +kernel⟩
theorem zVL_R_rests : zVirt ⟨"BorrowedLivesModel", "rests", "(IIII)I"⟩ 4 := ⟨⟨zIn_mem (k := 119) (by decide +kernel), by decide +kernel, by decide +kernel, by decide +kernel⟩, zIn_mem (k := 1968) (by decide +kernel), zIn_mem (k := 1969) (by decide +kernel)⟩
set_option maxRecDepth 40000 in
set_option maxHeartbeats 8000000 in
theorem law_c24 {Z : zCtx} {L : Nat} {xs : Nat → Int32} (hZ : zOkL Z (zLM [])) (hR : zCan Z 1200 601024 7293033) (hN : zNew Z 0 298) (hT : zThrL Z) (hS : zScr Z L xs) {cb : List zE} {w : VR} {o : Nat → Int64} {k n t : Nat} (hk : k + 1 ≤ 601024) (hn : n + 6 ≤ 7293033) (ht : t + 7 ≤ L) (hL : L ≤ 3584) (h : zRel cb w) (kk : ∀ (cb1 : List zE) (w1 : VR) (o1 : Nat → Int64), zRel cb1 w1 → AW Z (k + 1) (n + 6) 1188 [some (.ref 2000000), some (.ref 0), some (.ref 272), some (.ref 297), some (.int (nI t)), none, none] [] (zW cb1 w1 o1)) : AW Z k n 969 [some (.ref 2000000), some (.ref 0), some (.ref 272), some (.ref 297), some (.int (nI t)), none, none] [] (zW cb w o) := by
  have hM := hZ.re zLC24_ok
  have hRm : zRoom Z k n := zRoom_of hR (by omega) (by omega)
  obtain ⟨w1, b, c2, hc⟩ := jj_rests h (xs (t + 1)) (xs (t + 2)) (xs (t + 3)) (xs (t + 4))
  refine AWL.run hM hRm [975] 400 ?_
  show AW Z k n 975 [some (.ref 2000000), some (.ref 0), some (.ref 272), some (.ref 297), some (.int (nI t)), none, none] [.int (nI t + 1), .ref 2000000, .ref 0] (zW cb w o)
  refine AWL.sld (pc := 975) (t := t + 1) hM hS rfl rfl (nI_add t 1) (by omega) hL ?_
  show AW Z k n 976 [some (.ref 2000000), some (.ref 0), some (.ref 272), some (.ref 297), some (.int (nI t)), none, none] [.int (xs (t + 1)), .ref 0] (zW cb w o)
  refine AWL.run hM hRm [981] 400 ?_
  show AW Z k n 981 [some (.ref 2000000), some (.ref 0), some (.ref 272), some (.ref 297), some (.int (nI t)), none, none] [.int (nI t + 2), .ref 2000000, .int (xs (t + 1)), .ref 0] (zW cb w o)
  refine AWL.sld (pc := 981) (t := t + 2) hM hS rfl rfl (nI_add t 2) (by omega) hL ?_
  show AW Z k n 982 [some (.ref 2000000), some (.ref 0), some (.ref 272), some (.ref 297), some (.int (nI t)), none, none] [.int (xs (t + 2)), .int (xs (t + 1)), .ref 0] (zW cb w o)
  refine AWL.run hM hRm [987] 400 ?_
  show AW Z k n 987 [some (.ref 2000000), some (.ref 0), some (.ref 272), some (.ref 297), some (.int (nI t)), none, none] [.int (nI t + 3), .ref 2000000, .int (xs (t + 2)), .int (xs (t + 1)), .ref 0] (zW cb w o)
  refine AWL.sld (pc := 987) (t := t + 3) hM hS rfl rfl (nI_add t 3) (by omega) hL ?_
  show AW Z k n 988 [some (.ref 2000000), some (.ref 0), some (.ref 272), some (.ref 297), some (.int (nI t)), none, none] [.int (xs (t + 3)), .int (xs (t + 2)), .int (xs (t + 1)), .ref 0] (zW cb w o)
  refine AWL.run hM hRm [993] 400 ?_
  show AW Z k n 993 [some (.ref 2000000), some (.ref 0), some (.ref 272), some (.ref 297), some (.int (nI t)), none, none] [.int (nI t + 4), .ref 2000000, .int (xs (t + 3)), .int (xs (t + 2)), .int (xs (t + 1)), .ref 0] (zW cb w o)
  refine AWL.sld (pc := 993) (t := t + 4) hM hS rfl rfl (nI_add t 4) (by omega) hL ?_
  show AW Z k n 994 [some (.ref 2000000), some (.ref 0), some (.ref 272), some (.ref 297), some (.int (nI t)), none, none] [.int (xs (t + 4)), .int (xs (t + 3)), .int (xs (t + 2)), .int (xs (t + 1)), .ref 0] (zW cb w o)
  refine AWL.run hM hRm [995] 400 ?_
  show AW Z k n 995 [some (.ref 2000000), some (.ref 0), some (.ref 272), some (.ref 297), some (.int (nI t)), none, none] [.ref 297, .int (xs (t + 4)), .int (xs (t + 3)), .int (xs (t + 2)), .int (xs (t + 1)), .ref 0] (zW cb w o)
  have hRm1 : zRoom Z (k + 1) (n + 6) := zRoom_of hR hk hn
  have hlen := zRel.len h
  have hzl : (zW cb w o).length ≤ 1000000 := by
    have e : (zW cb w o).length = cb.length + 26 := by simp [zW, kR]
    omega
  rcases hc with ⟨cb1, hrel, hth, hX⟩ | ⟨hrel, hth, hX⟩
  · refine AWL.callW (pc := 995) (idx := 132) (M' := zML_rests) (np := 6) hM hR hT (c_Law_rests (xs (t + 1)) (xs (t + 2)) (xs (t + 3)) (xs (t + 4)) hlen (zRel.recv h) hX (fun v cc hv => ⟨_, hv.1⟩) (fun cc hx => hx.elim)) (zIn_mem (k := 1383) (by decide +kernel)) rfl rfl (zIn_mem (k := 1381) (by decide +kernel)) ⟨⟨zIn_mem (k := 106) (by decide +kernel), by decide +kernel, by decide +kernel, by decide +kernel⟩, zIn_mem (k := 1382) (by decide +kernel)⟩ rfl hzl (by decide) (by decide) hk hn rfl rfl (fun v cc1 hv => ?_)
    rcases hv with ⟨b9, cb9, ⟨hb9, hcb9⟩, hl9, rfl, rfl⟩ | ⟨hf, -⟩
    rotate_left
    · exact hf.elim
    have e9 := hcb9.symm
    subst e9
    cases hb9
    show AW Z (k + 1) (n + 6) 998 [some (.ref 2000000), some (.ref 0), some (.ref 272), some (.ref 297), some (.int (nI t)), none, none] [.int 0] (zW cb1 w (vp_updL o 0 b.toInt64))
    refine AWL.run hM hRm1 [1000] 400 ?_
    show AW Z (k + 1) (n + 6) 1000 [some (.ref 2000000), some (.ref 0), some (.ref 272), some (.ref 297), some (.int (nI t)), some (.int 0), none] [] (zW cb1 w (vp_updL o 0 b.toInt64))
    refine AWL.run hM hRm1 [1006] 400 ?_
    show AW Z (k + 1) (n + 6) 1006 [some (.ref 2000000), some (.ref 0), some (.ref 272), some (.ref 297), some (.int (nI t)), some (.int 0), none] [.int (nI t + 1), .ref 2000000, .ref 272] (zW cb1 w (vp_updL o 0 b.toInt64))
    refine AWL.sld (pc := 1006) (t := t + 1) hM hS rfl rfl (nI_add t 1) (by omega) hL ?_
    show AW Z (k + 1) (n + 6) 1007 [some (.ref 2000000), some (.ref 0), some (.ref 272), some (.ref 297), some (.int (nI t)), some (.int 0), none] [.int (xs (t + 1)), .ref 272] (zW cb1 w (vp_updL o 0 b.toInt64))
    refine AWL.run hM hRm1 [1012] 400 ?_
    show AW Z (k + 1) (n + 6) 1012 [some (.ref 2000000), some (.ref 0), some (.ref 272), some (.ref 297), some (.int (nI t)), some (.int 0), none] [.int (nI t + 2), .ref 2000000, .int (xs (t + 1)), .ref 272] (zW cb1 w (vp_updL o 0 b.toInt64))
    refine AWL.sld (pc := 1012) (t := t + 2) hM hS rfl rfl (nI_add t 2) (by omega) hL ?_
    show AW Z (k + 1) (n + 6) 1013 [some (.ref 2000000), some (.ref 0), some (.ref 272), some (.ref 297), some (.int (nI t)), some (.int 0), none] [.int (xs (t + 2)), .int (xs (t + 1)), .ref 272] (zW cb1 w (vp_updL o 0 b.toInt64))
    refine AWL.run hM hRm1 [1018] 400 ?_
    show AW Z (k + 1) (n + 6) 1018 [some (.ref 2000000), some (.ref 0), some (.ref 272), some (.ref 297), some (.int (nI t)), some (.int 0), none] [.int (nI t + 3), .ref 2000000, .int (xs (t + 2)), .int (xs (t + 1)), .ref 272] (zW cb1 w (vp_updL o 0 b.toInt64))
    refine AWL.sld (pc := 1018) (t := t + 3) hM hS rfl rfl (nI_add t 3) (by omega) hL ?_
    show AW Z (k + 1) (n + 6) 1019 [some (.ref 2000000), some (.ref 0), some (.ref 272), some (.ref 297), some (.int (nI t)), some (.int 0), none] [.int (xs (t + 3)), .int (xs (t + 2)), .int (xs (t + 1)), .ref 272] (zW cb1 w (vp_updL o 0 b.toInt64))
    refine AWL.run hM hRm1 [1024] 400 ?_
    show AW Z (k + 1) (n + 6) 1024 [some (.ref 2000000), some (.ref 0), some (.ref 272), some (.ref 297), some (.int (nI t)), some (.int 0), none] [.int (nI t + 4), .ref 2000000, .int (xs (t + 3)), .int (xs (t + 2)), .int (xs (t + 1)), .ref 272] (zW cb1 w (vp_updL o 0 b.toInt64))
    refine AWL.sld (pc := 1024) (t := t + 4) hM hS rfl rfl (nI_add t 4) (by omega) hL ?_
    show AW Z (k + 1) (n + 6) 1025 [some (.ref 2000000), some (.ref 0), some (.ref 272), some (.ref 297), some (.int (nI t)), some (.int 0), none] [.int (xs (t + 4)), .int (xs (t + 3)), .int (xs (t + 2)), .int (xs (t + 1)), .ref 272] (zW cb1 w (vp_updL o 0 b.toInt64))
    refine AWL.callR (pc := 1025) (idx := 134) hM hR hN (zRel.len hrel) c2 zMX12_rests_ok rfl rfl rfl (Or.inl (zIn_mem (k := 1967) (by decide +kernel))) zVL_R_rests rfl (by decide) (by decide) (by omega) (by omega) (fun _ => rfl) rfl rfl ?_
    show AW Z (k + 1) (n + 6) 1028 [some (.ref 2000000), some (.ref 0), some (.ref 272), some (.ref 297), some (.int (nI t)), some (.int 0), none] [.int b] (zW cb1 w1 (vp_updL o 0 b.toInt64))
    refine AWL.run hM hRm1 [1031] 400 ?_
    show AW Z (k + 1) (n + 6) 1031 [some (.ref 2000000), some (.ref 0), some (.ref 272), some (.ref 297), some (.int (nI t)), some (.int 0), some (.int b)] [.ref 272] (zW cb1 w1 (vp_updL o 0 b.toInt64))
    have c3 : Ct zMX12_thrown 1 0 0 0 [.ref 0] ([kR 0 w1] : List (List zE)).flatten (fun v cc => v = some (.int 0) ∧ cc = ([kR 0 w1] : List (List zE)).flatten) := by rw [← hth]; exact c_R_thrown 10000 w1 (R_thrown w1) rfl
    refine AWL.callR (pc := 1031) (idx := 104) hM hR hN (zRel.len hrel) c3 zMX12_thrown_ok rfl rfl rfl (Or.inl (zIn_mem (k := 1396) (by decide +kernel))) zVL_R_thrown rfl (by decide) (by decide) (by omega) (by omega) (fun _ => rfl) rfl rfl ?_
    show AW Z (k + 1) (n + 6) 1034 [some (.ref 2000000), some (.ref 0), some (.ref 272), some (.ref 297), some (.int (nI t)), some (.int 0), some (.int b)] [.int 0] (zW cb1 w1 (vp_updL o 0 b.toInt64))
    refine AWL.run hM hRm1 [1041, 1039] 400 ?_
    show (((0 : Int32) = 0 → AW Z (k + 1) (n + 6) 1041 [some (.ref 2000000), some (.ref 0), some (.ref 272), some (.ref 297), some (.int (nI t)), some (.int 0), some (.int b)] [] (zW cb1 w1 (vp_updL o 0 b.toInt64))) ∧ (¬ ((0 : Int32) = 0) → AW Z (k + 1) (n + 6) 1039 [some (.ref 2000000), some (.ref 0), some (.ref 272), some (.ref 297), some (.int (nI t)), some (.int 0), some (.int b)] [] (zW cb1 w1 (vp_updL o 0 b.toInt64))))
    refine ⟨fun _ => ?_, fun hf => absurd rfl hf⟩
    refine AWL.run hM hRm1 [1058, 1048] 400 ?_
    show ((¬ ((0 : Int32) = 0) → AW Z (k + 1) (n + 6) 1058 [some (.ref 2000000), some (.ref 0), some (.ref 272), some (.ref 297), some (.int (nI t)), some (.int 0), some (.int b)] [] (zW cb1 w1 (vp_updL o 0 b.toInt64))) ∧ ((0 : Int32) = 0 → AW Z (k + 1) (n + 6) 1048 [some (.ref 2000000), some (.ref 0), some (.ref 272), some (.ref 297), some (.int (nI t)), some (.int 0), some (.int b)] [.int 0, .ref 297] (zW cb1 w1 (vp_updL o 0 b.toInt64))))
    refine ⟨fun hf => absurd rfl hf, fun _ => ?_⟩
    refine AWL.lld (pc := 1048) hM rfl rfl (show (zW cb1 w1 (vp_updL o 0 b.toInt64))[297]? = some (.inl (1, 1, .inr (.inl (vp_updL o 0 b.toInt64)))) from by unfold zW; rw [List.getElem?_append_right (by rw [zRel.len hrel]; decide), zRel.len hrel]; rfl) (show ¬ ((0 : Int32) < 0 ∨ 1 ≤ Int32.toNatClampNeg 0) from by decide) hRm1 ?_
    show AW Z (k + 1) (n + 6) 1049 [some (.ref 2000000), some (.ref 0), some (.ref 272), some (.ref 297), some (.int (nI t)), some (.int 0), some (.int b)] [.long b.toInt64] (zW cb1 w1 (vp_updL o 0 b.toInt64))
    refine AWL.run hM hRm1 [1058, 1056] 400 ?_
    show ((lg_cmp b.toInt64 b.toInt64 = 0 → AW Z (k + 1) (n + 6) 1058 [some (.ref 2000000), some (.ref 0), some (.ref 272), some (.ref 297), some (.int (nI t)), some (.int 0), some (.int b)] [] (zW cb1 w1 (vp_updL o 0 b.toInt64))) ∧ (¬ (lg_cmp b.toInt64 b.toInt64 = 0) → AW Z (k + 1) (n + 6) 1056 [some (.ref 2000000), some (.ref 0), some (.ref 272), some (.ref 297), some (.int (nI t)), some (.int 0), some (.int b)] [] (zW cb1 w1 (vp_updL o 0 b.toInt64))))
    refine ⟨fun _ => ?_, fun hf => absurd (zcmp_self _) hf⟩
    refine AWL.run hM hRm1 [1188] 400 ?_
    show AW Z (k + 1) (n + 6) 1188 [some (.ref 2000000), some (.ref 0), some (.ref 272), some (.ref 297), some (.int (nI t)), some (.int 0), some (.int b)] [] (zW cb1 w1 (vp_updL o 0 b.toInt64))
    refine AW.forget [true, true, true, true, true, false, false] ?_
    show AW Z (k + 1) (n + 6) 1188 [some (.ref 2000000), some (.ref 0), some (.ref 272), some (.ref 297), some (.int (nI t)), none, none] [] (zW cb1 w1 (vp_updL o 0 b.toInt64))
    exact kk _ _ _ hrel
  · refine AWL.callW (pc := 995) (idx := 132) (M' := zML_rests) (np := 6) hM hR hT (c_Law_rests (xs (t + 1)) (xs (t + 2)) (xs (t + 3)) (xs (t + 4)) hlen (zRel.recv h) hX (fun v cc hv => hv.elim) (fun cc hx => hx)) (zIn_mem (k := 1383) (by decide +kernel)) rfl rfl (zIn_mem (k := 1381) (by decide +kernel)) ⟨⟨zIn_mem (k := 106) (by decide +kernel), by decide +kernel, by decide +kernel, by decide +kernel⟩, zIn_mem (k := 1382) (by decide +kernel)⟩ rfl hzl (by decide) (by decide) hk hn rfl rfl (fun v cc1 hv => ?_)
    rcases hv with ⟨b9, cb9, hf, -⟩ | ⟨-, rfl, rfl⟩
    · exact hf.elim
    show AW Z (k + 1) (n + 6) 998 [some (.ref 2000000), some (.ref 0), some (.ref 272), some (.ref 297), some (.int (nI t)), none, none] [.int 1] (zW cb w o)
    refine AWL.run hM hRm1 [1000] 400 ?_
    show AW Z (k + 1) (n + 6) 1000 [some (.ref 2000000), some (.ref 0), some (.ref 272), some (.ref 297), some (.int (nI t)), some (.int 1), none] [] (zW cb w o)
    refine AWL.run hM hRm1 [1006] 400 ?_
    show AW Z (k + 1) (n + 6) 1006 [some (.ref 2000000), some (.ref 0), some (.ref 272), some (.ref 297), some (.int (nI t)), some (.int 1), none] [.int (nI t + 1), .ref 2000000, .ref 272] (zW cb w o)
    refine AWL.sld (pc := 1006) (t := t + 1) hM hS rfl rfl (nI_add t 1) (by omega) hL ?_
    show AW Z (k + 1) (n + 6) 1007 [some (.ref 2000000), some (.ref 0), some (.ref 272), some (.ref 297), some (.int (nI t)), some (.int 1), none] [.int (xs (t + 1)), .ref 272] (zW cb w o)
    refine AWL.run hM hRm1 [1012] 400 ?_
    show AW Z (k + 1) (n + 6) 1012 [some (.ref 2000000), some (.ref 0), some (.ref 272), some (.ref 297), some (.int (nI t)), some (.int 1), none] [.int (nI t + 2), .ref 2000000, .int (xs (t + 1)), .ref 272] (zW cb w o)
    refine AWL.sld (pc := 1012) (t := t + 2) hM hS rfl rfl (nI_add t 2) (by omega) hL ?_
    show AW Z (k + 1) (n + 6) 1013 [some (.ref 2000000), some (.ref 0), some (.ref 272), some (.ref 297), some (.int (nI t)), some (.int 1), none] [.int (xs (t + 2)), .int (xs (t + 1)), .ref 272] (zW cb w o)
    refine AWL.run hM hRm1 [1018] 400 ?_
    show AW Z (k + 1) (n + 6) 1018 [some (.ref 2000000), some (.ref 0), some (.ref 272), some (.ref 297), some (.int (nI t)), some (.int 1), none] [.int (nI t + 3), .ref 2000000, .int (xs (t + 2)), .int (xs (t + 1)), .ref 272] (zW cb w o)
    refine AWL.sld (pc := 1018) (t := t + 3) hM hS rfl rfl (nI_add t 3) (by omega) hL ?_
    show AW Z (k + 1) (n + 6) 1019 [some (.ref 2000000), some (.ref 0), some (.ref 272), some (.ref 297), some (.int (nI t)), some (.int 1), none] [.int (xs (t + 3)), .int (xs (t + 2)), .int (xs (t + 1)), .ref 272] (zW cb w o)
    refine AWL.run hM hRm1 [1024] 400 ?_
    show AW Z (k + 1) (n + 6) 1024 [some (.ref 2000000), some (.ref 0), some (.ref 272), some (.ref 297), some (.int (nI t)), some (.int 1), none] [.int (nI t + 4), .ref 2000000, .int (xs (t + 3)), .int (xs (t + 2)), .int (xs (t + 1)), .ref 272] (zW cb w o)
    refine AWL.sld (pc := 1024) (t := t + 4) hM hS rfl rfl (nI_add t 4) (by omega) hL ?_
    show AW Z (k + 1) (n + 6) 1025 [some (.ref 2000000), some (.ref 0), some (.ref 272), some (.ref 297), some (.int (nI t)), some (.int 1), none] [.int (xs (t + 4)), .int (xs (t + 3)), .int (xs (t + 2)), .int (xs (t + 1)), .ref 272] (zW cb w o)
    refine AWL.callR (pc := 1025) (idx := 134) hM hR hN hlen c2 zMX12_rests_ok rfl rfl rfl (Or.inl (zIn_mem (k := 1967) (by decide +kernel))) zVL_R_rests rfl (by decide) (by decide) (by omega) (by omega) (fun _ => rfl) rfl rfl ?_
    show AW Z (k + 1) (n + 6) 1028 [some (.ref 2000000), some (.ref 0), some (.ref 272), some (.ref 297), some (.int (nI t)), some (.int 1), none] [.int b] (zW cb w1 o)
    refine AWL.run hM hRm1 [1031] 400 ?_
    show AW Z (k + 1) (n + 6) 1031 [some (.ref 2000000), some (.ref 0), some (.ref 272), some (.ref 297), some (.int (nI t)), some (.int 1), some (.int b)] [.ref 272] (zW cb w1 o)
    have c3 : Ct zMX12_thrown 1 0 0 0 [.ref 0] ([kR 0 w1] : List (List zE)).flatten (fun v cc => v = some (.int 1) ∧ cc = ([kR 0 w1] : List (List zE)).flatten) := by rw [← hth]; exact c_R_thrown 10000 w1 (R_thrown w1) rfl
    refine AWL.callR (pc := 1031) (idx := 104) hM hR hN hlen c3 zMX12_thrown_ok rfl rfl rfl (Or.inl (zIn_mem (k := 1396) (by decide +kernel))) zVL_R_thrown rfl (by decide) (by decide) (by omega) (by omega) (fun _ => rfl) rfl rfl ?_
    show AW Z (k + 1) (n + 6) 1034 [some (.ref 2000000), some (.ref 0), some (.ref 272), some (.ref 297), some (.int (nI t)), some (.int 1), some (.int b)] [.int 1] (zW cb w1 o)
    refine AWL.run hM hRm1 [1041, 1039] 400 ?_
    show (((1 : Int32) = 1 → AW Z (k + 1) (n + 6) 1041 [some (.ref 2000000), some (.ref 0), some (.ref 272), some (.ref 297), some (.int (nI t)), some (.int 1), some (.int b)] [] (zW cb w1 o)) ∧ (¬ ((1 : Int32) = 1) → AW Z (k + 1) (n + 6) 1039 [some (.ref 2000000), some (.ref 0), some (.ref 272), some (.ref 297), some (.int (nI t)), some (.int 1), some (.int b)] [] (zW cb w1 o)))
    refine ⟨fun _ => ?_, fun hf => absurd rfl hf⟩
    refine AWL.run hM hRm1 [1058, 1048] 400 ?_
    show ((¬ ((1 : Int32) = 0) → AW Z (k + 1) (n + 6) 1058 [some (.ref 2000000), some (.ref 0), some (.ref 272), some (.ref 297), some (.int (nI t)), some (.int 1), some (.int b)] [] (zW cb w1 o)) ∧ ((1 : Int32) = 0 → AW Z (k + 1) (n + 6) 1048 [some (.ref 2000000), some (.ref 0), some (.ref 272), some (.ref 297), some (.int (nI t)), some (.int 1), some (.int b)] [.int 0, .ref 297] (zW cb w1 o)))
    refine ⟨fun _ => ?_, fun hf => absurd hf (by decide)⟩
    refine AWL.run hM hRm1 [1188] 400 ?_
    show AW Z (k + 1) (n + 6) 1188 [some (.ref 2000000), some (.ref 0), some (.ref 272), some (.ref 297), some (.int (nI t)), some (.int 1), some (.int b)] [] (zW cb w1 o)
    refine AW.forget [true, true, true, true, true, false, false] ?_
    show AW Z (k + 1) (n + 6) 1188 [some (.ref 2000000), some (.ref 0), some (.ref 272), some (.ref 297), some (.int (nI t)), none, none] [] (zW cb w1 o)
    exact kk _ _ _ hrel
def zLC25 : List zIt := [(1061, .aload_n 1, 1, .null, 0, 0, 0, []), (1062, .aload_n 0, 1, .null, 0, 0, 0, []), (1063, .iload 4, 2, .null, 0, 0, 0, []), (1065, .iconst 1, 1, .int 1, 0, 0, 0, []), (1066, .iadd, 1, .null, 0, 0, 0, []), (1067, .iaload, 1, .null, 0, 0, 0, []), (1068, .aload_n 0, 1, .null, 0, 0, 0, []), (1069, .iload 4, 2, .null, 0, 0, 0, []), (1071, .iconst 2, 1, .int 2, 0, 0, 0, []), (1072, .iadd, 1, .null, 0, 0, 0, []), (1073, .iaload, 1, .null, 0, 0, 0, []), (1074, .aload_n 0, 1, .null, 0, 0, 0, []), (1075, .iload 4, 2, .null, 0, 0, 0, []), (1077, .iconst 3, 1, .int 3, 0, 0, 0, []), (1078, .iadd, 1, .null, 0, 0, 0, []), (1079, .iaload, 1, .null, 0, 0, 0, []), (1080, .invokevirtual 135, 3, .null, 0, 0, 0, []), (1083, .aload_n 2, 1, .null, 0, 0, 0, []), (1084, .aload_n 0, 1, .null, 0, 0, 0, []), (1085, .iload 4, 2, .null, 0, 0, 0, []), (1087, .iconst 1, 1, .int 1, 0, 0, 0, []), (1088, .iadd, 1, .null, 0, 0, 0, []), (1089, .iaload, 1, .null, 0, 0, 0, []), (1090, .aload_n 0, 1, .null, 0, 0, 0, []), (1091, .iload 4, 2, .null, 0, 0, 0, []), (1093, .iconst 2, 1, .int 2, 0, 0, 0, []), (1094, .iadd, 1, .null, 0, 0, 0, []), (1095, .iaload, 1, .null, 0, 0, 0, []), (1096, .aload_n 0, 1, .null, 0, 0, 0, []), (1097, .iload 4, 2, .null, 0, 0, 0, []), (1099, .iconst 3, 1, .int 3, 0, 0, 0, []), (1100, .iadd, 1, .null, 0, 0, 0, []), (1101, .iaload, 1, .null, 0, 0, 0, []), (1102, .invokevirtual 139, 3, .null, 0, 0, 0, []), (1105, .if_icmp .eq 83, 3, .null, 1188, 0, 0, []), (1108, .iconst 0, 1, .int 0, 0, 0, 0, []), (1109, .ireturn, 1, .null, 0, 0, 0, [])]
set_option maxRecDepth 20000 in
theorem zLC25_ok : zMokL (zLM zLC25) := ⟨by decide +kernel, by decide +kernel, zCL_ok, rfl, trivial, by decide +kernel⟩
theorem zVL_B_years : zVirt ⟨"BorrowedLives", "years", "(III)I"⟩ 3 := ⟨⟨zIn_mem (k := 107) (by decide +kernel), by decide +kernel, by decide +kernel, by decide +kernel⟩, zIn_mem (k := 1245) (by decide +kernel), zIn_mem (k := 1246) (by decide +kernel)⟩
theorem zVL_R_years : zVirt ⟨"BorrowedLivesModel", "years", "(III)I"⟩ 3 := ⟨⟨zIn_mem (k := 119) (by decide +kernel), by decide +kernel, by decide +kernel, by decide +kernel⟩, zIn_mem (k := 1975) (by decide +kernel), zIn_mem (k := 1976) (by decide +kernel)⟩
set_option maxRecDepth 40000 in
set_option maxHeartbeats 8000000 in
theorem law_c25 {Z : zCtx} {L : Nat} {xs : Nat → Int32} (hZ : zOkL Z (zLM [])) (hR : zCan Z 1200 601024 7293033) (hN : zNew Z 0 298) (hT : zThrL Z) (hS : zScr Z L xs) {cb : List zE} {w : VR} {o : Nat → Int64} {k n t : Nat} (hk : k + 1 ≤ 601024) (hn : n + 6 ≤ 7293033) (ht : t + 7 ≤ L) (hL : L ≤ 3584) (h : zRel cb w) (kk : ∀ (cb1 : List zE) (w1 : VR) (o1 : Nat → Int64), zRel cb1 w1 → AW Z (k + 1) (n + 6) 1188 [some (.ref 2000000), some (.ref 0), some (.ref 272), some (.ref 297), some (.int (nI t)), none, none] [] (zW cb1 w1 o1)) : AW Z k n 1061 [some (.ref 2000000), some (.ref 0), some (.ref 272), some (.ref 297), some (.int (nI t)), none, none] [] (zW cb w o) := by
  have hM := hZ.re zLC25_ok
  have hRm : zRoom Z k n := zRoom_of hR (by omega) (by omega)
  obtain ⟨a, cb1, w1, hrel, c1, c2⟩ := jj_years h (xs (t + 1)) (xs (t + 2)) (xs (t + 3))
  refine AWL.run hM hRm [1067] 400 ?_
  show AW Z k n 1067 [some (.ref 2000000), some (.ref 0), some (.ref 272), some (.ref 297), some (.int (nI t)), none, none] [.int (nI t + 1), .ref 2000000, .ref 0] (zW cb w o)
  refine AWL.sld (pc := 1067) (t := t + 1) hM hS rfl rfl (nI_add t 1) (by omega) hL ?_
  show AW Z k n 1068 [some (.ref 2000000), some (.ref 0), some (.ref 272), some (.ref 297), some (.int (nI t)), none, none] [.int (xs (t + 1)), .ref 0] (zW cb w o)
  refine AWL.run hM hRm [1073] 400 ?_
  show AW Z k n 1073 [some (.ref 2000000), some (.ref 0), some (.ref 272), some (.ref 297), some (.int (nI t)), none, none] [.int (nI t + 2), .ref 2000000, .int (xs (t + 1)), .ref 0] (zW cb w o)
  refine AWL.sld (pc := 1073) (t := t + 2) hM hS rfl rfl (nI_add t 2) (by omega) hL ?_
  show AW Z k n 1074 [some (.ref 2000000), some (.ref 0), some (.ref 272), some (.ref 297), some (.int (nI t)), none, none] [.int (xs (t + 2)), .int (xs (t + 1)), .ref 0] (zW cb w o)
  refine AWL.run hM hRm [1079] 400 ?_
  show AW Z k n 1079 [some (.ref 2000000), some (.ref 0), some (.ref 272), some (.ref 297), some (.int (nI t)), none, none] [.int (nI t + 3), .ref 2000000, .int (xs (t + 2)), .int (xs (t + 1)), .ref 0] (zW cb w o)
  refine AWL.sld (pc := 1079) (t := t + 3) hM hS rfl rfl (nI_add t 3) (by omega) hL ?_
  show AW Z k n 1080 [some (.ref 2000000), some (.ref 0), some (.ref 272), some (.ref 297), some (.int (nI t)), none, none] [.int (xs (t + 3)), .int (xs (t + 2)), .int (xs (t + 1)), .ref 0] (zW cb w o)
  refine AWL.callB (pc := 1080) (idx := 135) hM hR hN (zRel.len h) (zRel.recv h) c1 zMX11_years_ok rfl rfl rfl (Or.inl (zIn_mem (k := 1244) (by decide +kernel))) zVL_B_years rfl (by decide) (by decide) (by omega) (by omega) rfl rfl ?_
  show AW Z k n 1083 [some (.ref 2000000), some (.ref 0), some (.ref 272), some (.ref 297), some (.int (nI t)), none, none] [.int a] (zW cb1 w o)
  refine AWL.run hM hRm [1089] 400 ?_
  show AW Z k n 1089 [some (.ref 2000000), some (.ref 0), some (.ref 272), some (.ref 297), some (.int (nI t)), none, none] [.int (nI t + 1), .ref 2000000, .ref 272, .int a] (zW cb1 w o)
  refine AWL.sld (pc := 1089) (t := t + 1) hM hS rfl rfl (nI_add t 1) (by omega) hL ?_
  show AW Z k n 1090 [some (.ref 2000000), some (.ref 0), some (.ref 272), some (.ref 297), some (.int (nI t)), none, none] [.int (xs (t + 1)), .ref 272, .int a] (zW cb1 w o)
  refine AWL.run hM hRm [1095] 400 ?_
  show AW Z k n 1095 [some (.ref 2000000), some (.ref 0), some (.ref 272), some (.ref 297), some (.int (nI t)), none, none] [.int (nI t + 2), .ref 2000000, .int (xs (t + 1)), .ref 272, .int a] (zW cb1 w o)
  refine AWL.sld (pc := 1095) (t := t + 2) hM hS rfl rfl (nI_add t 2) (by omega) hL ?_
  show AW Z k n 1096 [some (.ref 2000000), some (.ref 0), some (.ref 272), some (.ref 297), some (.int (nI t)), none, none] [.int (xs (t + 2)), .int (xs (t + 1)), .ref 272, .int a] (zW cb1 w o)
  refine AWL.run hM hRm [1101] 400 ?_
  show AW Z k n 1101 [some (.ref 2000000), some (.ref 0), some (.ref 272), some (.ref 297), some (.int (nI t)), none, none] [.int (nI t + 3), .ref 2000000, .int (xs (t + 2)), .int (xs (t + 1)), .ref 272, .int a] (zW cb1 w o)
  refine AWL.sld (pc := 1101) (t := t + 3) hM hS rfl rfl (nI_add t 3) (by omega) hL ?_
  show AW Z k n 1102 [some (.ref 2000000), some (.ref 0), some (.ref 272), some (.ref 297), some (.int (nI t)), none, none] [.int (xs (t + 3)), .int (xs (t + 2)), .int (xs (t + 1)), .ref 272, .int a] (zW cb1 w o)
  refine AWL.callR (pc := 1102) (idx := 139) hM hR hN (zRel.len hrel) c2 zMX12_years_ok rfl rfl rfl (Or.inl (zIn_mem (k := 1974) (by decide +kernel))) zVL_R_years rfl (by decide) (by decide) (by omega) (by omega) (fun _ => rfl) rfl rfl ?_
  show AW Z k n 1105 [some (.ref 2000000), some (.ref 0), some (.ref 272), some (.ref 297), some (.int (nI t)), none, none] [.int a, .int a] (zW cb1 w1 o)
  refine AWL.run hM hRm [1188, 1108] 400 ?_
  show ((a = a → AW Z k n 1188 [some (.ref 2000000), some (.ref 0), some (.ref 272), some (.ref 297), some (.int (nI t)), none, none] [] (zW cb1 w1 o)) ∧ (¬ (a = a) → AW Z k n 1108 [some (.ref 2000000), some (.ref 0), some (.ref 272), some (.ref 297), some (.int (nI t)), none, none] [] (zW cb1 w1 o)))
  exact ⟨fun _ => AW.wide (by omega) (by omega) (kk _ _ _ hrel), fun hf => absurd rfl hf⟩
def zLC26 : List zIt := [(1110, .aload_n 1, 1, .null, 0, 0, 0, []), (1111, .aload_n 0, 1, .null, 0, 0, 0, []), (1112, .iload 4, 2, .null, 0, 0, 0, []), (1114, .iconst 1, 1, .int 1, 0, 0, 0, []), (1115, .iadd, 1, .null, 0, 0, 0, []), (1116, .iaload, 1, .null, 0, 0, 0, []), (1117, .aload_n 0, 1, .null, 0, 0, 0, []), (1118, .iload 4, 2, .null, 0, 0, 0, []), (1120, .iconst 2, 1, .int 2, 0, 0, 0, []), (1121, .iadd, 1, .null, 0, 0, 0, []), (1122, .iaload, 1, .null, 0, 0, 0, []), (1123, .ifCond .eq 7, 3, .null, 1130, 0, 0, []), (1126, .iconst 1, 1, .int 1, 0, 0, 0, []), (1127, .goto 4, 3, .null, 1131, 0, 0, []), (1130, .iconst 0, 1, .int 0, 0, 0, 0, []), (1131, .invokevirtual 140, 3, .null, 0, 0, 0, []), (1134, .aload_n 2, 1, .null, 0, 0, 0, []), (1135, .aload_n 0, 1, .null, 0, 0, 0, []), (1136, .iload 4, 2, .null, 0, 0, 0, []), (1138, .iconst 1, 1, .int 1, 0, 0, 0, []), (1139, .iadd, 1, .null, 0, 0, 0, []), (1140, .iaload, 1, .null, 0, 0, 0, []), (1141, .aload_n 0, 1, .null, 0, 0, 0, []), (1142, .iload 4, 2, .null, 0, 0, 0, []), (1144, .iconst 2, 1, .int 2, 0, 0, 0, []), (1145, .iadd, 1, .null, 0, 0, 0, []), (1146, .iaload, 1, .null, 0, 0, 0, []), (1147, .ifCond .eq 7, 3, .null, 1154, 0, 0, []), (1150, .iconst 1, 1, .int 1, 0, 0, 0, []), (1151, .goto 4, 3, .null, 1155, 0, 0, []), (1154, .iconst 0, 1, .int 0, 0, 0, 0, []), (1155, .invokevirtual 144, 3, .null, 0, 0, 0, []), (1158, .if_icmp .eq 30, 3, .null, 1188, 0, 0, []), (1161, .iconst 0, 1, .int 0, 0, 0, 0, []), (1162, .ireturn, 1, .null, 0, 0, 0, [])]
set_option maxRecDepth 20000 in
theorem zLC26_ok : zMokL (zLM zLC26) := ⟨by decide +kernel, by decide +kernel, zCL_ok, rfl, trivial, by decide +kernel⟩
theorem zVL_B_mark : zVirt ⟨"BorrowedLives", "mark", "(IZ)Z"⟩ 2 := ⟨⟨zIn_mem (k := 107) (by decide +kernel), by decide +kernel, by decide +kernel, by decide +kernel⟩, zIn_mem (k := 1270) (by decide +kernel), zIn_mem (k := 1271) (by decide +kernel)⟩
theorem zVL_R_mark : zVirt ⟨"BorrowedLivesModel", "mark", "(IZ)Z"⟩ 2 := ⟨⟨zIn_mem (k := 119) (by decide +kernel), by decide +kernel, by decide +kernel, by decide +kernel⟩, zIn_mem (k := 1987) (by decide +kernel), zIn_mem (k := 1988) (by decide +kernel)⟩
set_option maxRecDepth 40000 in
set_option maxHeartbeats 8000000 in
theorem law_c26 {Z : zCtx} {L : Nat} {xs : Nat → Int32} (hZ : zOkL Z (zLM [])) (hR : zCan Z 1200 601024 7293033) (hN : zNew Z 0 298) (hT : zThrL Z) (hS : zScr Z L xs) {cb : List zE} {w : VR} {o : Nat → Int64} {k n t : Nat} (hk : k + 1 ≤ 601024) (hn : n + 6 ≤ 7293033) (ht : t + 7 ≤ L) (hL : L ≤ 3584) (h : zRel cb w) (kk : ∀ (cb1 : List zE) (w1 : VR) (o1 : Nat → Int64), zRel cb1 w1 → AW Z (k + 1) (n + 6) 1188 [some (.ref 2000000), some (.ref 0), some (.ref 272), some (.ref 297), some (.int (nI t)), none, none] [] (zW cb1 w1 o1)) : AW Z k n 1110 [some (.ref 2000000), some (.ref 0), some (.ref 272), some (.ref 297), some (.int (nI t)), none, none] [] (zW cb w o) := by
  have hM := hZ.re zLC26_ok
  have hRm : zRoom Z k n := zRoom_of hR (by omega) (by omega)
  refine AWL.run hM hRm [1116] 400 ?_
  show AW Z k n 1116 [some (.ref 2000000), some (.ref 0), some (.ref 272), some (.ref 297), some (.int (nI t)), none, none] [.int (nI t + 1), .ref 2000000, .ref 0] (zW cb w o)
  refine AWL.sld (pc := 1116) (t := t + 1) hM hS rfl rfl (nI_add t 1) (by omega) hL ?_
  show AW Z k n 1117 [some (.ref 2000000), some (.ref 0), some (.ref 272), some (.ref 297), some (.int (nI t)), none, none] [.int (xs (t + 1)), .ref 0] (zW cb w o)
  refine AWL.run hM hRm [1122] 400 ?_
  show AW Z k n 1122 [some (.ref 2000000), some (.ref 0), some (.ref 272), some (.ref 297), some (.int (nI t)), none, none] [.int (nI t + 2), .ref 2000000, .int (xs (t + 1)), .ref 0] (zW cb w o)
  refine AWL.sld (pc := 1122) (t := t + 2) hM hS rfl rfl (nI_add t 2) (by omega) hL ?_
  show AW Z k n 1123 [some (.ref 2000000), some (.ref 0), some (.ref 272), some (.ref 297), some (.int (nI t)), none, none] [.int (xs (t + 2)), .int (xs (t + 1)), .ref 0] (zW cb w o)
  by_cases hc : ¬ (xs (t + 2) = 0)
  · have hj := jj_mark h (xs (t + 1)) 1 (by decide)
    obtain ⟨a, cb1, w1, hrel, c1, c2⟩ := hj
    refine AWL.run hM hRm [1131] 400 ?_
    show ((xs (t + 2) = 0 → AW Z k n 1131 [some (.ref 2000000), some (.ref 0), some (.ref 272), some (.ref 297), some (.int (nI t)), none, none] [.int 0, .int (xs (t + 1)), .ref 0] (zW cb w o)) ∧ (¬ (xs (t + 2) = 0) → AW Z k n 1131 [some (.ref 2000000), some (.ref 0), some (.ref 272), some (.ref 297), some (.int (nI t)), none, none] [.int 1, .int (xs (t + 1)), .ref 0] (zW cb w o)))
    refine ⟨fun h9 => absurd h9 hc, fun _ => ?_⟩
    refine AWL.callB (pc := 1131) (idx := 140) hM hR hN (zRel.len h) (zRel.recv h) c1 zMX11_mark_ok rfl rfl rfl (Or.inl (zIn_mem (k := 1269) (by decide +kernel))) zVL_B_mark rfl (by decide) (by decide) (by omega) (by omega) rfl rfl ?_
    show AW Z k n 1134 [some (.ref 2000000), some (.ref 0), some (.ref 272), some (.ref 297), some (.int (nI t)), none, none] [.int a] (zW cb1 w o)
    refine AWL.run hM hRm [1140] 400 ?_
    show AW Z k n 1140 [some (.ref 2000000), some (.ref 0), some (.ref 272), some (.ref 297), some (.int (nI t)), none, none] [.int (nI t + 1), .ref 2000000, .ref 272, .int a] (zW cb1 w o)
    refine AWL.sld (pc := 1140) (t := t + 1) hM hS rfl rfl (nI_add t 1) (by omega) hL ?_
    show AW Z k n 1141 [some (.ref 2000000), some (.ref 0), some (.ref 272), some (.ref 297), some (.int (nI t)), none, none] [.int (xs (t + 1)), .ref 272, .int a] (zW cb1 w o)
    refine AWL.run hM hRm [1146] 400 ?_
    show AW Z k n 1146 [some (.ref 2000000), some (.ref 0), some (.ref 272), some (.ref 297), some (.int (nI t)), none, none] [.int (nI t + 2), .ref 2000000, .int (xs (t + 1)), .ref 272, .int a] (zW cb1 w o)
    refine AWL.sld (pc := 1146) (t := t + 2) hM hS rfl rfl (nI_add t 2) (by omega) hL ?_
    show AW Z k n 1147 [some (.ref 2000000), some (.ref 0), some (.ref 272), some (.ref 297), some (.int (nI t)), none, none] [.int (xs (t + 2)), .int (xs (t + 1)), .ref 272, .int a] (zW cb1 w o)
    refine AWL.run hM hRm [1155] 400 ?_
    show ((xs (t + 2) = 0 → AW Z k n 1155 [some (.ref 2000000), some (.ref 0), some (.ref 272), some (.ref 297), some (.int (nI t)), none, none] [.int 0, .int (xs (t + 1)), .ref 272, .int a] (zW cb1 w o)) ∧ (¬ (xs (t + 2) = 0) → AW Z k n 1155 [some (.ref 2000000), some (.ref 0), some (.ref 272), some (.ref 297), some (.int (nI t)), none, none] [.int 1, .int (xs (t + 1)), .ref 272, .int a] (zW cb1 w o)))
    refine ⟨fun h9 => absurd h9 hc, fun _ => ?_⟩
    refine AWL.callR (pc := 1155) (idx := 144) hM hR hN (zRel.len hrel) c2 zMX12_mark_ok rfl rfl rfl (Or.inl (zIn_mem (k := 1986) (by decide +kernel))) zVL_R_mark rfl (by decide) (by decide) (by omega) (by omega) (fun _ => rfl) rfl rfl ?_
    show AW Z k n 1158 [some (.ref 2000000), some (.ref 0), some (.ref 272), some (.ref 297), some (.int (nI t)), none, none] [.int a, .int a] (zW cb1 w1 o)
    refine AWL.run hM hRm [1188, 1161] 400 ?_
    show ((a = a → AW Z k n 1188 [some (.ref 2000000), some (.ref 0), some (.ref 272), some (.ref 297), some (.int (nI t)), none, none] [] (zW cb1 w1 o)) ∧ (¬ (a = a) → AW Z k n 1161 [some (.ref 2000000), some (.ref 0), some (.ref 272), some (.ref 297), some (.int (nI t)), none, none] [] (zW cb1 w1 o)))
    exact ⟨fun _ => AW.wide (by omega) (by omega) (kk _ _ _ hrel), fun hf => absurd rfl hf⟩
  · have hj := jj_mark h (xs (t + 1)) 0 (by decide)
    have hc := Decidable.not_not.mp hc
    obtain ⟨a, cb1, w1, hrel, c1, c2⟩ := hj
    refine AWL.run hM hRm [1131] 400 ?_
    show ((xs (t + 2) = 0 → AW Z k n 1131 [some (.ref 2000000), some (.ref 0), some (.ref 272), some (.ref 297), some (.int (nI t)), none, none] [.int 0, .int (xs (t + 1)), .ref 0] (zW cb w o)) ∧ (¬ (xs (t + 2) = 0) → AW Z k n 1131 [some (.ref 2000000), some (.ref 0), some (.ref 272), some (.ref 297), some (.int (nI t)), none, none] [.int 1, .int (xs (t + 1)), .ref 0] (zW cb w o)))
    refine ⟨fun _ => ?_, fun h9 => absurd hc h9⟩
    refine AWL.callB (pc := 1131) (idx := 140) hM hR hN (zRel.len h) (zRel.recv h) c1 zMX11_mark_ok rfl rfl rfl (Or.inl (zIn_mem (k := 1269) (by decide +kernel))) zVL_B_mark rfl (by decide) (by decide) (by omega) (by omega) rfl rfl ?_
    show AW Z k n 1134 [some (.ref 2000000), some (.ref 0), some (.ref 272), some (.ref 297), some (.int (nI t)), none, none] [.int a] (zW cb1 w o)
    refine AWL.run hM hRm [1140] 400 ?_
    show AW Z k n 1140 [some (.ref 2000000), some (.ref 0), some (.ref 272), some (.ref 297), some (.int (nI t)), none, none] [.int (nI t + 1), .ref 2000000, .ref 272, .int a] (zW cb1 w o)
    refine AWL.sld (pc := 1140) (t := t + 1) hM hS rfl rfl (nI_add t 1) (by omega) hL ?_
    show AW Z k n 1141 [some (.ref 2000000), some (.ref 0), some (.ref 272), some (.ref 297), some (.int (nI t)), none, none] [.int (xs (t + 1)), .ref 272, .int a] (zW cb1 w o)
    refine AWL.run hM hRm [1146] 400 ?_
    show AW Z k n 1146 [some (.ref 2000000), some (.ref 0), some (.ref 272), some (.ref 297), some (.int (nI t)), none, none] [.int (nI t + 2), .ref 2000000, .int (xs (t + 1)), .ref 272, .int a] (zW cb1 w o)
    refine AWL.sld (pc := 1146) (t := t + 2) hM hS rfl rfl (nI_add t 2) (by omega) hL ?_
    show AW Z k n 1147 [some (.ref 2000000), some (.ref 0), some (.ref 272), some (.ref 297), some (.int (nI t)), none, none] [.int (xs (t + 2)), .int (xs (t + 1)), .ref 272, .int a] (zW cb1 w o)
    refine AWL.run hM hRm [1155] 400 ?_
    show ((xs (t + 2) = 0 → AW Z k n 1155 [some (.ref 2000000), some (.ref 0), some (.ref 272), some (.ref 297), some (.int (nI t)), none, none] [.int 0, .int (xs (t + 1)), .ref 272, .int a] (zW cb1 w o)) ∧ (¬ (xs (t + 2) = 0) → AW Z k n 1155 [some (.ref 2000000), some (.ref 0), some (.ref 272), some (.ref 297), some (.int (nI t)), none, none] [.int 1, .int (xs (t + 1)), .ref 272, .int a] (zW cb1 w o)))
    refine ⟨fun _ => ?_, fun h9 => absurd hc h9⟩
    refine AWL.callR (pc := 1155) (idx := 144) hM hR hN (zRel.len hrel) c2 zMX12_mark_ok rfl rfl rfl (Or.inl (zIn_mem (k := 1986) (by decide +kernel))) zVL_R_mark rfl (by decide) (by decide) (by omega) (by omega) (fun _ => rfl) rfl rfl ?_
    show AW Z k n 1158 [some (.ref 2000000), some (.ref 0), some (.ref 272), some (.ref 297), some (.int (nI t)), none, none] [.int a, .int a] (zW cb1 w1 o)
    refine AWL.run hM hRm [1188, 1161] 400 ?_
    show ((a = a → AW Z k n 1188 [some (.ref 2000000), some (.ref 0), some (.ref 272), some (.ref 297), some (.int (nI t)), none, none] [] (zW cb1 w1 o)) ∧ (¬ (a = a) → AW Z k n 1161 [some (.ref 2000000), some (.ref 0), some (.ref 272), some (.ref 297), some (.int (nI t)), none, none] [] (zW cb1 w1 o)))
    exact ⟨fun _ => AW.wide (by omega) (by omega) (kk _ _ _ hrel), fun hf => absurd rfl hf⟩
def zLC27 : List zIt := [(1163, .aload_n 1, 1, .null, 0, 0, 0, []), (1164, .aload_n 0, 1, .null, 0, 0, 0, []), (1165, .iload 4, 2, .null, 0, 0, 0, []), (1167, .iconst 1, 1, .int 1, 0, 0, 0, []), (1168, .iadd, 1, .null, 0, 0, 0, []), (1169, .iaload, 1, .null, 0, 0, 0, []), (1170, .invokevirtual 145, 3, .null, 0, 0, 0, []), (1173, .aload_n 2, 1, .null, 0, 0, 0, []), (1174, .aload_n 0, 1, .null, 0, 0, 0, []), (1175, .iload 4, 2, .null, 0, 0, 0, []), (1177, .iconst 1, 1, .int 1, 0, 0, 0, []), (1178, .iadd, 1, .null, 0, 0, 0, []), (1179, .iaload, 1, .null, 0, 0, 0, []), (1180, .invokevirtual 148, 3, .null, 0, 0, 0, []), (1183, .if_icmp .eq 5, 3, .null, 1188, 0, 0, []), (1186, .iconst 0, 1, .int 0, 0, 0, 0, []), (1187, .ireturn, 1, .null, 0, 0, 0, [])]
set_option maxRecDepth 20000 in
theorem zLC27_ok : zMokL (zLM zLC27) := ⟨by decide +kernel, by decide +kernel, zCL_ok, rfl, trivial, by decide +kernel⟩
theorem zVL_B_count : zVirt ⟨"BorrowedLives", "count", "(I)I"⟩ 1 := ⟨⟨zIn_mem (k := 107) (by decide +kernel), by decide +kernel, by decide +kernel, by decide +kernel⟩, zIn_mem (k := 1279) (by decide +kernel), zIn_mem (k := 1280) (by decide +kernel)⟩
theorem zVL_R_count : zVirt ⟨"BorrowedLivesModel", "count", "(I)I"⟩ 1 := ⟨⟨zIn_mem (k := 119) (by decide +kernel), by decide +kernel, by decide +kernel, by decide +kernel⟩, zIn_mem (k := 1991) (by decide +kernel), zIn_mem (k := 1992) (by decide +kernel)⟩
set_option maxRecDepth 40000 in
set_option maxHeartbeats 8000000 in
theorem law_c27 {Z : zCtx} {L : Nat} {xs : Nat → Int32} (hZ : zOkL Z (zLM [])) (hR : zCan Z 1200 601024 7293033) (hN : zNew Z 0 298) (hT : zThrL Z) (hS : zScr Z L xs) {cb : List zE} {w : VR} {o : Nat → Int64} {k n t : Nat} (hk : k + 1 ≤ 601024) (hn : n + 6 ≤ 7293033) (ht : t + 7 ≤ L) (hL : L ≤ 3584) (h : zRel cb w) (kk : ∀ (cb1 : List zE) (w1 : VR) (o1 : Nat → Int64), zRel cb1 w1 → AW Z (k + 1) (n + 6) 1188 [some (.ref 2000000), some (.ref 0), some (.ref 272), some (.ref 297), some (.int (nI t)), none, none] [] (zW cb1 w1 o1)) : AW Z k n 1163 [some (.ref 2000000), some (.ref 0), some (.ref 272), some (.ref 297), some (.int (nI t)), none, none] [] (zW cb w o) := by
  have hM := hZ.re zLC27_ok
  have hRm : zRoom Z k n := zRoom_of hR (by omega) (by omega)
  obtain ⟨a, cb1, w1, hrel, c1, c2⟩ := jj_count h (xs (t + 1))
  refine AWL.run hM hRm [1169] 400 ?_
  show AW Z k n 1169 [some (.ref 2000000), some (.ref 0), some (.ref 272), some (.ref 297), some (.int (nI t)), none, none] [.int (nI t + 1), .ref 2000000, .ref 0] (zW cb w o)
  refine AWL.sld (pc := 1169) (t := t + 1) hM hS rfl rfl (nI_add t 1) (by omega) hL ?_
  show AW Z k n 1170 [some (.ref 2000000), some (.ref 0), some (.ref 272), some (.ref 297), some (.int (nI t)), none, none] [.int (xs (t + 1)), .ref 0] (zW cb w o)
  refine AWL.callB (pc := 1170) (idx := 145) hM hR hN (zRel.len h) (zRel.recv h) c1 zMX11_count_ok rfl rfl rfl (Or.inl (zIn_mem (k := 1278) (by decide +kernel))) zVL_B_count rfl (by decide) (by decide) (by omega) (by omega) rfl rfl ?_
  show AW Z k n 1173 [some (.ref 2000000), some (.ref 0), some (.ref 272), some (.ref 297), some (.int (nI t)), none, none] [.int a] (zW cb1 w o)
  refine AWL.run hM hRm [1179] 400 ?_
  show AW Z k n 1179 [some (.ref 2000000), some (.ref 0), some (.ref 272), some (.ref 297), some (.int (nI t)), none, none] [.int (nI t + 1), .ref 2000000, .ref 272, .int a] (zW cb1 w o)
  refine AWL.sld (pc := 1179) (t := t + 1) hM hS rfl rfl (nI_add t 1) (by omega) hL ?_
  show AW Z k n 1180 [some (.ref 2000000), some (.ref 0), some (.ref 272), some (.ref 297), some (.int (nI t)), none, none] [.int (xs (t + 1)), .ref 272, .int a] (zW cb1 w o)
  refine AWL.callR (pc := 1180) (idx := 148) hM hR hN (zRel.len hrel) c2 zMX12_count_ok rfl rfl rfl (Or.inl (zIn_mem (k := 1990) (by decide +kernel))) zVL_R_count rfl (by decide) (by decide) (by omega) (by omega) (fun _ => rfl) rfl rfl ?_
  show AW Z k n 1183 [some (.ref 2000000), some (.ref 0), some (.ref 272), some (.ref 297), some (.int (nI t)), none, none] [.int a, .int a] (zW cb1 w1 o)
  refine AWL.run hM hRm [1188, 1186] 400 ?_
  show ((a = a → AW Z k n 1188 [some (.ref 2000000), some (.ref 0), some (.ref 272), some (.ref 297), some (.int (nI t)), none, none] [] (zW cb1 w1 o)) ∧ (¬ (a = a) → AW Z k n 1186 [some (.ref 2000000), some (.ref 0), some (.ref 272), some (.ref 297), some (.int (nI t)), none, none] [] (zW cb1 w1 o)))
  exact ⟨fun _ => AW.wide (by omega) (by omega) (kk _ _ _ hrel), fun hf => absurd rfl hf⟩
