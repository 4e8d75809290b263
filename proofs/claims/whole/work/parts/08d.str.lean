/-! ===== texts: the library's own methods that Tape calls ===== -/
def zCJ0 : zCls := ("java/lang/String", [], [], [])
theorem zCJ0_ok : zCok zCJ0 = true := by decide +kernel
def zCJ1 : zCls := ("java/lang/StringLatin1", [], [], [(38, 1, 695), (92, 0, 692)])
theorem zCJ1_ok : zCok zCJ1 = true := by decide +kernel
def zCJ3 : zCls := ("jdk/internal/util/Preconditions", [], [], [])
theorem zCJ3_ok : zCok zCJ3 = true := by decide +kernel
def zMJ0_coder_7d493 : zMth := (⟨"java/lang/String", "coder", "()B"⟩, prog_22_method_152_code, 1, some .byte, [(0, .getstatic 38, 3, .null, 0, 0, 0, []), (3, .ifCond .eq 10, 3, .null, 13, 0, 0, []), (6, .aload_n 0, 1, .null, 0, 0, 0, []), (7, .getfield 15, 3, .null, 0, 0, 9, []), (10, .goto 4, 3, .null, 14, 0, 0, []), (13, .iconst 1, 1, .int 1, 0, 0, 0, []), (14, .ireturn, 1, .null, 0, 0, 0, [])], zCJ0)
theorem zMJ0_coder_7d493_ok : zMok zMJ0_coder_7d493 := ⟨by decide +kernel, by decide +kernel, zCJ0_ok, rfl, zIn_mem (k := 627) (by decide +kernel), by decide +kernel⟩
def zMJ0_isLatin1_aae02 : zMth := (⟨"java/lang/String", "isLatin1", "()Z"⟩, prog_22_method_154_code, 1, some .boolean, [(0, .getstatic 38, 3, .null, 0, 0, 0, []), (3, .ifCond .eq 14, 3, .null, 17, 0, 0, []), (6, .aload_n 0, 1, .null, 0, 0, 0, []), (7, .getfield 15, 3, .null, 0, 0, 9, []), (10, .ifCond .ne 7, 3, .null, 17, 0, 0, []), (13, .iconst 1, 1, .int 1, 0, 0, 0, []), (14, .goto 4, 3, .null, 18, 0, 0, []), (17, .iconst 0, 1, .int 0, 0, 0, 0, []), (18, .ireturn, 1, .null, 0, 0, 0, [])], zCJ0)
theorem zMJ0_isLatin1_aae02_ok : zMok zMJ0_isLatin1_aae02 := ⟨by decide +kernel, by decide +kernel, zCJ0_ok, rfl, zIn_mem (k := 641) (by decide +kernel), by decide +kernel⟩
def zMJ0_length_8abf5 : zMth := (⟨"java/lang/String", "length", "()I"⟩, prog_22_method_54_code, 1, some .int, [(0, .aload_n 0, 1, .null, 0, 0, 0, []), (1, .getfield 9, 3, .null, 0, 0, 9, []), (4, .arraylength, 1, .null, 0, 0, 0, []), (5, .aload_n 0, 1, .null, 0, 0, 0, []), (6, .invokevirtual 335, 3, .null, 0, 0, 0, []), (9, .ishr, 1, .null, 0, 0, 0, []), (10, .ireturn, 1, .null, 0, 0, 0, [])], zCJ0)
theorem zMJ0_length_8abf5_ok : zMok zMJ0_length_8abf5 := ⟨by decide +kernel, by decide +kernel, zCJ0_ok, rfl, zIn_mem (k := 623) (by decide +kernel), by decide +kernel⟩
def zMJ3_checkIndex_8e157 : zMth := (⟨"jdk/internal/util/Preconditions", "checkIndex", "(IILjava/util/function/BiFunction;)I"⟩, prog_31_method_11_code, 3, some .int, [(0, .iload_n 0, 1, .null, 0, 0, 0, []), (1, .ifCond .lt 8, 3, .null, 9, 0, 0, []), (4, .iload_n 0, 1, .null, 0, 0, 0, []), (5, .iload_n 1, 1, .null, 0, 0, 0, []), (6, .if_icmp .lt 10, 3, .null, 16, 0, 0, []), (9, .aload_n 2, 1, .null, 0, 0, 0, []), (10, .iload_n 0, 1, .null, 0, 0, 0, []), (11, .iload_n 1, 1, .null, 0, 0, 0, []), (12, .invokestatic 95, 3, .null, 0, 0, 0, []), (15, .athrow, 1, .null, 0, 0, 0, []), (16, .iload_n 0, 1, .null, 0, 0, 0, []), (17, .ireturn, 1, .null, 0, 0, 0, [])], zCJ3)
theorem zMJ3_checkIndex_8e157_ok : zMok zMJ3_checkIndex_8e157 := ⟨by decide +kernel, by decide +kernel, zCJ3_ok, rfl, zIn_mem (k := 652) (by decide +kernel), by decide +kernel⟩
def zMJ0_checkIndex_df160 : zMth := (⟨"java/lang/String", "checkIndex", "(II)V"⟩, prog_22_method_155_code, 2, none, [(0, .iload_n 0, 1, .null, 0, 0, 0, []), (1, .iload_n 1, 1, .null, 0, 0, 0, []), (2, .getstatic 1053, 3, .null, 0, 0, 0, []), (5, .invokestatic 1059, 3, .null, 0, 0, 0, []), (8, .pop, 1, .null, 0, 0, 0, []), (9, .return_, 1, .null, 0, 0, 0, [])], zCJ0)
theorem zMJ0_checkIndex_df160_ok : zMok zMJ0_checkIndex_df160 := ⟨by decide +kernel, by decide +kernel, zCJ0_ok, rfl, zIn_mem (k := 647) (by decide +kernel), by decide +kernel⟩
def zMJ1_charAt_3b067 : zMth := (⟨"java/lang/StringLatin1", "charAt", "([BI)C"⟩, prog_23_method_2_code, 2, some .char, [(0, .iload_n 1, 1, .null, 0, 0, 0, []), (1, .aload_n 0, 1, .null, 0, 0, 0, []), (2, .arraylength, 1, .null, 0, 0, 0, []), (3, .invokestatic 9, 3, .null, 0, 0, 0, []), (6, .aload_n 0, 1, .null, 0, 0, 0, []), (7, .iload_n 1, 1, .null, 0, 0, 0, []), (8, .baload, 1, .null, 0, 0, 0, []), (9, .sipush 255, 3, .int 255, 0, 0, 0, []), (12, .iand, 1, .null, 0, 0, 0, []), (13, .i2c, 1, .null, 0, 0, 0, []), (14, .ireturn, 1, .null, 0, 0, 0, [])], zCJ1)
theorem zMJ1_charAt_3b067_ok : zMok zMJ1_charAt_3b067 := ⟨by decide +kernel, by decide +kernel, zCJ1_ok, rfl, zIn_mem (k := 644) (by decide +kernel), by decide +kernel⟩
def zMJ0_charAt_5068e : zMth := (⟨"java/lang/String", "charAt", "(I)C"⟩, prog_22_method_56_code, 2, some .char, [(0, .aload_n 0, 1, .null, 0, 0, 0, []), (1, .invokevirtual 492, 3, .null, 0, 0, 0, []), (4, .ifCond .eq 12, 3, .null, 16, 0, 0, []), (7, .aload_n 0, 1, .null, 0, 0, 0, []), (8, .getfield 9, 3, .null, 0, 0, 9, []), (11, .iload_n 1, 1, .null, 0, 0, 0, []), (12, .invokestatic 495, 3, .null, 0, 0, 0, []), (15, .ireturn, 1, .null, 0, 0, 0, []), (16, .aload_n 0, 1, .null, 0, 0, 0, []), (17, .getfield 9, 3, .null, 0, 0, 9, []), (20, .iload_n 1, 1, .null, 0, 0, 0, []), (21, .invokestatic 498, 3, .null, 0, 0, 0, []), (24, .ireturn, 1, .null, 0, 0, 0, [])], zCJ0)
theorem zMJ0_charAt_5068e_ok : zMok zMJ0_charAt_5068e := ⟨by decide +kernel, by decide +kernel, zCJ0_ok, rfl, zIn_mem (k := 637) (by decide +kernel), by decide +kernel⟩
def zMJ1_canEncode_9a6ad : zMth := (⟨"java/lang/StringLatin1", "canEncode", "(I)Z"⟩, prog_23_method_4_code, 1, some .boolean, [(0, .iload_n 0, 1, .null, 0, 0, 0, []), (1, .ifCond .lt 14, 3, .null, 15, 0, 0, []), (4, .iload_n 0, 1, .null, 0, 0, 0, []), (5, .sipush 255, 3, .int 255, 0, 0, 0, []), (8, .if_icmp .gt 7, 3, .null, 15, 0, 0, []), (11, .iconst 1, 1, .int 1, 0, 0, 0, []), (12, .goto 4, 3, .null, 16, 0, 0, []), (15, .iconst 0, 1, .int 0, 0, 0, 0, []), (16, .ireturn, 1, .null, 0, 0, 0, [])], zCJ1)
theorem zMJ1_canEncode_9a6ad_ok : zMok zMJ1_canEncode_9a6ad := ⟨by decide +kernel, by decide +kernel, zCJ1_ok, rfl, zIn_mem (k := 691) (by decide +kernel), by decide +kernel⟩
def zMJ1_indexOfChar_4cfef : zMth := (⟨"java/lang/StringLatin1", "indexOfChar", "([BIII)I"⟩, prog_23_method_23_code, 6, some .int, [(0, .iload_n 1, 1, .null, 0, 0, 0, []), (1, .i2b, 1, .null, 0, 0, 0, []), (2, .istore 4, 2, .null, 0, 0, 0, []), (4, .iload_n 2, 1, .null, 0, 0, 0, []), (5, .istore 5, 2, .null, 0, 0, 0, []), (7, .iload 5, 2, .null, 0, 0, 0, []), (9, .iload_n 3, 1, .null, 0, 0, 0, []), (10, .if_icmp .ge 21, 3, .null, 31, 0, 0, []), (13, .aload_n 0, 1, .null, 0, 0, 0, []), (14, .iload 5, 2, .null, 0, 0, 0, []), (16, .baload, 1, .null, 0, 0, 0, []), (17, .iload 4, 2, .null, 0, 0, 0, []), (19, .if_icmp .ne 6, 3, .null, 25, 0, 0, []), (22, .iload 5, 2, .null, 0, 0, 0, []), (24, .ireturn, 1, .null, 0, 0, 0, []), (25, .iinc 5 1, 3, .int 1, 0, 0, 0, []), (28, .goto (-21), 3, .null, 7, 0, 0, []), (31, .iconst (-1), 1, .int (-1), 0, 0, 0, []), (32, .ireturn, 1, .null, 0, 0, 0, [])], zCJ1)
theorem zMJ1_indexOfChar_4cfef_ok : zMok zMJ1_indexOfChar_4cfef := ⟨by decide +kernel, by decide +kernel, zCJ1_ok, rfl, zIn_mem (k := 700) (by decide +kernel), by decide +kernel⟩
def zMJ1_indexOf_4cfef : zMth := (⟨"java/lang/StringLatin1", "indexOf", "([BIII)I"⟩, prog_23_method_22_code, 4, some .int, [(0, .iload_n 1, 1, .null, 0, 0, 0, []), (1, .invokestatic 88, 3, .null, 0, 0, 0, []), (4, .ifCond .ne 5, 3, .null, 9, 0, 0, []), (7, .iconst (-1), 1, .int (-1), 0, 0, 0, []), (8, .ireturn, 1, .null, 0, 0, 0, []), (9, .iload_n 2, 1, .null, 0, 0, 0, []), (10, .iconst 0, 1, .int 0, 0, 0, 0, []), (11, .invokestatic 92, 3, .null, 0, 1, 0, []), (14, .istore_n 2, 1, .null, 0, 0, 0, []), (15, .iload_n 3, 1, .null, 0, 0, 0, []), (16, .aload_n 0, 1, .null, 0, 0, 0, []), (17, .arraylength, 1, .null, 0, 0, 0, []), (18, .invokestatic 38, 3, .null, 1, 1, 0, []), (21, .istore_n 3, 1, .null, 0, 0, 0, []), (22, .iload_n 2, 1, .null, 0, 0, 0, []), (23, .iload_n 3, 1, .null, 0, 0, 0, []), (24, .if_icmp .lt 5, 3, .null, 29, 0, 0, []), (27, .iconst (-1), 1, .int (-1), 0, 0, 0, []), (28, .ireturn, 1, .null, 0, 0, 0, []), (29, .aload_n 0, 1, .null, 0, 0, 0, []), (30, .iload_n 1, 1, .null, 0, 0, 0, []), (31, .iload_n 2, 1, .null, 0, 0, 0, []), (32, .iload_n 3, 1, .null, 0, 0, 0, []), (33, .invokestatic 95, 3, .null, 0, 0, 0, []), (36, .ireturn, 1, .null, 0, 0, 0, [])], zCJ1)
theorem zMJ1_indexOf_4cfef_ok : zMok zMJ1_indexOf_4cfef := ⟨by decide +kernel, by decide +kernel, zCJ1_ok, rfl, zIn_mem (k := 688) (by decide +kernel), by decide +kernel⟩
def zMJ0_indexOf_7cf53 : zMth := (⟨"java/lang/String", "indexOf", "(II)I"⟩, prog_22_method_80_code, 3, some .int, [(0, .aload_n 0, 1, .null, 0, 0, 0, []), (1, .invokevirtual 492, 3, .null, 0, 0, 0, []), (4, .ifCond .eq 19, 3, .null, 23, 0, 0, []), (7, .aload_n 0, 1, .null, 0, 0, 0, []), (8, .getfield 9, 3, .null, 0, 0, 9, []), (11, .iload_n 1, 1, .null, 0, 0, 0, []), (12, .iload_n 2, 1, .null, 0, 0, 0, []), (13, .aload_n 0, 1, .null, 0, 0, 0, []), (14, .invokevirtual 505, 3, .null, 0, 0, 0, []), (17, .invokestatic 637, 3, .null, 0, 0, 0, []), (20, .goto 16, 3, .null, 36, 0, 0, []), (23, .aload_n 0, 1, .null, 0, 0, 0, []), (24, .getfield 9, 3, .null, 0, 0, 9, []), (27, .iload_n 1, 1, .null, 0, 0, 0, []), (28, .iload_n 2, 1, .null, 0, 0, 0, []), (29, .aload_n 0, 1, .null, 0, 0, 0, []), (30, .invokevirtual 505, 3, .null, 0, 0, 0, []), (33, .invokestatic 640, 3, .null, 0, 0, 0, []), (36, .ireturn, 1, .null, 0, 0, 0, [])], zCJ0)
theorem zMJ0_indexOf_7cf53_ok : zMok zMJ0_indexOf_7cf53 := ⟨by decide +kernel, by decide +kernel, zCJ0_ok, rfl, zIn_mem (k := 684) (by decide +kernel), by decide +kernel⟩
def zMJ0_indexOf_0f7a4 : zMth := (⟨"java/lang/String", "indexOf", "(I)I"⟩, prog_22_method_79_code, 2, some .int, [(0, .aload_n 0, 1, .null, 0, 0, 0, []), (1, .iload_n 1, 1, .null, 0, 0, 0, []), (2, .iconst 0, 1, .int 0, 0, 0, 0, []), (3, .invokevirtual 633, 3, .null, 0, 0, 0, []), (6, .ireturn, 1, .null, 0, 0, 0, [])], zCJ0)
theorem zMJ0_indexOf_0f7a4_ok : zMok zMJ0_indexOf_0f7a4 := ⟨by decide +kernel, by decide +kernel, zCJ0_ok, rfl, zIn_mem (k := 680) (by decide +kernel), by decide +kernel⟩
theorem zK_java_lang_String_335 : zLink "java/lang/String" 335 ⟨"java/lang/String", "coder", "()B"⟩ := Or.inl (zIn_mem (k := 624) (by decide +kernel))
theorem zK_java_lang_String_492 : zLink "java/lang/String" 492 ⟨"java/lang/String", "isLatin1", "()Z"⟩ := Or.inl (zIn_mem (k := 638) (by decide +kernel))
theorem zK_java_lang_String_495 : zLink "java/lang/String" 495 ⟨"java/lang/StringLatin1", "charAt", "([BI)C"⟩ := Or.inl (zIn_mem (k := 642) (by decide +kernel))
theorem zK_java_lang_String_1059 : zLink "java/lang/String" 1059 ⟨"jdk/internal/util/Preconditions", "checkIndex", "(IILjava/util/function/BiFunction;)I"⟩ := Or.inl (zIn_mem (k := 650) (by decide +kernel))
theorem zK_java_lang_StringLatin1_9 : zLink "java/lang/StringLatin1" 9 ⟨"java/lang/String", "checkIndex", "(II)V"⟩ := Or.inl (zIn_mem (k := 645) (by decide +kernel))
theorem zK_java_lang_StringLatin1_88 : zLink "java/lang/StringLatin1" 88 ⟨"java/lang/StringLatin1", "canEncode", "(I)Z"⟩ := Or.inl (zIn_mem (k := 689) (by decide +kernel))
theorem zK_java_lang_StringLatin1_95 : zLink "java/lang/StringLatin1" 95 ⟨"java/lang/StringLatin1", "indexOfChar", "([BIII)I"⟩ := Or.inl (zIn_mem (k := 698) (by decide +kernel))
theorem zK_java_lang_String_637 : zLink "java/lang/String" 637 ⟨"java/lang/StringLatin1", "indexOf", "([BIII)I"⟩ := Or.inl (zIn_mem (k := 686) (by decide +kernel))
theorem zK_java_lang_String_505 : zLink "java/lang/String" 505 ⟨"java/lang/String", "length", "()I"⟩ := Or.inl (zIn_mem (k := 685) (by decide +kernel))
theorem zK_java_lang_String_633 : zLink "java/lang/String" 633 ⟨"java/lang/String", "indexOf", "(II)I"⟩ := Or.inl (zIn_mem (k := 681) (by decide +kernel))
theorem zV_J0_coder_7d493 : zVirt ⟨"java/lang/String", "coder", "()B"⟩ 0 := ⟨⟨zIn_mem (k := 121) (by decide +kernel), by decide +kernel, by decide +kernel, by decide +kernel⟩, zIn_mem (k := 625) (by decide +kernel), zIn_mem (k := 626) (by decide +kernel)⟩
theorem zV_J0_isLatin1_aae02 : zVirt ⟨"java/lang/String", "isLatin1", "()Z"⟩ 0 := ⟨⟨zIn_mem (k := 121) (by decide +kernel), by decide +kernel, by decide +kernel, by decide +kernel⟩, zIn_mem (k := 639) (by decide +kernel), zIn_mem (k := 640) (by decide +kernel)⟩
theorem zV_J0_length_8abf5 : zVirt ⟨"java/lang/String", "length", "()I"⟩ 0 := ⟨⟨zIn_mem (k := 121) (by decide +kernel), by decide +kernel, by decide +kernel, by decide +kernel⟩, zIn_mem (k := 621) (by decide +kernel), zIn_mem (k := 622) (by decide +kernel)⟩
theorem zV_J0_charAt_5068e : zVirt ⟨"java/lang/String", "charAt", "(I)C"⟩ 1 := ⟨⟨zIn_mem (k := 121) (by decide +kernel), by decide +kernel, by decide +kernel, by decide +kernel⟩, zIn_mem (k := 635) (by decide +kernel), zIn_mem (k := 636) (by decide +kernel)⟩
theorem zV_J0_indexOf_0f7a4 : zVirt ⟨"java/lang/String", "indexOf", "(I)I"⟩ 1 := ⟨⟨zIn_mem (k := 121) (by decide +kernel), by decide +kernel, by decide +kernel, by decide +kernel⟩, zIn_mem (k := 678) (by decide +kernel), zIn_mem (k := 679) (by decide +kernel)⟩
theorem zV_J0_indexOf_7cf53 : zVirt ⟨"java/lang/String", "indexOf", "(II)I"⟩ 2 := ⟨⟨zIn_mem (k := 121) (by decide +kernel), by decide +kernel, by decide +kernel, by decide +kernel⟩, zIn_mem (k := 682) (by decide +kernel), zIn_mem (k := 683) (by decide +kernel)⟩
theorem zV_J3_checkIndex_8e157 : zStat ⟨"jdk/internal/util/Preconditions", "checkIndex", "(IILjava/util/function/BiFunction;)I"⟩ 3 := ⟨⟨zIn_mem (k := 123) (by decide +kernel), by decide +kernel, by decide +kernel, by decide +kernel⟩, zIn_mem (k := 651) (by decide +kernel)⟩
theorem zV_J0_checkIndex_df160 : zStat ⟨"java/lang/String", "checkIndex", "(II)V"⟩ 2 := ⟨⟨zIn_mem (k := 121) (by decide +kernel), by decide +kernel, by decide +kernel, by decide +kernel⟩, zIn_mem (k := 646) (by decide +kernel)⟩
theorem zV_J1_charAt_3b067 : zStat ⟨"java/lang/StringLatin1", "charAt", "([BI)C"⟩ 2 := ⟨⟨zIn_mem (k := 122) (by decide +kernel), by decide +kernel, by decide +kernel, by decide +kernel⟩, zIn_mem (k := 643) (by decide +kernel)⟩
theorem zV_J1_canEncode_9a6ad : zStat ⟨"java/lang/StringLatin1", "canEncode", "(I)Z"⟩ 1 := ⟨⟨zIn_mem (k := 122) (by decide +kernel), by decide +kernel, by decide +kernel, by decide +kernel⟩, zIn_mem (k := 690) (by decide +kernel)⟩
theorem zV_J1_indexOfChar_4cfef : zStat ⟨"java/lang/StringLatin1", "indexOfChar", "([BIII)I"⟩ 4 := ⟨⟨zIn_mem (k := 122) (by decide +kernel), by decide +kernel, by decide +kernel, by decide +kernel⟩, zIn_mem (k := 699) (by decide +kernel)⟩
theorem zV_J1_indexOf_4cfef : zStat ⟨"java/lang/StringLatin1", "indexOf", "([BIII)I"⟩ 4 := ⟨⟨zIn_mem (k := 122) (by decide +kernel), by decide +kernel, by decide +kernel, by decide +kernel⟩, zIn_mem (k := 687) (by decide +kernel)⟩
-- String's pool: {38: ('java/lang/String', 'COMPACT_STRINGS', 'Z'), 1053: ('jdk/internal/util/Preconditions', 'SIOOBE_FORMATTER', 'Ljava/util/function/BiFunction;'), 9: ('java/lang/String', 'value', '[B'), 15: ('java/lang/String', 'coder', 'B')}
theorem zFS_9 : Cond.fieldLink "java/lang/String" 9 "java/lang/String" "value" "[B" ∈ zTg := zIn_mem (k := 2016) (by decide +kernel)
theorem zFS_15 : Cond.fieldLink "java/lang/String" 15 "java/lang/String" "coder" "B" ∈ zTg := zIn_mem (k := 2017) (by decide +kernel)
theorem zFS_38 : Cond.fieldLink "java/lang/String" 38 "java/lang/String" "COMPACT_STRINGS" "Z" ∈ zTg := zIn_mem (k := 628) (by decide +kernel)
theorem zFS_1053 : Cond.fieldLink "java/lang/String" 1053 "jdk/internal/util/Preconditions" "SIOOBE_FORMATTER" "Ljava/util/function/BiFunction;" ∈ zTg := zIn_mem (k := 648) (by decide +kernel)
def zslen (i : Nat) : Nat := [8, 216].getD i 0
def zsbyt (i : Nat) : List Int32 := [zS0, zS1].getD i []
section ZSTR
variable {Z : zCtx} {M M' : zMth} {k n d d' nf nf' mc mc' ms ms' n0 pc b0 idx np : Nat} {lv : List (Option Value)} {st rest as : List Value} {cs cc : List zE} {it : zIt} {Post : Option Value → List zE → Prop}
theorem AW.ldcT0 (hZ : zOk Z M) (hit : zget M.2.2.2.2.1 pc = some it) (hop : it.2.1 = .ldc 59) (hown9 : M.2.2.2.2.2.1 = "BorrowedLives$Tape")
    (kk : AW Z k n (pc + 2) lv (.ref 1000000 :: st) cs) : AW Z k n pc lv st cs := by
  obtain ⟨hi, rfl⟩ := zget_mem hit
  obtain ⟨pc, op, len, v, a, b, c, sw⟩ := it
  obtain ⟨l, p, e, R, s, m, args, below, meth, cd, D, dA, adr, A, Q⟩ := Z
  obtain ⟨y, cb, nL, ret, lst, C⟩ := M
  obtain ⟨hx, hb, hml, hr, hown, hts, hlocks, hK0, hA, hAm, hR0, hM, hnm⟩ := hZ
  obtain ⟨-, hE1, hE2, hE3, hE4, hE5, hE6, hE7, hE8, hE9⟩ := hAm
  have hdec := hM.dec hi
  have hit2 := hM.itB hi
  dsimp only at hx hb hml hr hown hts hlocks hK0 hA hR0 hdec hit2 hop hown9
  subst hop
  simp only [zitB, Bool.and_eq_true, beq_iff_eq] at hit2
  obtain ⟨rfl, -⟩ := hit2
  intro H locs ls hP hD hS hl
  rw [hown9] at hown
  exact va_ldcS hx hb hown hE2 hdec (kk H locs ls hP hD hS hl)
theorem AW.ldcT1 (hZ : zOk Z M) (hit : zget M.2.2.2.2.1 pc = some it) (hop : it.2.1 = .ldc 69) (hown9 : M.2.2.2.2.2.1 = "BorrowedLives$Tape")
    (kk : AW Z k n (pc + 2) lv (.ref 1000001 :: st) cs) : AW Z k n pc lv st cs := by
  obtain ⟨hi, rfl⟩ := zget_mem hit
  obtain ⟨pc, op, len, v, a, b, c, sw⟩ := it
  obtain ⟨l, p, e, R, s, m, args, below, meth, cd, D, dA, adr, A, Q⟩ := Z
  obtain ⟨y, cb, nL, ret, lst, C⟩ := M
  obtain ⟨hx, hb, hml, hr, hown, hts, hlocks, hK0, hA, hAm, hR0, hM, hnm⟩ := hZ
  obtain ⟨-, hE1, hE2, hE3, hE4, hE5, hE6, hE7, hE8, hE9⟩ := hAm
  have hdec := hM.dec hi
  have hit2 := hM.itB hi
  dsimp only at hx hb hml hr hown hts hlocks hK0 hA hR0 hdec hit2 hop hown9
  subst hop
  simp only [zitB, Bool.and_eq_true, beq_iff_eq] at hit2
  obtain ⟨rfl, -⟩ := hit2
  intro H locs ls hP hD hS hl
  rw [hown9] at hown
  exact va_ldcS hx hb hown hE3 hdec (kk H locs ls hP hD hS hl)
theorem AW.gfV {i : Nat} (hi2 : i < 2) (hZ : zOk Z M) (hit : zget M.2.2.2.2.1 pc = some it) (hop : it.2.1 = .getfield 9) (hown9 : M.2.2.2.2.2.1 = "java/lang/String")
    (kk : AW Z k n (pc + 3) lv (.ref (1000010 + i) :: st) cs) : AW Z k n pc lv (.ref (1000000 + i) :: st) cs := by
  obtain ⟨hi, rfl⟩ := zget_mem hit
  obtain ⟨pc, op, len, v, a, b, c, sw⟩ := it
  obtain ⟨l, p, e, R, s, m, args, below, meth, cd, D, dA, adr, A, Q⟩ := Z
  obtain ⟨y, cb, nL, ret, lst, C⟩ := M
  obtain ⟨hx, hb, hml, hr, hown, hts, hlocks, hK0, hA, hAm, hR0, hM, hnm⟩ := hZ
  obtain ⟨-, hE1, hE2, hE3, hE4, hE5, hE6, hE7, hE8, hE9⟩ := hAm
  have hdec := hM.dec hi
  have hit2 := hM.itB hi
  dsimp only at hx hb hml hr hown hts hlocks hK0 hA hR0 hdec hit2 hop hown9
  subst hop
  simp only [zitB, Bool.and_eq_true, beq_iff_eq] at hit2
  obtain ⟨rfl, -⟩ := hit2
  intro H locs ls hP hD hS hl
  rw [hown9] at hown
  exact vk_getf (ref := "java/lang/String") hx hb (hE1.1 i hi2).2.2.1 hS hown (hts _ zFS_9) (fun _ h9 => h9) hdec (kk H locs ls hP hD hS hl)
theorem AW.gfC {i : Nat} (hi2 : i < 2) (hZ : zOk Z M) (hit : zget M.2.2.2.2.1 pc = some it) (hop : it.2.1 = .getfield 15) (hown9 : M.2.2.2.2.2.1 = "java/lang/String")
    (kk : AW Z k n (pc + 3) lv (.int 0 :: st) cs) : AW Z k n pc lv (.ref (1000000 + i) :: st) cs := by
  obtain ⟨hi, rfl⟩ := zget_mem hit
  obtain ⟨pc, op, len, v, a, b, c, sw⟩ := it
  obtain ⟨l, p, e, R, s, m, args, below, meth, cd, D, dA, adr, A, Q⟩ := Z
  obtain ⟨y, cb, nL, ret, lst, C⟩ := M
  obtain ⟨hx, hb, hml, hr, hown, hts, hlocks, hK0, hA, hAm, hR0, hM, hnm⟩ := hZ
  obtain ⟨-, hE1, hE2, hE3, hE4, hE5, hE6, hE7, hE8, hE9⟩ := hAm
  have hdec := hM.dec hi
  have hit2 := hM.itB hi
  dsimp only at hx hb hml hr hown hts hlocks hK0 hA hR0 hdec hit2 hop hown9
  subst hop
  simp only [zitB, Bool.and_eq_true, beq_iff_eq] at hit2
  obtain ⟨rfl, -⟩ := hit2
  intro H locs ls hP hD hS hl
  rw [hown9] at hown
  exact vk_getf (ref := "java/lang/String") hx hb (hE1.1 i hi2).2.1 hS hown (hts _ zFS_15) (fun _ h9 => h9) hdec (kk H locs ls hP hD hS hl)
theorem AW.gsC (hZ : zOk Z M) (hit : zget M.2.2.2.2.1 pc = some it) (hop : it.2.1 = .getstatic 38) (hown9 : M.2.2.2.2.2.1 = "java/lang/String")
    (kk : AW Z k n (pc + 3) lv (.int 1 :: st) cs) : AW Z k n pc lv st cs := by
  obtain ⟨hi, rfl⟩ := zget_mem hit
  obtain ⟨pc, op, len, v, a, b, c, sw⟩ := it
  obtain ⟨l, p, e, R, s, m, args, below, meth, cd, D, dA, adr, A, Q⟩ := Z
  obtain ⟨y, cb, nL, ret, lst, C⟩ := M
  obtain ⟨hx, hb, hml, hr, hown, hts, hlocks, hK0, hA, hAm, hR0, hM, hnm⟩ := hZ
  obtain ⟨-, hE1, hE2, hE3, hE4, hE5, hE6, hE7, hE8, hE9⟩ := hAm
  have hdec := hM.dec hi
  have hit2 := hM.itB hi
  dsimp only at hx hb hml hr hown hts hlocks hK0 hA hR0 hdec hit2 hop hown9
  subst hop
  simp only [zitB, beq_iff_eq] at hit2
  subst hit2
  intro H locs ls hP hD hS hl
  rw [hown9] at hown
  exact va_gets (ref := "java/lang/String") hx hb hE4 hS hown (hts _ zFS_38) (fun _ h9 => h9) hdec (kk H locs ls hP hD hS hl)
theorem AW.gsF (hZ : zOk Z M) (hit : zget M.2.2.2.2.1 pc = some it) (hop : it.2.1 = .getstatic 1053) (hown9 : M.2.2.2.2.2.1 = "java/lang/String")
    (kk : ∀ w : Value, (w = .null ∨ w = .ref 1000020) → AW Z k n (pc + 3) lv (w :: st) cs) : AW Z k n pc lv st cs := by
  obtain ⟨hi, rfl⟩ := zget_mem hit
  obtain ⟨pc, op, len, v, a, b, c, sw⟩ := it
  obtain ⟨l, p, e, R, s, m, args, below, meth, cd, D, dA, adr, A, Q⟩ := Z
  obtain ⟨y, cb, nL, ret, lst, C⟩ := M
  obtain ⟨hx, hb, hml, hr, hown, hts, hlocks, hK0, hA, hAm, hR0, hM, hnm⟩ := hZ
  obtain ⟨-, hE1, hE2, hE3, hE4, hE5, hE6, hE7, hE8, hE9⟩ := hAm
  have hdec := hM.dec hi
  have hit2 := hM.itB hi
  dsimp only at hx hb hml hr hown hts hlocks hK0 hA hR0 hdec hit2 hop hown9
  subst hop
  simp only [zitB, beq_iff_eq] at hit2
  subst hit2
  intro H locs ls hP hD hS hl
  rw [hown9] at hown
  rcases hE5 with h5 | h5
  · exact va_gets (ref := "jdk/internal/util/Preconditions") hx hb h5 hS hown (hts _ zFS_1053) (fun _ h9 => h9) hdec (kk .null (Or.inl rfl) H locs ls hP hD hS hl)
  · exact va_gets (ref := "jdk/internal/util/Preconditions") hx hb h5 hS hown (hts _ zFS_1053) (fun _ h9 => h9) hdec (kk (.ref 1000020) (Or.inr rfl) H locs ls hP hD hS hl)
theorem AW.alS {i : Nat} (hi2 : i < 2) (hZ : zOk Z M) (hit : zget M.2.2.2.2.1 pc = some it) (hop : it.2.1 = .arraylength)
    (kk : AW Z k n (pc + 1) lv (.int (Int32.ofNat (zslen i)) :: st) cs) : AW Z k n pc lv (.ref (1000010 + i) :: st) cs := by
  obtain ⟨hi, rfl⟩ := zget_mem hit
  obtain ⟨pc, op, len, v, a, b, c, sw⟩ := it
  obtain ⟨l, p, e, R, s, m, args, below, meth, cd, D, dA, adr, A, Q⟩ := Z
  obtain ⟨y, cb, nL, ret, lst, C⟩ := M
  obtain ⟨hx, hb, hml, hr, hown, hts, hlocks, hK0, hA, hAm, hR0, hM, hnm⟩ := hZ
  obtain ⟨-, hE1, hE2, hE3, hE4, hE5, hE6, hE7, hE8, hE9⟩ := hAm
  have hdec := hM.dec hi
  have hit2 := hM.itB hi
  dsimp only at hx hb hml hr hown hts hlocks hK0 hA hR0 hdec hit2 hop
  subst hop
  have hlen1 : len = 1 := eq_of_beq hit2
  subst hlen1
  intro H locs ls hP hD hS hl
  exact va_tlen hx hb (hE1.1 i hi2).2.2.2 hS rfl hdec (kk H locs ls hP hD hS hl)
theorem AW.blS {i : Nat} {x : Int32} (hi2 : i < 2) (hin : vp_in x (zslen i)) (hZ : zOk Z M) (hit : zget M.2.2.2.2.1 pc = some it) (hop : it.2.1 = .baload)
    (kk : AW Z k n (pc + 1) lv (.int ((zsbyt i).getD x.toNatClampNeg 0) :: st) cs) : AW Z k n pc lv (.int x :: .ref (1000010 + i) :: st) cs := by
  obtain ⟨hi, rfl⟩ := zget_mem hit
  obtain ⟨pc, op, len, v, a, b, c, sw⟩ := it
  obtain ⟨l, p, e, R, s, m, args, below, meth, cd, D, dA, adr, A, Q⟩ := Z
  obtain ⟨y, cb, nL, ret, lst, C⟩ := M
  obtain ⟨hx, hb, hml, hr, hown, hts, hlocks, hK0, hA, hAm, hR0, hM, hnm⟩ := hZ
  obtain ⟨-, hE1, hE2, hE3, hE4, hE5, hE6, hE7, hE8, hE9⟩ := hAm
  have hdec := hM.dec hi
  have hit2 := hM.itB hi
  dsimp only at hx hb hml hr hown hts hlocks hK0 hA hR0 hdec hit2 hop
  subst hop
  have hlen1 : len = 1 := eq_of_beq hit2
  subst hlen1
  intro H locs ls hP hD hS hl
  exact va_tb hx hb (hE1.1 i hi2).2.2.2 hS hin rfl hdec (kk H locs ls hP hD hS hl)
set_option maxHeartbeats 2000000 in
theorem AW.callVs {i : Nat} {ps : List Nat} (hi2 : i < 2) (hb0 : zrho ps cs.length nf' b0 = 1000000 + i) (hyc : M'.1.cls = "java/lang/String") (hZ : zOk Z M) (hR : zCan Z d mc ms) (hN : zNew Z n0 nf) (hC : Ct M' d' nf' mc' ms' (.ref b0 :: as) cc Post) (hM' : zMok M')
    (hit : zget M.2.2.2.2.1 pc = some it) (hop : it.2.1 = .invokevirtual idx) (hlk : zLink M.2.2.2.2.2.1 idx M'.1) (hce : zVirt M'.1 np) (hnp : as.length = np)
    (hps : ps.map (fun q => cs[q]?) = cc.map (fun e => some (zre (zrho ps cs.length nf') e))) (hnd : ps.Nodup) (hfr : nf' = 0 ∨ (cs.length = n0 + k ∧ k + nf' ≤ nf)) (hfar : ps.length + nf' ≤ 1000000)
    (hd : d' + 1 ≤ d) (hmL : M'.2.2.1 ≤ 45) (hmc : k + mc' ≤ mc) (hms : n + ms' ≤ ms)
    (hst : st = ((Value.ref b0 :: as).map (zv (zrho ps cs.length nf'))).reverse ++ rest) (hr4 : Nat.ble (zcsum rest) 8 = true)
    (kk : ∀ (v : Option Value) (cc1 : List zE), Post v cc1 → cc1.length = cc.length + nf' → AW Z (k + mc') (n + ms') (pc + 3) lv ((v.map (zv (zrho ps cs.length nf'))).toList ++ rest) (zjoin cs ps (cc1.map (zre (zrho ps cs.length nf'))))) :
    AW Z k n pc lv st cs := by
  obtain ⟨hi, rfl⟩ := zget_mem hit
  obtain ⟨pc, op, len, v, a, b, c, sw⟩ := it
  obtain ⟨l, p, e, R, s, m, args, below, meth, cd, D, dA, adr, A, Q⟩ := Z
  obtain ⟨y, cb, nL, ret, lst, C⟩ := M
  obtain ⟨y', cb', nL', ret', lst', C'⟩ := M'
  obtain ⟨hx, hb, hml, hr, hown, hts, hlocks, hK0, hA, hAm, hR0, hM, hnm⟩ := hZ
  obtain ⟨hRf, hRl, hRc, hRs⟩ := hR
  obtain ⟨hfresh, cs0, hcs0, hA0⟩ := hN
  have hdec := hM.dec hi
  have hit2 := hM.itB hi
  dsimp only at hx hb hml hr hown hts hlocks hK0 hA hAm hR0 hdec hit2 hop hlk hce hmL hyc
  subst hop; subst hst
  simp only [zitB, beq_iff_eq] at hit2
  subst hit2
  intro H locs ls hP hD hS hl T hT X
  have hfree := zcall_free (nf := nf') hps hA hD hS
  have hfreshC : zFresh (fun i => adr (zrho ps cs.length nf' i)) cc.length nf' H.size := by
    intro i hi9
    rcases hfr with h0 | ⟨h1, h2⟩
    · omega
    · have hlen : ps.length = cc.length := by
        have h := congrArg List.length hps
        simpa using h
      have hsz := zsize hT X hP hS hfresh h1 (by omega)
      show adr (zrho ps cs.length nf' (cc.length + i)) = H.size + i
      rw [← hlen, zrho_new hi9, h1, hsz, show n0 + k + i = n0 + (k + i) by omega, hfresh (k + i) (by omega)]
      omega
  have hMet := hC l D dA (fun i => adr (zrho ps cs.length nf' i)) H.size hfreshC
  have hcode : Cond.code y' cb' nL' ret' ∈ zTg := hM'.2.2.2.2.1
  obtain ⟨⟨hini, hdd⟩, hinst, hsel⟩ := hce
  have hroom : (zrm d' mc' ms').frames + 1 ≤ R.frames ∧ 8 + (nL' + 11) + (zrm d' mc' ms').locals ≤ R.locals := ⟨by show d' + 1 ≤ R.frames; omega, by show 8 + (nL' + 11) + 64 * d' ≤ R.locals; omega⟩
  have hrecv := vk_recv hAm.2.1 hi2 hS
  have hb9 : adr (1000000 + i) = adr (zrho ps cs.length nf' b0) := by rw [hb0]
  rw [hb9, ← hyc] at hrecv
  have e1 : ((Value.ref b0 :: as).map (zv (fun i => adr (zrho ps cs.length nf' i)))) = Value.ref (adr (zrho ps cs.length nf' b0)) :: as.map (zv (fun i => adr (zrho ps cs.length nf' i))) := rfl
  have e2 : (((Value.ref b0 :: as).map (zv (zrho ps cs.length nf'))).reverse ++ rest).map (zv adr) = (as.map (zv (fun i => adr (zrho ps cs.length nf' i)))).reverse ++ .ref (adr (zrho ps cs.length nf' b0)) :: rest.map (zv adr) := by
    simp only [List.map_cons, List.reverse_cons, List.append_assoc, List.map_append, List.map_reverse, List.map_map, List.singleton_append]
    congr 2
    · exact List.map_congr_left (fun v _ => zv_comp adr _ v)
  have hpre : PreV s H y'.cls (adr (zrho ps cs.length nf' b0)) (va_Pc ((Value.ref b0 :: as).map (zv (fun i => adr (zrho ps cs.length nf' i)))) (zPre D dA (fun i => adr (zrho ps cs.length nf' i)) cc H.size)) (as.map (zv (fun i => adr (zrho ps cs.length nf' i)))) :=
    ⟨zPre_blind, hrecv, fun U hU hW => zcall_pre (a := Value.ref b0 :: as) hps hnd hfar hK0 hAm hP hD hS hfree hU hW⟩
  have hsz : ls.size = nL := by rw [hl.2.choose_spec.1.1, hml]
  have h8 := zcat_sum (adr := adr) hr4
  refine zcall_go (a := (Value.ref (adr (zrho ps cs.length nf' b0)) :: as.map (zv (fun i => adr (zrho ps cs.length nf' i)))).toArray) hps hnd hfree hP hD hS hl hT X ?_ kk
  rcases hlk with hlk | hlk
  · exact va_runV (As := as.map (zv (fun i => adr (zrho ps cs.length nf' i)))) (index := idx) ⟨hx, hb, hml, hown, hts⟩ hMet ⟨callB_of np hts (zTg_cons hcode) rfl rfl rfl (hts _ hini) (hts _ hlk) hdd hroom, hts _ hinst, hts _ hsel⟩ hpre rfl (by simpa using hnp) hsz e2 (lv_room h8) hdec ⟨by omega, by omega⟩
  · exact va_runVN (As := as.map (zv (fun i => adr (zrho ps cs.length nf' i)))) (index := idx) ⟨hx, hb, hml, hown, hts⟩ hMet ⟨va_cnB np hts (zTg_cons hcode) rfl rfl rfl (hAm.1 _ hlk) (hts _ hini) hdd hroom, hts _ hinst, hts _ hsel⟩ hpre rfl (by simpa using hnp) hsz e2 (lv_room h8) hdec ⟨by omega, by omega⟩

end ZSTR
theorem zRoom0 (Z : zCtx) : zRoom Z 0 0 := ⟨Nat.zero_le _, Nat.zero_le _⟩
theorem c_J_coder {i : Nat} (hi2 : i < 2) : Ct zMJ0_coder_7d493 1 0 0 0 [.ref (1000000 + i)] ([] : List (List zE)).flatten (fun v cc => v = some (.int 0) ∧ cc = ([] : List (List zE)).flatten) := by
  refine Ct.of zMJ0_coder_7d493_ok (by decide) (Nat.le_of_ble_eq_true rfl) ?_
  intro Z hZ hR hN hE
  have hRm : zRoom Z 0 0 := zRoom0 Z
  show AW Z 0 0 0 [some (.ref (1000000 + i))] [] ([] : List (List zE)).flatten
  refine AW.gsC hZ rfl rfl rfl ?_
  refine AW.run hZ hRm [13] 400 ?_
  show (((1 : Int32) = 0 → AW Z 0 0 13 [some (.ref (1000000 + i))] [] ([] : List (List zE)).flatten) ∧ (¬ ((1 : Int32) = 0) → AW Z 0 0 7 [some (.ref (1000000 + i))] [.ref (1000000 + i)] ([] : List (List zE)).flatten))
  refine ⟨fun h => absurd h (by decide), fun _ => ?_⟩
  refine AW.gfC hi2 hZ rfl rfl rfl ?_
  refine AW.run hZ hRm [] 400 ?_
  show AW Z 0 0 14 [some (.ref (1000000 + i))] [.int 0] ([] : List (List zE)).flatten
  exact AW.iret hZ hE rfl rfl rfl rfl (Nat.le_refl 0) (Nat.le_refl 0) rfl ⟨rfl, rfl⟩
theorem c_J_isLatin1 {i : Nat} (hi2 : i < 2) : Ct zMJ0_isLatin1_aae02 1 0 0 0 [.ref (1000000 + i)] ([] : List (List zE)).flatten (fun v cc => v = some (.int 1) ∧ cc = ([] : List (List zE)).flatten) := by
  refine Ct.of zMJ0_isLatin1_aae02_ok (by decide) (Nat.le_of_ble_eq_true rfl) ?_
  intro Z hZ hR hN hE
  have hRm : zRoom Z 0 0 := zRoom0 Z
  show AW Z 0 0 0 [some (.ref (1000000 + i))] [] ([] : List (List zE)).flatten
  refine AW.gsC hZ rfl rfl rfl ?_
  refine AW.run hZ hRm [17] 400 ?_
  show (((1 : Int32) = 0 → AW Z 0 0 17 [some (.ref (1000000 + i))] [] ([] : List (List zE)).flatten) ∧ (¬ ((1 : Int32) = 0) → AW Z 0 0 7 [some (.ref (1000000 + i))] [.ref (1000000 + i)] ([] : List (List zE)).flatten))
  refine ⟨fun h => absurd h (by decide), fun _ => ?_⟩
  refine AW.gfC hi2 hZ rfl rfl rfl ?_
  refine AW.run hZ hRm [17] 400 ?_
  show ((¬ ((0 : Int32) = 0) → AW Z 0 0 17 [some (.ref (1000000 + i))] [] ([] : List (List zE)).flatten) ∧ ((0 : Int32) = 0 → AW Z 0 0 18 [some (.ref (1000000 + i))] [.int 1] ([] : List (List zE)).flatten))
  refine ⟨fun h => absurd rfl h, fun _ => ?_⟩
  exact AW.iret hZ hE rfl rfl rfl rfl (Nat.le_refl 0) (Nat.le_refl 0) rfl ⟨rfl, rfl⟩
theorem zslen_shr {i : Nat} (hi2 : i < 2) : Int32.ofNat (zslen i) >>> ((0 : Int32) &&& 31) = Int32.ofNat (zslen i) := by
  match i, hi2 with
  | 0, _ => decide
  | 1, _ => decide
theorem c_J_length {i : Nat} (hi2 : i < 2) : Ct zMJ0_length_8abf5 2 0 0 0 [.ref (1000000 + i)] ([] : List (List zE)).flatten (fun v cc => v = some (.int (Int32.ofNat (zslen i))) ∧ cc = ([] : List (List zE)).flatten) := by
  refine Ct.of zMJ0_length_8abf5_ok (by decide) (Nat.le_of_ble_eq_true rfl) ?_
  intro Z hZ hR hN hE
  have hRm : zRoom Z 0 0 := zRoom0 Z
  show AW Z 0 0 0 [some (.ref (1000000 + i))] [] ([] : List (List zE)).flatten
  refine AW.run hZ hRm [] 400 ?_
  show AW Z 0 0 1 [some (.ref (1000000 + i))] [.ref (1000000 + i)] ([] : List (List zE)).flatten
  refine AW.gfV hi2 hZ rfl rfl rfl ?_
  refine AW.alS hi2 hZ rfl rfl ?_
  refine AW.run hZ hRm [] 400 ?_
  show AW Z 0 0 6 [some (.ref (1000000 + i))] [.ref (1000000 + i), .int (Int32.ofNat (zslen i))] ([] : List (List zE)).flatten
  refine AW.callVs hi2 (ps := []) (zrho_far (by simp)) rfl hZ hR hN (c_J_coder hi2) zMJ0_coder_7d493_ok rfl rfl zK_java_lang_String_335 zV_J0_coder_7d493 rfl rfl (by decide) (Or.inl rfl) (by decide) (by decide) (by decide) (Nat.zero_le _) (Nat.zero_le _) (by simp only [List.map_cons, List.map_nil, zv, zrho_far (show ([] : List Nat).length + 0 ≤ 1000000 + i by simp)]; rfl) rfl ?_
  rintro v cc ⟨rfl, rfl⟩ -
  show AW Z 0 0 9 [some (.ref (1000000 + i))] [.int 0, .int (Int32.ofNat (zslen i))] ([] : List (List zE)).flatten
  refine AW.run hZ hRm [] 400 ?_
  show AW Z 0 0 10 [some (.ref (1000000 + i))] [.int (Int32.ofNat (zslen i) >>> ((0 : Int32) &&& 31))] ([] : List (List zE)).flatten
  rw [zslen_shr hi2]
  exact AW.iret hZ hE rfl rfl rfl rfl (Nat.le_refl 0) (Nat.le_refl 0) rfl ⟨rfl, rfl⟩
theorem c_J_Pcheck {x y : Int32} {w : Value} (hw : w = .null ∨ w = .ref 1000020) (h1 : ¬ x < 0) (h2 : x < y) : Ct zMJ3_checkIndex_8e157 1 0 0 0 [.int x, .int y, w] ([] : List (List zE)).flatten (fun v cc => v = some (.int x) ∧ cc = ([] : List (List zE)).flatten) := by
  refine Ct.of zMJ3_checkIndex_8e157_ok (by decide) (by rcases hw with rfl | rfl <;> exact Nat.le_of_ble_eq_true rfl) ?_
  intro Z hZ hR hN hE
  have hRm : zRoom Z 0 0 := zRoom0 Z
  have hen : zent 3 [.int x, .int y, w] = [some (.int x), some (.int y), some w] := by rcases hw with rfl | rfl <;> rfl
  show AW Z 0 0 0 (zent 3 [.int x, .int y, w]) [] ([] : List (List zE)).flatten
  rw [hen]
  refine AW.run hZ hRm [9] 400 ?_
  show ((x < 0 → AW Z 0 0 9 [some (.int x), some (.int y), some w] [] ([] : List (List zE)).flatten) ∧ (¬ x < 0 → ((x < y → AW Z 0 0 17 [some (.int x), some (.int y), some w] [.int x] ([] : List (List zE)).flatten) ∧ (¬ x < y → AW Z 0 0 9 [some (.int x), some (.int y), some w] [] ([] : List (List zE)).flatten))))
  refine ⟨fun h => absurd h h1, fun _ => ⟨fun _ => ?_, fun h => absurd h2 h⟩⟩
  exact AW.iret hZ hE rfl rfl rfl rfl (Nat.le_refl 0) (Nat.le_refl 0) rfl ⟨rfl, rfl⟩
theorem c_J_Scheck {x y : Int32} (h1 : ¬ x < 0) (h2 : x < y) : Ct zMJ0_checkIndex_df160 2 0 0 0 [.int x, .int y] ([] : List (List zE)).flatten (fun v cc => v = none ∧ cc = ([] : List (List zE)).flatten) := by
  refine Ct.of zMJ0_checkIndex_df160_ok (by decide) (Nat.le_of_ble_eq_true rfl) ?_
  intro Z hZ hR hN hE
  have hRm : zRoom Z 0 0 := zRoom0 Z
  show AW Z 0 0 0 [some (.int x), some (.int y)] [] ([] : List (List zE)).flatten
  refine AW.run hZ hRm [] 400 ?_
  show AW Z 0 0 2 [some (.int x), some (.int y)] [.int y, .int x] ([] : List (List zE)).flatten
  refine AW.gsF hZ rfl rfl rfl (fun w hw => ?_)
  refine AW.callS hZ hR hN (c_J_Pcheck hw h1 h2) zMJ3_checkIndex_8e157_ok rfl rfl zK_java_lang_String_1059 zV_J3_checkIndex_8e157 rfl [] rfl (by decide) (Or.inl rfl) (by decide) (by decide) (by decide) (Nat.zero_le _) (Nat.zero_le _) (by rcases hw with rfl | rfl <;> rfl) rfl ?_
  rintro v cc ⟨rfl, rfl⟩ -
  show AW Z 0 0 8 [some (.int x), some (.int y)] [.int x] ([] : List (List zE)).flatten
  refine AW.run hZ hRm [] 400 ?_
  show AW Z 0 0 9 [some (.int x), some (.int y)] [] ([] : List (List zE)).flatten
  exact AW.vret hZ hE rfl rfl rfl (Nat.le_refl 0) (Nat.le_refl 0) rfl ⟨rfl, rfl⟩
/-- the sign at k -/
def zsch (i : Nat) (x : Int32) : Int32 := ((((zsbyt i).getD x.toNatClampNeg 0 &&& 255).toUInt32 % 65536).toInt32)
theorem zsch_nar {i : Nat} (hi2 : i < 2) (x : Int32) : narrow .char (.int (zsch i x)) = .int (zsch i x) := by
  have h0 : ∀ b : Int32, b ∈ zS0 ∨ b ∈ zS1 ∨ b = 0 → narrow .char (.int (((b &&& 255).toUInt32 % 65536).toInt32)) = .int (((b &&& 255).toUInt32 % 65536).toInt32) := by
    have g0 : zS0.all (fun b => decide (narrow .char (.int (((b &&& 255).toUInt32 % 65536).toInt32)) = .int (((b &&& 255).toUInt32 % 65536).toInt32))) = true := by decide +kernel
    have g1 : zS1.all (fun b => decide (narrow .char (.int (((b &&& 255).toUInt32 % 65536).toInt32)) = .int (((b &&& 255).toUInt32 % 65536).toInt32))) = true := by decide +kernel
    intro b hb
    rcases hb with hb | hb | hb
    · exact of_decide_eq_true (List.all_eq_true.mp g0 b hb)
    · exact of_decide_eq_true (List.all_eq_true.mp g1 b hb)
    · subst hb; decide
  refine h0 _ ?_
  rw [List.getD_eq_getElem?_getD]
  match i, hi2 with
  | 0, _ =>
    cases h : (zsbyt 0)[x.toNatClampNeg]? with
    | none => exact Or.inr (Or.inr rfl)
    | some b => exact Or.inl (List.mem_of_getElem? h)
  | 1, _ =>
    cases h : (zsbyt 1)[x.toNatClampNeg]? with
    | none => exact Or.inr (Or.inr rfl)
    | some b =>
      have e1 : zsbyt 1 = zS1 := by simp only [zsbyt, List.getD_cons_succ, List.getD_cons_zero]
      rw [e1] at h
      have hm := List.mem_of_getElem? h
      generalize zS1 = L at hm ⊢
      exact Or.inr (Or.inl hm)
theorem zv_in {x : Int32} {i : Nat} (hi2 : i < 2) (h1 : ¬ x < 0) (h2 : x < Int32.ofNat (zslen i)) : vp_in x (zslen i) := by
  intro h
  rcases h with h | h
  · exact h1 h
  · have h3 : zslen i < 2 ^ 31 := by
      match i, hi2 with
      | 0, _ => decide
      | 1, _ => decide
    obtain ⟨n, hn, rfl⟩ := nI_of h1
    rw [nI_clamp hn] at h
    exact nI_nlt (a := n) (b := zslen i) h hn h2
theorem c_J_LcharAt {i : Nat} {x : Int32} (hi2 : i < 2) (h1 : ¬ x < 0) (h2 : x < Int32.ofNat (zslen i)) : Ct zMJ1_charAt_3b067 3 0 0 0 [.ref (1000010 + i), .int x] ([] : List (List zE)).flatten (fun v cc => v = some (.int (zsch i x)) ∧ cc = ([] : List (List zE)).flatten) := by
  refine Ct.of zMJ1_charAt_3b067_ok (by decide) (Nat.le_of_ble_eq_true rfl) ?_
  intro Z hZ hR hN hE
  have hRm : zRoom Z 0 0 := zRoom0 Z
  show AW Z 0 0 0 [some (.ref (1000010 + i)), some (.int x)] [] ([] : List (List zE)).flatten
  refine AW.run hZ hRm [] 400 ?_
  show AW Z 0 0 2 [some (.ref (1000010 + i)), some (.int x)] [.ref (1000010 + i), .int x] ([] : List (List zE)).flatten
  refine AW.alS hi2 hZ rfl rfl ?_
  refine AW.callS hZ hR hN (c_J_Scheck h1 h2) zMJ0_checkIndex_df160_ok rfl rfl zK_java_lang_StringLatin1_9 zV_J0_checkIndex_df160 rfl [] rfl (by decide) (Or.inl rfl) (by decide) (by decide) (by decide) (Nat.zero_le _) (Nat.zero_le _) rfl rfl ?_
  rintro v cc ⟨rfl, rfl⟩ -
  show AW Z 0 0 6 [some (.ref (1000010 + i)), some (.int x)] [] ([] : List (List zE)).flatten
  refine AW.run hZ hRm [] 400 ?_
  show AW Z 0 0 8 [some (.ref (1000010 + i)), some (.int x)] [.int x, .ref (1000010 + i)] ([] : List (List zE)).flatten
  refine AW.blS hi2 (zv_in hi2 h1 h2) hZ rfl rfl ?_
  refine AW.run hZ hRm [] 400 ?_
  show AW Z 0 0 14 [some (.ref (1000010 + i)), some (.int x)] [.int (zsch i x)] ([] : List (List zE)).flatten
  exact AW.iret hZ hE rfl rfl rfl (zsch_nar hi2 x) (Nat.le_refl 0) (Nat.le_refl 0) rfl ⟨rfl, rfl⟩
theorem c_J_charAt {i : Nat} {x : Int32} (hi2 : i < 2) (h1 : ¬ x < 0) (h2 : x < Int32.ofNat (zslen i)) : Ct zMJ0_charAt_5068e 4 0 0 0 [.ref (1000000 + i), .int x] ([] : List (List zE)).flatten (fun v cc => v = some (.int (zsch i x)) ∧ cc = ([] : List (List zE)).flatten) := by
  refine Ct.of zMJ0_charAt_5068e_ok (by decide) (Nat.le_of_ble_eq_true rfl) ?_
  intro Z hZ hR hN hE
  have hRm : zRoom Z 0 0 := zRoom0 Z
  show AW Z 0 0 0 [some (.ref (1000000 + i)), some (.int x)] [] ([] : List (List zE)).flatten
  refine AW.run hZ hRm [] 400 ?_
  show AW Z 0 0 1 [some (.ref (1000000 + i)), some (.int x)] [.ref (1000000 + i)] ([] : List (List zE)).flatten
  refine AW.callVs hi2 (ps := []) (zrho_far (by simp)) rfl hZ hR hN (c_J_isLatin1 hi2) zMJ0_isLatin1_aae02_ok rfl rfl zK_java_lang_String_492 zV_J0_isLatin1_aae02 rfl rfl (by decide) (Or.inl rfl) (by decide) (by decide) (by decide) (Nat.zero_le _) (Nat.zero_le _) (by simp only [List.map_cons, List.map_nil, zv, zrho_far (show ([] : List Nat).length + 0 ≤ 1000000 + i by simp)]; rfl) rfl ?_
  rintro v cc ⟨rfl, rfl⟩ -
  show AW Z 0 0 4 [some (.ref (1000000 + i)), some (.int x)] [.int 1] ([] : List (List zE)).flatten
  refine AW.run hZ hRm [16] 400 ?_
  show (((1 : Int32) = 0 → AW Z 0 0 16 [some (.ref (1000000 + i)), some (.int x)] [] ([] : List (List zE)).flatten) ∧ (¬ ((1 : Int32) = 0) → AW Z 0 0 8 [some (.ref (1000000 + i)), some (.int x)] [.ref (1000000 + i)] ([] : List (List zE)).flatten))
  refine ⟨fun h => absurd h (by decide), fun _ => ?_⟩
  refine AW.gfV hi2 hZ rfl rfl rfl ?_
  refine AW.run hZ hRm [] 400 ?_
  show AW Z 0 0 12 [some (.ref (1000000 + i)), some (.int x)] [.int x, .ref (1000010 + i)] ([] : List (List zE)).flatten
  refine AW.callS hZ hR hN (c_J_LcharAt hi2 h1 h2) zMJ1_charAt_3b067_ok rfl rfl zK_java_lang_String_495 zV_J1_charAt_3b067 rfl [] rfl (by decide) (Or.inl rfl) (by decide) (by decide) (by decide) (Nat.zero_le _) (Nat.zero_le _) (by simp only [List.map_cons, List.map_nil, zv, zrho_far (show ([] : List Nat).length + 0 ≤ 1000010 + i by simp)]; rfl) rfl ?_
  rintro v cc ⟨rfl, rfl⟩ -
  show AW Z 0 0 15 [some (.ref (1000000 + i)), some (.int x)] [.int (zsch i x)] ([] : List (List zE)).flatten
  exact AW.iret hZ hE rfl rfl rfl (zsch_nar hi2 x) (Nat.le_refl 0) (Nat.le_refl 0) rfl ⟨rfl, rfl⟩
theorem c_J_canEncode {c : Int32} : Ct zMJ1_canEncode_9a6ad 1 0 0 0 [.int c] ([] : List (List zE)).flatten (fun v cc => v = some (.int (if c < 0 then 0 else if 255 < c then 0 else 1)) ∧ cc = ([] : List (List zE)).flatten) := by
  refine Ct.of zMJ1_canEncode_9a6ad_ok (by decide) (Nat.le_of_ble_eq_true rfl) ?_
  intro Z hZ hR hN hE
  have hRm : zRoom Z 0 0 := zRoom0 Z
  show AW Z 0 0 0 [some (.int c)] [] ([] : List (List zE)).flatten
  refine AW.run hZ hRm [] 400 ?_
  show ((c < 0 → AW Z 0 0 16 [some (.int c)] [.int 0] ([] : List (List zE)).flatten) ∧ (¬ c < 0 → ((255 < c → AW Z 0 0 16 [some (.int c)] [.int 0] ([] : List (List zE)).flatten) ∧ (¬ 255 < c → AW Z 0 0 16 [some (.int c)] [.int 1] ([] : List (List zE)).flatten))))
  refine ⟨fun h => ?_, fun h => ⟨fun h2 => ?_, fun h2 => ?_⟩⟩
  · exact AW.iret hZ hE rfl rfl rfl rfl (Nat.le_refl 0) (Nat.le_refl 0) rfl ⟨by rw [if_pos h], rfl⟩
  · exact AW.iret hZ hE rfl rfl rfl rfl (Nat.le_refl 0) (Nat.le_refl 0) rfl ⟨by rw [if_neg h, if_pos h2], rfl⟩
  · exact AW.iret hZ hE rfl rfl rfl rfl (Nat.le_refl 0) (Nat.le_refl 0) rfl ⟨by rw [if_neg h, if_neg h2], rfl⟩
/-- where a sign stands in the first text, from the k-th on -/
def zixF (c : Int32) : List Int32 → Nat → Int32
  | [], _ => -1
  | b :: l, k => if b = c then Int32.ofNat k else zixF c l (k + 1)
theorem c_J_indexOfChar {c : Int32} : Ct zMJ1_indexOfChar_4cfef 1 0 0 0 [.ref 1000010, .int c, .int 0, .int 8] ([] : List (List zE)).flatten (fun v cc => v = some (.int (zixF c.toInt8.toInt32 zS0 0)) ∧ cc = ([] : List (List zE)).flatten) := by
  refine Ct.of zMJ1_indexOfChar_4cfef_ok (by decide) (Nat.le_of_ble_eq_true rfl) ?_
  intro Z hZ hR hN hE
  have hRm : zRoom Z 0 0 := zRoom0 Z
  have key : ∀ (l : List Int32) (k : Nat), zS0.drop k = l → k ≤ 8 → zixF c.toInt8.toInt32 zS0 0 = zixF c.toInt8.toInt32 l k → AW Z 0 0 7 [some (.ref 1000010), some (.int c), some (.int 0), some (.int 8), some (.int c.toInt8.toInt32), some (.int (Int32.ofNat k))] [] ([] : List (List zE)).flatten := by
    intro l
    induction l with
    | nil =>
      intro k hk hk8 hz
      have h8 : k = 8 := by
        have h9 := congrArg List.length hk
        simp [zS0] at h9
        omega
      subst h8
      refine AW.run hZ hRm [31] 400 ?_
      show (((8 : Int32) ≤ Int32.ofNat 8 → AW Z 0 0 31 [some (.ref 1000010), some (.int c), some (.int 0), some (.int 8), some (.int c.toInt8.toInt32), some (.int (Int32.ofNat 8))] [] ([] : List (List zE)).flatten) ∧ (¬ (8 : Int32) ≤ Int32.ofNat 8 → AW Z 0 0 16 [some (.ref 1000010), some (.int c), some (.int 0), some (.int 8), some (.int c.toInt8.toInt32), some (.int (Int32.ofNat 8))] [.int (Int32.ofNat 8), .ref 1000010] ([] : List (List zE)).flatten))
      refine ⟨fun _ => ?_, fun h => absurd (by decide) h⟩
      refine AW.run hZ hRm [] 400 ?_
      show AW Z 0 0 32 [some (.ref 1000010), some (.int c), some (.int 0), some (.int 8), some (.int c.toInt8.toInt32), some (.int (Int32.ofNat 8))] [.int (-1)] ([] : List (List zE)).flatten
      exact AW.iret hZ hE rfl rfl rfl rfl (Nat.le_refl 0) (Nat.le_refl 0) rfl ⟨by rw [hz]; rfl, rfl⟩
    | cons b l ih =>
      intro k hk hk8 hz
      have hlt : k < 8 := by
        have h9 := congrArg List.length hk
        simp [zS0] at h9
        omega
      have hb : zS0[k]? = some b := by
        have h9 : (zS0.drop k)[0]? = some b := by rw [hk]; rfl
        simpa using h9
      have hd : zS0.drop (k + 1) = l := by
        have h9 : (zS0.drop k).drop 1 = l := by rw [hk]; rfl
        rwa [List.drop_drop] at h9
      have hcl : (Int32.ofNat k).toNatClampNeg = k := nI_clamp (by omega)
      refine AW.run hZ hRm [31] 400 ?_
      show (((8 : Int32) ≤ Int32.ofNat k → AW Z 0 0 31 [some (.ref 1000010), some (.int c), some (.int 0), some (.int 8), some (.int c.toInt8.toInt32), some (.int (Int32.ofNat k))] [] ([] : List (List zE)).flatten) ∧ (¬ (8 : Int32) ≤ Int32.ofNat k → AW Z 0 0 16 [some (.ref 1000010), some (.int c), some (.int 0), some (.int 8), some (.int c.toInt8.toInt32), some (.int (Int32.ofNat k))] [.int (Int32.ofNat k), .ref 1000010] ([] : List (List zE)).flatten))
      refine ⟨fun h => absurd h (nI_ge (a := k) (b := 8) hlt (by decide)), fun _ => ?_⟩
      refine AW.blS (i := 0) (by decide) (nI_in (c := k) (N := zslen 0) hlt (by decide)) hZ rfl rfl ?_
      rw [hcl, show (zsbyt 0).getD k 0 = b by rw [List.getD_eq_getElem?_getD]; show (zS0[k]?).getD 0 = b; rw [hb]; rfl]
      refine AW.run hZ hRm [7] 400 ?_
      show ((¬ b = c.toInt8.toInt32 → AW Z 0 0 7 [some (.ref 1000010), some (.int c), some (.int 0), some (.int 8), some (.int c.toInt8.toInt32), some (.int (Int32.ofNat k + 1))] [] ([] : List (List zE)).flatten) ∧ (b = c.toInt8.toInt32 → AW Z 0 0 24 [some (.ref 1000010), some (.int c), some (.int 0), some (.int 8), some (.int c.toInt8.toInt32), some (.int (Int32.ofNat k))] [.int (Int32.ofNat k)] ([] : List (List zE)).flatten))
      refine ⟨fun h => ?_, fun h => ?_⟩
      · rw [show Int32.ofNat k + 1 = Int32.ofNat (k + 1) from (nI_succ k).symm]
        exact ih (k + 1) hd (by omega) (by rw [hz, zixF, if_neg h])
      · exact AW.iret hZ hE rfl rfl rfl rfl (Nat.le_refl 0) (Nat.le_refl 0) rfl ⟨by rw [hz, zixF, if_pos h], rfl⟩
  show AW Z 0 0 0 [some (.ref 1000010), some (.int c), some (.int 0), some (.int 8), none, none] [] ([] : List (List zE)).flatten
  refine AW.run hZ hRm [7] 400 ?_
  show AW Z 0 0 7 [some (.ref 1000010), some (.int c), some (.int 0), some (.int 8), some (.int c.toInt8.toInt32), some (.int 0)] [] ([] : List (List zE)).flatten
  exact key zS0 0 rfl (by decide) rfl
/-- SIGNS.indexOf(c) -/
def zidx (c : Int32) : Int32 := if c < 0 then -1 else if 255 < c then -1 else zixF c.toInt8.toInt32 zS0 0
theorem c_J_LindexOf {c : Int32} : Ct zMJ1_indexOf_4cfef 2 0 0 0 [.ref 1000010, .int c, .int 0, .int 8] ([] : List (List zE)).flatten (fun v cc => v = some (.int (zidx c)) ∧ cc = ([] : List (List zE)).flatten) := by
  refine Ct.of zMJ1_indexOf_4cfef_ok (by decide) (Nat.le_of_ble_eq_true rfl) ?_
  intro Z hZ hR hN hE
  have hRm : zRoom Z 0 0 := zRoom0 Z
  show AW Z 0 0 0 [some (.ref 1000010), some (.int c), some (.int 0), some (.int 8)] [] ([] : List (List zE)).flatten
  refine AW.run hZ hRm [] 400 ?_
  show AW Z 0 0 1 [some (.ref 1000010), some (.int c), some (.int 0), some (.int 8)] [.int c] ([] : List (List zE)).flatten
  refine AW.callS hZ hR hN (c_J_canEncode) zMJ1_canEncode_9a6ad_ok rfl rfl zK_java_lang_StringLatin1_88 zV_J1_canEncode_9a6ad rfl [] rfl (by decide) (Or.inl rfl) (by decide) (by decide) (by decide) (Nat.zero_le _) (Nat.zero_le _) rfl rfl ?_
  rintro v cc ⟨rfl, rfl⟩ -
  show AW Z 0 0 4 [some (.ref 1000010), some (.int c), some (.int 0), some (.int 8)] [.int (if c < 0 then 0 else if 255 < c then 0 else 1)] ([] : List (List zE)).flatten
  have fin : ∀ (hz : zidx c = -1), AW Z 0 0 4 [some (.ref 1000010), some (.int c), some (.int 0), some (.int 8)] [.int 0] ([] : List (List zE)).flatten := by
    intro hz
    refine AW.run hZ hRm [9] 400 ?_
    show ((¬ (0 : Int32) = 0 → AW Z 0 0 9 [some (.ref 1000010), some (.int c), some (.int 0), some (.int 8)] [] ([] : List (List zE)).flatten) ∧ ((0 : Int32) = 0 → AW Z 0 0 8 [some (.ref 1000010), some (.int c), some (.int 0), some (.int 8)] [.int (-1)] ([] : List (List zE)).flatten))
    refine ⟨fun h => absurd rfl h, fun _ => ?_⟩
    exact AW.iret hZ hE rfl rfl rfl rfl (Nat.le_refl 0) (Nat.le_refl 0) rfl ⟨by rw [hz], rfl⟩
  by_cases h1 : c < 0
  · rw [if_pos h1]; exact fin (by rw [zidx, if_pos h1])
  · rw [if_neg h1]
    by_cases h2 : 255 < c
    · rw [if_pos h2]; exact fin (by rw [zidx, if_neg h1, if_pos h2])
    · rw [if_neg h2]
      refine AW.run hZ hRm [9] 400 ?_
      show ((¬ (1 : Int32) = 0 → AW Z 0 0 9 [some (.ref 1000010), some (.int c), some (.int 0), some (.int 8)] [] ([] : List (List zE)).flatten) ∧ ((1 : Int32) = 0 → AW Z 0 0 8 [some (.ref 1000010), some (.int c), some (.int 0), some (.int 8)] [.int (-1)] ([] : List (List zE)).flatten))
      refine ⟨fun _ => ?_, fun h => absurd h (by decide)⟩
      refine AW.run hZ hRm [] 400 ?_
      show AW Z 0 0 17 [some (.ref 1000010), some (.int c), some (.int (if (0 : Int32) < 0 then 0 else 0)), some (.int 8)] [.ref 1000010, .int 8] ([] : List (List zE)).flatten
      refine AW.alS (i := 0) (by decide) hZ rfl rfl ?_
      refine AW.run hZ hRm [27, 29] 400 ?_
      show (((if (0 : Int32) < 0 then (0 : Int32) else 0) < (if (Int32.ofNat (zslen 0)) < 8 then (Int32.ofNat (zslen 0)) else 8) → AW Z 0 0 29 [some (.ref 1000010), some (.int c), some (.int (if (0 : Int32) < 0 then 0 else 0)), some (.int (if (Int32.ofNat (zslen 0)) < 8 then (Int32.ofNat (zslen 0)) else 8))] [] ([] : List (List zE)).flatten) ∧ (¬ (if (0 : Int32) < 0 then (0 : Int32) else 0) < (if (Int32.ofNat (zslen 0)) < 8 then (Int32.ofNat (zslen 0)) else 8) → AW Z 0 0 27 [some (.ref 1000010), some (.int c), some (.int (if (0 : Int32) < 0 then 0 else 0)), some (.int (if (Int32.ofNat (zslen 0)) < 8 then (Int32.ofNat (zslen 0)) else 8))] [] ([] : List (List zE)).flatten))
      rw [show (if (0 : Int32) < 0 then (0 : Int32) else 0) = 0 by decide, show (if (Int32.ofNat (zslen 0)) < 8 then (Int32.ofNat (zslen 0)) else 8) = 8 by decide]
      refine ⟨fun _ => ?_, fun h => absurd (by decide) h⟩
      refine AW.run hZ hRm [] 400 ?_
      show AW Z 0 0 33 [some (.ref 1000010), some (.int c), some (.int 0), some (.int 8)] [.int 8, .int 0, .int c, .ref 1000010] ([] : List (List zE)).flatten
      refine AW.callS hZ hR hN (c_J_indexOfChar (c := c)) zMJ1_indexOfChar_4cfef_ok rfl rfl zK_java_lang_StringLatin1_95 zV_J1_indexOfChar_4cfef rfl [] rfl (by decide) (Or.inl rfl) (by decide) (by decide) (by decide) (Nat.zero_le _) (Nat.zero_le _) rfl rfl ?_
      rintro v cc ⟨rfl, rfl⟩ -
      show AW Z 0 0 36 [some (.ref 1000010), some (.int c), some (.int 0), some (.int 8)] [.int (zixF c.toInt8.toInt32 zS0 0)] ([] : List (List zE)).flatten
      exact AW.iret hZ hE rfl rfl rfl rfl (Nat.le_refl 0) (Nat.le_refl 0) rfl ⟨by rw [zidx, if_neg h1, if_neg h2], rfl⟩
theorem c_J_indexOf2 {c : Int32} : Ct zMJ0_indexOf_7cf53 3 0 0 0 [.ref 1000000, .int c, .int 0] ([] : List (List zE)).flatten (fun v cc => v = some (.int (zidx c)) ∧ cc = ([] : List (List zE)).flatten) := by
  refine Ct.of zMJ0_indexOf_7cf53_ok (by decide) (Nat.le_of_ble_eq_true rfl) ?_
  intro Z hZ hR hN hE
  have hRm : zRoom Z 0 0 := zRoom0 Z
  have hi2 : 0 < 2 := by decide
  show AW Z 0 0 0 [some (.ref 1000000), some (.int c), some (.int 0)] [] ([] : List (List zE)).flatten
  refine AW.run hZ hRm [] 400 ?_
  show AW Z 0 0 1 [some (.ref 1000000), some (.int c), some (.int 0)] [.ref 1000000] ([] : List (List zE)).flatten
  refine AW.callVs (i := 0) hi2 (ps := []) rfl rfl hZ hR hN (c_J_isLatin1 hi2) zMJ0_isLatin1_aae02_ok rfl rfl zK_java_lang_String_492 zV_J0_isLatin1_aae02 rfl rfl (by decide) (Or.inl rfl) (by decide) (by decide) (by decide) (Nat.zero_le _) (Nat.zero_le _) rfl rfl ?_
  rintro v cc ⟨rfl, rfl⟩ -
  show AW Z 0 0 4 [some (.ref 1000000), some (.int c), some (.int 0)] [.int 1] ([] : List (List zE)).flatten
  refine AW.run hZ hRm [23] 400 ?_
  show (((1 : Int32) = 0 → AW Z 0 0 23 [some (.ref 1000000), some (.int c), some (.int 0)] [] ([] : List (List zE)).flatten) ∧ (¬ ((1 : Int32) = 0) → AW Z 0 0 8 [some (.ref 1000000), some (.int c), some (.int 0)] [.ref 1000000] ([] : List (List zE)).flatten))
  refine ⟨fun h => absurd h (by decide), fun _ => ?_⟩
  refine AW.gfV (i := 0) hi2 hZ rfl rfl rfl ?_
  refine AW.run hZ hRm [] 400 ?_
  show AW Z 0 0 14 [some (.ref 1000000), some (.int c), some (.int 0)] [.ref 1000000, .int 0, .int c, .ref 1000010] ([] : List (List zE)).flatten
  refine AW.callVs (i := 0) hi2 (ps := []) rfl rfl hZ hR hN (c_J_length hi2) zMJ0_length_8abf5_ok rfl rfl zK_java_lang_String_505 zV_J0_length_8abf5 rfl rfl (by decide) (Or.inl rfl) (by decide) (by decide) (by decide) (Nat.zero_le _) (Nat.zero_le _) rfl rfl ?_
  rintro v cc ⟨rfl, rfl⟩ -
  show AW Z 0 0 17 [some (.ref 1000000), some (.int c), some (.int 0)] [.int 8, .int 0, .int c, .ref 1000010] ([] : List (List zE)).flatten
  refine AW.callS hZ hR hN (c_J_LindexOf (c := c)) zMJ1_indexOf_4cfef_ok rfl rfl zK_java_lang_String_637 zV_J1_indexOf_4cfef rfl [] rfl (by decide) (Or.inl rfl) (by decide) (by decide) (by decide) (Nat.zero_le _) (Nat.zero_le _) rfl rfl ?_
  rintro v cc ⟨rfl, rfl⟩ -
  show AW Z 0 0 20 [some (.ref 1000000), some (.int c), some (.int 0)] [.int (zidx c)] ([] : List (List zE)).flatten
  refine AW.run hZ hRm [] 400 ?_
  show AW Z 0 0 36 [some (.ref 1000000), some (.int c), some (.int 0)] [.int (zidx c)] ([] : List (List zE)).flatten
  exact AW.iret hZ hE rfl rfl rfl rfl (Nat.le_refl 0) (Nat.le_refl 0) rfl ⟨rfl, rfl⟩
theorem c_J_indexOf {c : Int32} : Ct zMJ0_indexOf_0f7a4 4 0 0 0 [.ref 1000000, .int c] ([] : List (List zE)).flatten (fun v cc => v = some (.int (zidx c)) ∧ cc = ([] : List (List zE)).flatten) := by
  refine Ct.of zMJ0_indexOf_0f7a4_ok (by decide) (Nat.le_of_ble_eq_true rfl) ?_
  intro Z hZ hR hN hE
  have hRm : zRoom Z 0 0 := zRoom0 Z
  have hi2 : 0 < 2 := by decide
  show AW Z 0 0 0 [some (.ref 1000000), some (.int c)] [] ([] : List (List zE)).flatten
  refine AW.run hZ hRm [] 400 ?_
  show AW Z 0 0 3 [some (.ref 1000000), some (.int c)] [.int 0, .int c, .ref 1000000] ([] : List (List zE)).flatten
  refine AW.callVs (i := 0) hi2 (ps := []) rfl rfl hZ hR hN (c_J_indexOf2 (c := c)) zMJ0_indexOf_7cf53_ok rfl rfl zK_java_lang_String_633 zV_J0_indexOf_7cf53 rfl rfl (by decide) (Or.inl rfl) (by decide) (by decide) (by decide) (Nat.zero_le _) (Nat.zero_le _) rfl rfl ?_
  rintro v cc ⟨rfl, rfl⟩ -
  show AW Z 0 0 6 [some (.ref 1000000), some (.int c)] [.int (zidx c)] ([] : List (List zE)).flatten
  exact AW.iret hZ hE rfl rfl rfl rfl (Nat.le_refl 0) (Nat.le_refl 0) rfl ⟨rfl, rfl⟩
