def f_Year_readLine (N : Nat) (v0 : VYear) (v1 : VTape) (v2 : VTown) (v3 : VLaws) : Option (Int32 × (Nat → Int32) × (Nat → Int32) × (Nat → Int32) × Int32 × Int32) := ((f_Tape_token N v1).bind (fun q1 => (if (q1 = 132) then (if ((Year_lines v0) < 0) then ((f_Tape_wrong N v1 5).bind (fun q4 => (some ((Year_lines v0), (Year_words v0), (Year_first v0), (Year_second v0), (Tape_at v1), q4)))) else (if ((Year_lines v0) < 40) then ((f_Tape_advance N v1).bind (fun q7 => (if ((Year_lines v0) < 0 ∨ 40 ≤ Int32.toNatClampNeg (Year_lines v0)) then none else (if (q1 = 140) then ((f_Tape_readNumber N (Tape_at_s v1 q7) 9999).bind (fun q89 => (zlet ((upd (Year_words v0) (Int32.toNatClampNeg (Year_lines v0)) q1) : (Nat → Int32)) (fun z90 => (if ((Year_lines v0) < 0 ∨ 40 ≤ Int32.toNatClampNeg (Year_lines v0)) then none else (if (q1 = 139) then ((f_Tape_readNumber N (Tape_s_at_fault v1 q89.2.1 q89.2.2) 999).bind (fun q106 => (zlet ((upd (Year_first v0) (Int32.toNatClampNeg (Year_lines v0)) q89.1) : (Nat → Int32)) (fun z107 => (if ((Year_lines v0) < 0 ∨ 40 ≤ Int32.toNatClampNeg (Year_lines v0)) then none else ((f_Tape_expect N (Tape_s_at_fault v1 q106.2.1 q106.2.2) 59).bind (fun q108 => (zlet ((upd (Year_second v0) (Int32.toNatClampNeg (Year_lines v0)) q106.1) : (Nat → Int32)) (fun z109 => (some (((Year_lines v0) + 1), z90, z107, z109, q108.1, q108.2))))))))))) else (if (q1 = 141) then (if ((Year_lines v0) < 0 ∨ 40 ≤ Int32.toNatClampNeg (Year_lines v0)) then none else ((f_Year_readOther N (Tape_s_at_fault v1 q89.2.1 q89.2.2) v2 v3 ((upd (Year_first v0) (Int32.toNatClampNeg (Year_lines v0)) q89.1) (Int32.toNatClampNeg (Year_lines v0)))).bind (fun q98 => (zlet ((upd (Year_first v0) (Int32.toNatClampNeg (Year_lines v0)) q89.1) : (Nat → Int32)) (fun z99 => (if ((Year_lines v0) < 0 ∨ 40 ≤ Int32.toNatClampNeg (Year_lines v0)) then none else ((f_Tape_expect N (Tape_s_at_fault v1 q98.2.1 q98.2.2) 59).bind (fun q100 => (zlet ((upd (Year_second v0) (Int32.toNatClampNeg (Year_lines v0)) q98.1) : (Nat → Int32)) (fun z101 => (some (((Year_lines v0) + 1), z90, z99, z101, q100.1, q100.2)))))))))))) else (if ((Year_lines v0) < 0 ∨ 40 ≤ Int32.toNatClampNeg (Year_lines v0)) then none else ((f_Tape_expect N (Tape_s_at_fault v1 q89.2.1 q89.2.2) 59).bind (fun q93 => (zlet ((upd (Year_first v0) (Int32.toNatClampNeg (Year_lines v0)) q89.1) : (Nat → Int32)) (fun z94 => (zlet ((upd (Year_second v0) (Int32.toNatClampNeg (Year_lines v0)) (-1)) : (Nat → Int32)) (fun z95 => (some (((Year_lines v0) + 1), z90, z94, z95, q93.1, q93.2)))))))))))))))) else (if (q1 = 139) then ((f_Tape_readPerson N (Tape_at_s v1 q7) v2 v3).bind (fun q10 => (zlet ((upd (Year_words v0) (Int32.toNatClampNeg (Year_lines v0)) q1) : (Nat → Int32)) (fun z11 => (if ((Year_lines v0) < 0 ∨ 40 ≤ Int32.toNatClampNeg (Year_lines v0)) then none else (if (q1 = 139) then ((f_Tape_readNumber N (Tape_s_at_fault v1 q10.2.1 q10.2.2) 999).bind (fun q27 => (zlet ((upd (Year_first v0) (Int32.toNatClampNeg (Year_lines v0)) q10.1) : (Nat → Int32)) (fun z28 => (if ((Year_lines v0) < 0 ∨ 40 ≤ Int32.toNatClampNeg (Year_lines v0)) then none else ((f_Tape_expect N (Tape_s_at_fault v1 q27.2.1 q27.2.2) 59).bind (fun q29 => (zlet ((upd (Year_second v0) (Int32.toNatClampNeg (Year_lines v0)) q27.1) : (Nat → Int32)) (fun z30 => (some (((Year_lines v0) + 1), z11, z28, z30, q29.1, q29.2))))))))))) else (if (q1 = 141) then (if ((Year_lines v0) < 0 ∨ 40 ≤ Int32.toNatClampNeg (Year_lines v0)) then none else ((f_Year_readOther N (Tape_s_at_fault v1 q10.2.1 q10.2.2) v2 v3 ((upd (Year_first v0) (Int32.toNatClampNeg (Year_lines v0)) q10.1) (Int32.toNatClampNeg (Year_lines v0)))).bind (fun q19 => (zlet ((upd (Year_first v0) (Int32.toNatClampNeg (Year_lines v0)) q10.1) : (Nat → Int32)) (fun z20 => (if ((Year_lines v0) < 0 ∨ 40 ≤ Int32.toNatClampNeg (Year_lines v0)) then none else ((f_Tape_expect N (Tape_s_at_fault v1 q19.2.1 q19.2.2) 59).bind (fun q21 => (zlet ((upd (Year_second v0) (Int32.toNatClampNeg (Year_lines v0)) q19.1) : (Nat → Int32)) (fun z22 => (some (((Year_lines v0) + 1), z11, z20, z22, q21.1, q21.2)))))))))))) else (if ((Year_lines v0) < 0 ∨ 40 ≤ Int32.toNatClampNeg (Year_lines v0)) then none else ((f_Tape_expect N (Tape_s_at_fault v1 q10.2.1 q10.2.2) 59).bind (fun q14 => (zlet ((upd (Year_first v0) (Int32.toNatClampNeg (Year_lines v0)) q10.1) : (Nat → Int32)) (fun z15 => (zlet ((upd (Year_second v0) (Int32.toNatClampNeg (Year_lines v0)) (-1)) : (Nat → Int32)) (fun z16 => (some (((Year_lines v0) + 1), z11, z15, z16, q14.1, q14.2)))))))))))))))) else (if (q1 = 141) then ((f_Tape_readPerson N (Tape_at_s v1 q7) v2 v3).bind (fun q63 => (zlet ((upd (Year_words v0) (Int32.toNatClampNeg (Year_lines v0)) q1) : (Nat → Int32)) (fun z64 => (if ((Year_lines v0) < 0 ∨ 40 ≤ Int32.toNatClampNeg (Year_lines v0)) then none else (if (q1 = 139) then ((f_Tape_readNumber N (Tape_s_at_fault v1 q63.2.1 q63.2.2) 999).bind (fun q80 => (zlet ((upd (Year_first v0) (Int32.toNatClampNeg (Year_lines v0)) q63.1) : (Nat → Int32)) (fun z81 => (if ((Year_lines v0) < 0 ∨ 40 ≤ Int32.toNatClampNeg (Year_lines v0)) then none else ((f_Tape_expect N (Tape_s_at_fault v1 q80.2.1 q80.2.2) 59).bind (fun q82 => (zlet ((upd (Year_second v0) (Int32.toNatClampNeg (Year_lines v0)) q80.1) : (Nat → Int32)) (fun z83 => (some (((Year_lines v0) + 1), z64, z81, z83, q82.1, q82.2))))))))))) else (if (q1 = 141) then (if ((Year_lines v0) < 0 ∨ 40 ≤ Int32.toNatClampNeg (Year_lines v0)) then none else ((f_Year_readOther N (Tape_s_at_fault v1 q63.2.1 q63.2.2) v2 v3 ((upd (Year_first v0) (Int32.toNatClampNeg (Year_lines v0)) q63.1) (Int32.toNatClampNeg (Year_lines v0)))).bind (fun q72 => (zlet ((upd (Year_first v0) (Int32.toNatClampNeg (Year_lines v0)) q63.1) : (Nat → Int32)) (fun z73 => (if ((Year_lines v0) < 0 ∨ 40 ≤ Int32.toNatClampNeg (Year_lines v0)) then none else ((f_Tape_expect N (Tape_s_at_fault v1 q72.2.1 q72.2.2) 59).bind (fun q74 => (zlet ((upd (Year_second v0) (Int32.toNatClampNeg (Year_lines v0)) q72.1) : (Nat → Int32)) (fun z75 => (some (((Year_lines v0) + 1), z64, z73, z75, q74.1, q74.2)))))))))))) else (if ((Year_lines v0) < 0 ∨ 40 ≤ Int32.toNatClampNeg (Year_lines v0)) then none else ((f_Tape_expect N (Tape_s_at_fault v1 q63.2.1 q63.2.2) 59).bind (fun q67 => (zlet ((upd (Year_first v0) (Int32.toNatClampNeg (Year_lines v0)) q63.1) : (Nat → Int32)) (fun z68 => (zlet ((upd (Year_second v0) (Int32.toNatClampNeg (Year_lines v0)) (-1)) : (Nat → Int32)) (fun z69 => (some (((Year_lines v0) + 1), z64, z68, z69, q67.1, q67.2)))))))))))))))) else (if ((Year_lines v0) < 0 ∨ 40 ≤ Int32.toNatClampNeg (Year_lines v0)) then none else (if (q1 = 139) then ((f_Tape_readNumber N (Tape_at_s v1 q7) 999).bind (fun q54 => (zlet ((upd (Year_first v0) (Int32.toNatClampNeg (Year_lines v0)) (-1)) : (Nat → Int32)) (fun z55 => (zlet ((upd (Year_words v0) (Int32.toNatClampNeg (Year_lines v0)) q1) : (Nat → Int32)) (fun z56 => (if ((Year_lines v0) < 0 ∨ 40 ≤ Int32.toNatClampNeg (Year_lines v0)) then none else ((f_Tape_expect N (Tape_s_at_fault v1 q54.2.1 q54.2.2) 59).bind (fun q57 => (zlet ((upd (Year_second v0) (Int32.toNatClampNeg (Year_lines v0)) q54.1) : (Nat → Int32)) (fun z58 => (some (((Year_lines v0) + 1), z56, z55, z58, q57.1, q57.2))))))))))))) else (if (q1 = 141) then (if ((Year_lines v0) < 0 ∨ 40 ≤ Int32.toNatClampNeg (Year_lines v0)) then none else ((f_Year_readOther N (Tape_at_s v1 q7) v2 v3 ((upd (Year_first v0) (Int32.toNatClampNeg (Year_lines v0)) (-1)) (Int32.toNatClampNeg (Year_lines v0)))).bind (fun q45 => (zlet ((upd (Year_first v0) (Int32.toNatClampNeg (Year_lines v0)) (-1)) : (Nat → Int32)) (fun z46 => (zlet ((upd (Year_words v0) (Int32.toNatClampNeg (Year_lines v0)) q1) : (Nat → Int32)) (fun z47 => (if ((Year_lines v0) < 0 ∨ 40 ≤ Int32.toNatClampNeg (Year_lines v0)) then none else ((f_Tape_expect N (Tape_s_at_fault v1 q45.2.1 q45.2.2) 59).bind (fun q48 => (zlet ((upd (Year_second v0) (Int32.toNatClampNeg (Year_lines v0)) q45.1) : (Nat → Int32)) (fun z49 => (some (((Year_lines v0) + 1), z47, z46, z49, q48.1, q48.2)))))))))))))) else (if ((Year_lines v0) < 0 ∨ 40 ≤ Int32.toNatClampNeg (Year_lines v0)) then none else ((f_Tape_expect N (Tape_at_s v1 q7) 59).bind (fun q39 => (zlet ((upd (Year_first v0) (Int32.toNatClampNeg (Year_lines v0)) (-1)) : (Nat → Int32)) (fun z40 => (zlet ((upd (Year_second v0) (Int32.toNatClampNeg (Year_lines v0)) (-1)) : (Nat → Int32)) (fun z41 => (zlet ((upd (Year_words v0) (Int32.toNatClampNeg (Year_lines v0)) q1) : (Nat → Int32)) (fun z42 => (some (((Year_lines v0) + 1), z42, z40, z41, q39.1, q39.2)))))))))))))))))))) else ((f_Tape_wrong N v1 5).bind (fun q117 => (some ((Year_lines v0), (Year_words v0), (Year_first v0), (Year_second v0), (Tape_at v1), q117)))))) else (if (q1 < 139) then ((f_Tape_wrong N v1 1).bind (fun q120 => (some ((Year_lines v0), (Year_words v0), (Year_first v0), (Year_second v0), (Tape_at v1), q120)))) else (if (q1 ≤ 142) then (if ((Year_lines v0) < 0) then ((f_Tape_wrong N v1 5).bind (fun q124 => (some ((Year_lines v0), (Year_words v0), (Year_first v0), (Year_second v0), (Tape_at v1), q124)))) else (if ((Year_lines v0) < 40) then ((f_Tape_advance N v1).bind (fun q127 => (if ((Year_lines v0) < 0 ∨ 40 ≤ Int32.toNatClampNeg (Year_lines v0)) then none else (if (q1 = 140) then ((f_Tape_readNumber N (Tape_at_s v1 q127) 9999).bind (fun q209 => (zlet ((upd (Year_words v0) (Int32.toNatClampNeg (Year_lines v0)) q1) : (Nat → Int32)) (fun z210 => (if ((Year_lines v0) < 0 ∨ 40 ≤ Int32.toNatClampNeg (Year_lines v0)) then none else (if (q1 = 139) then ((f_Tape_readNumber N (Tape_s_at_fault v1 q209.2.1 q209.2.2) 999).bind (fun q226 => (zlet ((upd (Year_first v0) (Int32.toNatClampNeg (Year_lines v0)) q209.1) : (Nat → Int32)) (fun z227 => (if ((Year_lines v0) < 0 ∨ 40 ≤ Int32.toNatClampNeg (Year_lines v0)) then none else ((f_Tape_expect N (Tape_s_at_fault v1 q226.2.1 q226.2.2) 59).bind (fun q228 => (zlet ((upd (Year_second v0) (Int32.toNatClampNeg (Year_lines v0)) q226.1) : (Nat → Int32)) (fun z229 => (some (((Year_lines v0) + 1), z210, z227, z229, q228.1, q228.2))))))))))) else (if (q1 = 141) then (if ((Year_lines v0) < 0 ∨ 40 ≤ Int32.toNatClampNeg (Year_lines v0)) then none else ((f_Year_readOther N (Tape_s_at_fault v1 q209.2.1 q209.2.2) v2 v3 ((upd (Year_first v0) (Int32.toNatClampNeg (Year_lines v0)) q209.1) (Int32.toNatClampNeg (Year_lines v0)))).bind (fun q218 => (zlet ((upd (Year_first v0) (Int32.toNatClampNeg (Year_lines v0)) q209.1) : (Nat → Int32)) (fun z219 => (if ((Year_lines v0) < 0 ∨ 40 ≤ Int32.toNatClampNeg (Year_lines v0)) then none else ((f_Tape_expect N (Tape_s_at_fault v1 q218.2.1 q218.2.2) 59).bind (fun q220 => (zlet ((upd (Year_second v0) (Int32.toNatClampNeg (Year_lines v0)) q218.1) : (Nat → Int32)) (fun z221 => (some (((Year_lines v0) + 1), z210, z219, z221, q220.1, q220.2)))))))))))) else (if ((Year_lines v0) < 0 ∨ 40 ≤ Int32.toNatClampNeg (Year_lines v0)) then none else ((f_Tape_expect N (Tape_s_at_fault v1 q209.2.1 q209.2.2) 59).bind (fun q213 => (zlet ((upd (Year_first v0) (Int32.toNatClampNeg (Year_lines v0)) q209.1) : (Nat → Int32)) (fun z214 => (zlet ((upd (Year_second v0) (Int32.toNatClampNeg (Year_lines v0)) (-1)) : (Nat → Int32)) (fun z215 => (some (((Year_lines v0) + 1), z210, z214, z215, q213.1, q213.2)))))))))))))))) else (if (q1 = 139) then ((f_Tape_readPerson N (Tape_at_s v1 q127) v2 v3).bind (fun q130 => (zlet ((upd (Year_words v0) (Int32.toNatClampNeg (Year_lines v0)) q1) : (Nat → Int32)) (fun z131 => (if ((Year_lines v0) < 0 ∨ 40 ≤ Int32.toNatClampNeg (Year_lines v0)) then none else (if (q1 = 139) then ((f_Tape_readNumber N (Tape_s_at_fault v1 q130.2.1 q130.2.2) 999).bind (fun q147 => (zlet ((upd (Year_first v0) (Int32.toNatClampNeg (Year_lines v0)) q130.1) : (Nat → Int32)) (fun z148 => (if ((Year_lines v0) < 0 ∨ 40 ≤ Int32.toNatClampNeg (Year_lines v0)) then none else ((f_Tape_expect N (Tape_s_at_fault v1 q147.2.1 q147.2.2) 59).bind (fun q149 => (zlet ((upd (Year_second v0) (Int32.toNatClampNeg (Year_lines v0)) q147.1) : (Nat → Int32)) (fun z150 => (some (((Year_lines v0) + 1), z131, z148, z150, q149.1, q149.2))))))))))) else (if (q1 = 141) then (if ((Year_lines v0) < 0 ∨ 40 ≤ Int32.toNatClampNeg (Year_lines v0)) then none else ((f_Year_readOther N (Tape_s_at_fault v1 q130.2.1 q130.2.2) v2 v3 ((upd (Year_first v0) (Int32.toNatClampNeg (Year_lines v0)) q130.1) (Int32.toNatClampNeg (Year_lines v0)))).bind (fun q139 => (zlet ((upd (Year_first v0) (Int32.toNatClampNeg (Year_lines v0)) q130.1) : (Nat → Int32)) (fun z140 => (if ((Year_lines v0) < 0 ∨ 40 ≤ Int32.toNatClampNeg (Year_lines v0)) then none else ((f_Tape_expect N (Tape_s_at_fault v1 q139.2.1 q139.2.2) 59).bind (fun q141 => (zlet ((upd (Year_second v0) (Int32.toNatClampNeg (Year_lines v0)) q139.1) : (Nat → Int32)) (fun z142 => (some (((Year_lines v0) + 1), z131, z140, z142, q141.1, q141.2)))))))))))) else (if ((Year_lines v0) < 0 ∨ 40 ≤ Int32.toNatClampNeg (Year_lines v0)) then none else ((f_Tape_expect N (Tape_s_at_fault v1 q130.2.1 q130.2.2) 59).bind (fun q134 => (zlet ((upd (Year_first v0) (Int32.toNatClampNeg (Year_lines v0)) q130.1) : (Nat → Int32)) (fun z135 => (zlet ((upd (Year_second v0) (Int32.toNatClampNeg (Year_lines v0)) (-1)) : (Nat → Int32)) (fun z136 => (some (((Year_lines v0) + 1), z131, z135, z136, q134.1, q134.2)))))))))))))))) else (if (q1 = 141) then ((f_Tape_readPerson N (Tape_at_s v1 q127) v2 v3).bind (fun q183 => (zlet ((upd (Year_words v0) (Int32.toNatClampNeg (Year_lines v0)) q1) : (Nat → Int32)) (fun z184 => (if ((Year_lines v0) < 0 ∨ 40 ≤ Int32.toNatClampNeg (Year_lines v0)) then none else (if (q1 = 139) then ((f_Tape_readNumber N (Tape_s_at_fault v1 q183.2.1 q183.2.2) 999).bind (fun q200 => (zlet ((upd (Year_first v0) (Int32.toNatClampNeg (Year_lines v0)) q183.1) : (Nat → Int32)) (fun z201 => (if ((Year_lines v0) < 0 ∨ 40 ≤ Int32.toNatClampNeg (Year_lines v0)) then none else ((f_Tape_expect N (Tape_s_at_fault v1 q200.2.1 q200.2.2) 59).bind (fun q202 => (zlet ((upd (Year_second v0) (Int32.toNatClampNeg (Year_lines v0)) q200.1) : (Nat → Int32)) (fun z203 => (some (((Year_lines v0) + 1), z184, z201, z203, q202.1, q202.2))))))))))) else (if (q1 = 141) then (if ((Year_lines v0) < 0 ∨ 40 ≤ Int32.toNatClampNeg (Year_lines v0)) then none else ((f_Year_readOther N (Tape_s_at_fault v1 q183.2.1 q183.2.2) v2 v3 ((upd (Year_first v0) (Int32.toNatClampNeg (Year_lines v0)) q183.1) (Int32.toNatClampNeg (Year_lines v0)))).bind (fun q192 => (zlet ((upd (Year_first v0) (Int32.toNatClampNeg (Year_lines v0)) q183.1) : (Nat → Int32)) (fun z193 => (if ((Year_lines v0) < 0 ∨ 40 ≤ Int32.toNatClampNeg (Year_lines v0)) then none else ((f_Tape_expect N (Tape_s_at_fault v1 q192.2.1 q192.2.2) 59).bind (fun q194 => (zlet ((upd (Year_second v0) (Int32.toNatClampNeg (Year_lines v0)) q192.1) : (Nat → Int32)) (fun z195 => (some (((Year_lines v0) + 1), z184, z193, z195, q194.1, q194.2)))))))))))) else (if ((Year_lines v0) < 0 ∨ 40 ≤ Int32.toNatClampNeg (Year_lines v0)) then none else ((f_Tape_expect N (Tape_s_at_fault v1 q183.2.1 q183.2.2) 59).bind (fun q187 => (zlet ((upd (Year_first v0) (Int32.toNatClampNeg (Year_lines v0)) q183.1) : (Nat → Int32)) (fun z188 => (zlet ((upd (Year_second v0) (Int32.toNatClampNeg (Year_lines v0)) (-1)) : (Nat → Int32)) (fun z189 => (some (((Year_lines v0) + 1), z184, z188, z189, q187.1, q187.2)))))))))))))))) else (if ((Year_lines v0) < 0 ∨ 40 ≤ Int32.toNatClampNeg (Year_lines v0)) then none else (if (q1 = 139) then ((f_Tape_readNumber N (Tape_at_s v1 q127) 999).bind (fun q174 => (zlet ((upd (Year_first v0) (Int32.toNatClampNeg (Year_lines v0)) (-1)) : (Nat → Int32)) (fun z175 => (zlet ((upd (Year_words v0) (Int32.toNatClampNeg (Year_lines v0)) q1) : (Nat → Int32)) (fun z176 => (if ((Year_lines v0) < 0 ∨ 40 ≤ Int32.toNatClampNeg (Year_lines v0)) then none else ((f_Tape_expect N (Tape_s_at_fault v1 q174.2.1 q174.2.2) 59).bind (fun q177 => (zlet ((upd (Year_second v0) (Int32.toNatClampNeg (Year_lines v0)) q174.1) : (Nat → Int32)) (fun z178 => (some (((Year_lines v0) + 1), z176, z175, z178, q177.1, q177.2))))))))))))) else (if (q1 = 141) then (if ((Year_lines v0) < 0 ∨ 40 ≤ Int32.toNatClampNeg (Year_lines v0)) then none else ((f_Year_readOther N (Tape_at_s v1 q127) v2 v3 ((upd (Year_first v0) (Int32.toNatClampNeg (Year_lines v0)) (-1)) (Int32.toNatClampNeg (Year_lines v0)))).bind (fun q165 => (zlet ((upd (Year_first v0) (Int32.toNatClampNeg (Year_lines v0)) (-1)) : (Nat → Int32)) (fun z166 => (zlet ((upd (Year_words v0) (Int32.toNatClampNeg (Year_lines v0)) q1) : (Nat → Int32)) (fun z167 => (if ((Year_lines v0) < 0 ∨ 40 ≤ Int32.toNatClampNeg (Year_lines v0)) then none else ((f_Tape_expect N (Tape_s_at_fault v1 q165.2.1 q165.2.2) 59).bind (fun q168 => (zlet ((upd (Year_second v0) (Int32.toNatClampNeg (Year_lines v0)) q165.1) : (Nat → Int32)) (fun z169 => (some (((Year_lines v0) + 1), z167, z166, z169, q168.1, q168.2)))))))))))))) else (if ((Year_lines v0) < 0 ∨ 40 ≤ Int32.toNatClampNeg (Year_lines v0)) then none else ((f_Tape_expect N (Tape_at_s v1 q127) 59).bind (fun q159 => (zlet ((upd (Year_first v0) (Int32.toNatClampNeg (Year_lines v0)) (-1)) : (Nat → Int32)) (fun z160 => (zlet ((upd (Year_second v0) (Int32.toNatClampNeg (Year_lines v0)) (-1)) : (Nat → Int32)) (fun z161 => (zlet ((upd (Year_words v0) (Int32.toNatClampNeg (Year_lines v0)) q1) : (Nat → Int32)) (fun z162 => (some (((Year_lines v0) + 1), z162, z160, z161, q159.1, q159.2)))))))))))))))))))) else ((f_Tape_wrong N v1 5).bind (fun q237 => (some ((Year_lines v0), (Year_words v0), (Year_first v0), (Year_second v0), (Tape_at v1), q237)))))) else ((f_Tape_wrong N v1 1).bind (fun q239 => (some ((Year_lines v0), (Year_words v0), (Year_first v0), (Year_second v0), (Tape_at v1), q239)))))))))
set_option maxRecDepth 20000 in
set_option maxHeartbeats 4000000 in
theorem c_Year_readLine (N : Nat) (v0 : VYear) (v1 : VTape) (v2 : VTown) (v3 : VLaws) (R : Int32 × (Nat → Int32) × (Nat → Int32) × (Nat → Int32) × Int32 × Int32) (hf : f_Year_readLine N v0 v1 v2 v3 = some R) : Ct zMX10_readLine 5 0 0 0 [.ref 0, .ref 4, .ref 9] ([kYear 0 v0, kTape 4 v1, kTown 9 17 v2, kLaws 17 v3] : List (List zE)).flatten (fun v cc => v = none ∧ cc = ([kYear 0 (Year_s_lines_words_first_second v0 R.1 R.2.1 R.2.2.1 R.2.2.2.1), kTape 4 (Tape_s_at_fault v1 R.2.2.2.2.1 R.2.2.2.2.2), kTown 9 17 v2, kLaws 17 v3] : List (List zE)).flatten) := by
  refine Ct.of zMX10_readLine_ok (by decide) (Nat.le_of_ble_eq_true rfl) ?_
  intro Z hZ hR hN hE
  have hRm : zRoom Z 0 0 := zRoom0 Z
  unfold f_Year_readLine at hf
  show AW Z 0 0 0 [some (.ref 0), some (.ref 4), some (.ref 9), none] [] ([kYear 0 v0, kTape 4 v1, kTown 9 17 v2, kLaws 17 v3] : List (List zE)).flatten
  refine AW.run hZ hRm [1] 400 ?_
  show AW Z 0 0 1 [some (.ref 0), some (.ref 4), some (.ref 9), none] [.ref 4] ([kYear 0 v0, kTape 4 v1, kTown 9 17 v2, kLaws 17 v3] : List (List zE)).flatten
  obtain ⟨q1, h241, hf⟩ := zbind hf
  refine AW.callVc hZ hR hN (c_Tape_token N v1 q1 h241) zMX7_token_ok rfl rfl zK_BorrowedLives_Year_47 zV_X7_token rfl [4, 5, 8, 6] [1] [4, 5, 6, 7, 8] rfl rfl rfl (by decide) (by decide) (by omega) (by decide) (Nat.zero_le _) (Nat.zero_le _) rfl rfl rfl rfl rfl ?_
  rintro v cc ⟨rfl, rfl⟩
  refine ⟨_, rfl, rfl, ?_⟩
  show AW Z 0 0 4 [some (.ref 0), some (.ref 4), some (.ref 9), none] [.int q1] ([kYear 0 v0, kTape 4 v1, kTown 9 17 v2, kLaws 17 v3] : List (List zE)).flatten
  refine AW.run hZ hRm [28, 50, 55] 400 ?_
  show (((q1 = 132) → ((((Year_lines v0) < 0) → AW Z 0 0 50 [some (.ref 0), some (.ref 4), some (.ref 9), some (.int q1)] [.int 5, .ref 4] ([kYear 0 v0, kTape 4 v1, kTown 9 17 v2, kLaws 17 v3] : List (List zE)).flatten) ∧ (¬ ((Year_lines v0) < 0) → ((((Year_lines v0) < 40) → AW Z 0 0 55 [some (.ref 0), some (.ref 4), some (.ref 9), some (.int q1)] [.ref 4] ([kYear 0 v0, kTape 4 v1, kTown 9 17 v2, kLaws 17 v3] : List (List zE)).flatten) ∧ (¬ ((Year_lines v0) < 40) → AW Z 0 0 50 [some (.ref 0), some (.ref 4), some (.ref 9), some (.int q1)] [.int 5, .ref 4] ([kYear 0 v0, kTape 4 v1, kTown 9 17 v2, kLaws 17 v3] : List (List zE)).flatten))))) ∧ (¬ (q1 = 132) → (((q1 < 139) → AW Z 0 0 28 [some (.ref 0), some (.ref 4), some (.ref 9), some (.int q1)] [.int 1, .ref 4] ([kYear 0 v0, kTape 4 v1, kTown 9 17 v2, kLaws 17 v3] : List (List zE)).flatten) ∧ (¬ (q1 < 139) → (((q1 ≤ 142) → ((((Year_lines v0) < 0) → AW Z 0 0 50 [some (.ref 0), some (.ref 4), some (.ref 9), some (.int q1)] [.int 5, .ref 4] ([kYear 0 v0, kTape 4 v1, kTown 9 17 v2, kLaws 17 v3] : List (List zE)).flatten) ∧ (¬ ((Year_lines v0) < 0) → ((((Year_lines v0) < 40) → AW Z 0 0 55 [some (.ref 0), some (.ref 4), some (.ref 9), some (.int q1)] [.ref 4] ([kYear 0 v0, kTape 4 v1, kTown 9 17 v2, kLaws 17 v3] : List (List zE)).flatten) ∧ (¬ ((Year_lines v0) < 40) → AW Z 0 0 50 [some (.ref 0), some (.ref 4), some (.ref 9), some (.int q1)] [.int 5, .ref 4] ([kYear 0 v0, kTape 4 v1, kTown 9 17 v2, kLaws 17 v3] : List (List zE)).flatten))))) ∧ (¬ (q1 ≤ 142) → AW Z 0 0 28 [some (.ref 0), some (.ref 4), some (.ref 9), some (.int q1)] [.int 1, .ref 4] ([kYear 0 v0, kTape 4 v1, kTown 9 17 v2, kLaws 17 v3] : List (List zE)).flatten))))))
  refine ⟨fun c2 => ?_, fun c2 => ?_⟩
  · rw [if_pos c2] at hf
    refine ⟨fun c3 => ?_, fun c3 => ?_⟩
    · rw [if_pos c3] at hf
      obtain ⟨q4, h5, hf⟩ := zbind hf
      refine AW.callVc hZ hR hN (c_Tape_wrong N v1 5 q4 h5) zMX7_wrong_ok rfl rfl zK_BorrowedLives_Year_51 zV_X7_wrong rfl [4, 5, 8, 6] [1] [4, 5, 6, 7, 8] rfl rfl rfl (by decide) (by decide) (by omega) (by decide) (Nat.zero_le _) (Nat.zero_le _) rfl rfl rfl rfl rfl ?_
      rintro v cc ⟨rfl, rfl⟩
      refine ⟨_, rfl, rfl, ?_⟩
      show AW Z 0 0 53 [some (.ref 0), some (.ref 4), some (.ref 9), some (.int q1)] [] ([kYear 0 v0, kTape 4 (Tape_fault_s v1 q4), kTown 9 17 v2, kLaws 17 v3] : List (List zE)).flatten
      cases hf
      exact AW.vret hZ hE rfl rfl rfl (Nat.le_refl 0) (Nat.le_refl 0) rfl ⟨rfl, rfl⟩
    · rw [if_neg c3] at hf
      refine ⟨fun c6 => ?_, fun c6 => ?_⟩
      · rw [if_pos c6] at hf
        obtain ⟨q7, h116, hf⟩ := zbind hf
        refine AW.callVc hZ hR hN (c_Tape_advance N v1 q7 h116) zMX7_advance_ok rfl rfl zK_BorrowedLives_Year_55 zV_X7_advance rfl [4, 5, 8, 6] [1] [4, 5, 6, 7, 8] rfl rfl rfl (by decide) (by decide) (by omega) (by decide) (Nat.zero_le _) (Nat.zero_le _) rfl rfl rfl rfl rfl ?_
        rintro v cc ⟨rfl, rfl⟩
        refine ⟨_, rfl, rfl, ?_⟩
        show AW Z 0 0 58 [some (.ref 0), some (.ref 4), some (.ref 9), some (.int q1)] [] ([kYear 0 v0, kTape 4 (Tape_at_s v1 q7), kTown 9 17 v2, kLaws 17 v3] : List (List zE)).flatten
        refine AW.run hZ hRm [87, 109, 136, 160, 171] 400 ?_
        show (¬ ((Year_lines v0) < 0 ∨ 40 ≤ Int32.toNatClampNeg (Year_lines v0)) ∧ ((¬ (q1 = 140) → (((q1 = 139) → AW Z 0 0 109 [some (.ref 0), some (.ref 4), some (.ref 9), some (.int q1)] [.ref 9, .ref 4, .int (Year_lines v0), .ref 2] ([kYear 0 (Year_words_s v0 (upd (Year_words v0) (Int32.toNatClampNeg (Year_lines v0)) q1)), kTape 4 (Tape_at_s v1 q7), kTown 9 17 v2, kLaws 17 v3] : List (List zE)).flatten) ∧ (¬ (q1 = 139) → ((¬ (q1 = 141) → (¬ ((Year_lines v0) < 0 ∨ 40 ≤ Int32.toNatClampNeg (Year_lines v0)) ∧ ((¬ (q1 = 139) → ((¬ (q1 = 141) → (¬ ((Year_lines v0) < 0 ∨ 40 ≤ Int32.toNatClampNeg (Year_lines v0)) ∧ AW Z 0 0 171 [some (.ref 0), some (.ref 4), some (.ref 9), some (.int q1)] [.int 59, .ref 4] ([kYear 0 (Year_s_words_first_second v0 (upd (Year_words v0) (Int32.toNatClampNeg (Year_lines v0)) q1) (upd (Year_first v0) (Int32.toNatClampNeg (Year_lines v0)) (-1)) (upd (Year_second v0) (Int32.toNatClampNeg (Year_lines v0)) (-1))), kTape 4 (Tape_at_s v1 q7), kTown 9 17 v2, kLaws 17 v3] : List (List zE)).flatten)) ∧ ((q1 = 141) → (¬ ((Year_lines v0) < 0 ∨ 40 ≤ Int32.toNatClampNeg (Year_lines v0)) ∧ AW Z 0 0 160 [some (.ref 0), some (.ref 4), some (.ref 9), some (.int q1)] [.int ((upd (Year_first v0) (Int32.toNatClampNeg (Year_lines v0)) (-1)) (Int32.toNatClampNeg (Year_lines v0))), .ref 9, .ref 4, .int (Year_lines v0), .ref 3] ([kYear 0 (Year_s_words_first v0 (upd (Year_words v0) (Int32.toNatClampNeg (Year_lines v0)) q1) (upd (Year_first v0) (Int32.toNatClampNeg (Year_lines v0)) (-1))), kTape 4 (Tape_at_s v1 q7), kTown 9 17 v2, kLaws 17 v3] : List (List zE)).flatten)))) ∧ ((q1 = 139) → AW Z 0 0 136 [some (.ref 0), some (.ref 4), some (.ref 9), some (.int q1)] [.int 999, .ref 4, .int (Year_lines v0), .ref 3] ([kYear 0 (Year_s_words_first v0 (upd (Year_words v0) (Int32.toNatClampNeg (Year_lines v0)) q1) (upd (Year_first v0) (Int32.toNatClampNeg (Year_lines v0)) (-1))), kTape 4 (Tape_at_s v1 q7), kTown 9 17 v2, kLaws 17 v3] : List (List zE)).flatten)))) ∧ ((q1 = 141) → AW Z 0 0 109 [some (.ref 0), some (.ref 4), some (.ref 9), some (.int q1)] [.ref 9, .ref 4, .int (Year_lines v0), .ref 2] ([kYear 0 (Year_words_s v0 (upd (Year_words v0) (Int32.toNatClampNeg (Year_lines v0)) q1)), kTape 4 (Tape_at_s v1 q7), kTown 9 17 v2, kLaws 17 v3] : List (List zE)).flatten))))) ∧ ((q1 = 140) → AW Z 0 0 87 [some (.ref 0), some (.ref 4), some (.ref 9), some (.int q1)] [.int 9999, .ref 4, .int (Year_lines v0), .ref 2] ([kYear 0 (Year_words_s v0 (upd (Year_words v0) (Int32.toNatClampNeg (Year_lines v0)) q1)), kTape 4 (Tape_at_s v1 q7), kTown 9 17 v2, kLaws 17 v3] : List (List zE)).flatten)))
        obtain ⟨b115, hf⟩ := zneed hf
        refine ⟨b115, ?_⟩
        refine ⟨fun c8 => ?_, fun c8 => ?_⟩
        · rw [if_neg c8] at hf
          refine ⟨fun c9 => ?_, fun c9 => ?_⟩
          · rw [if_pos c9] at hf
            obtain ⟨q10, h35, hf⟩ := zbind hf
            refine AW.callVc hZ hR hN (c_Tape_readPerson N (Tape_at_s v1 q7) v2 v3 q10 h35) zMX7_readPerson_ok rfl rfl zK_BorrowedLives_Year_62 zV_X7_readPerson rfl [4, 5, 8, 6] [1, 2, 3] [4, 5, 6, 7, 8, 9, 10, 11, 12, 13, 14, 15, 16, 17, 18, 19, 20, 21, 22] rfl rfl rfl (by decide) (by decide) (by omega) (by decide) (Nat.zero_le _) (Nat.zero_le _) rfl rfl rfl rfl rfl ?_
            rintro v cc ⟨rfl, rfl⟩
            refine ⟨_, rfl, rfl, ?_⟩
            show AW Z 0 0 112 [some (.ref 0), some (.ref 4), some (.ref 9), some (.int q1)] [.int q10.1, .int (Year_lines v0), .ref 2] ([kYear 0 (Year_words_s v0 (upd (Year_words v0) (Int32.toNatClampNeg (Year_lines v0)) q1)), kTape 4 (Tape_s_at_fault v1 q10.2.1 q10.2.2), kTown 9 17 v2, kLaws 17 v3] : List (List zE)).flatten
            replace hf := zlet_gen hf
            generalize ((upd (Year_words v0) (Int32.toNatClampNeg (Year_lines v0)) q1) : (Nat → Int32)) = z11 at hf ⊢
            refine AW.run hZ hRm [136, 160, 171] 400 ?_
            show (¬ ((Year_lines v0) < 0 ∨ 40 ≤ Int32.toNatClampNeg (Year_lines v0)) ∧ ((¬ (q1 = 139) → ((¬ (q1 = 141) → (¬ ((Year_lines v0) < 0 ∨ 40 ≤ Int32.toNatClampNeg (Year_lines v0)) ∧ AW Z 0 0 171 [some (.ref 0), some (.ref 4), some (.ref 9), some (.int q1)] [.int 59, .ref 4] ([kYear 0 (Year_s_words_first_second v0 z11 (upd (Year_first v0) (Int32.toNatClampNeg (Year_lines v0)) q10.1) (upd (Year_second v0) (Int32.toNatClampNeg (Year_lines v0)) (-1))), kTape 4 (Tape_s_at_fault v1 q10.2.1 q10.2.2), kTown 9 17 v2, kLaws 17 v3] : List (List zE)).flatten)) ∧ ((q1 = 141) → (¬ ((Year_lines v0) < 0 ∨ 40 ≤ Int32.toNatClampNeg (Year_lines v0)) ∧ AW Z 0 0 160 [some (.ref 0), some (.ref 4), some (.ref 9), some (.int q1)] [.int ((upd (Year_first v0) (Int32.toNatClampNeg (Year_lines v0)) q10.1) (Int32.toNatClampNeg (Year_lines v0))), .ref 9, .ref 4, .int (Year_lines v0), .ref 3] ([kYear 0 (Year_s_words_first v0 z11 (upd (Year_first v0) (Int32.toNatClampNeg (Year_lines v0)) q10.1)), kTape 4 (Tape_s_at_fault v1 q10.2.1 q10.2.2), kTown 9 17 v2, kLaws 17 v3] : List (List zE)).flatten)))) ∧ ((q1 = 139) → AW Z 0 0 136 [some (.ref 0), some (.ref 4), some (.ref 9), some (.int q1)] [.int 999, .ref 4, .int (Year_lines v0), .ref 3] ([kYear 0 (Year_s_words_first v0 z11 (upd (Year_first v0) (Int32.toNatClampNeg (Year_lines v0)) q10.1)), kTape 4 (Tape_s_at_fault v1 q10.2.1 q10.2.2), kTown 9 17 v2, kLaws 17 v3] : List (List zE)).flatten)))
            obtain ⟨b34, hf⟩ := zneed hf
            refine ⟨b34, ?_⟩
            refine ⟨fun c12 => ?_, fun c12 => ?_⟩
            · rw [if_neg c12] at hf
              refine ⟨fun c13 => ?_, fun c13 => ?_⟩
              · rw [if_neg c13] at hf
                obtain ⟨b18, hf⟩ := zneed hf
                refine ⟨b18, ?_⟩
                obtain ⟨q14, h17, hf⟩ := zbind hf
                refine AW.callVc hZ hR hN (c_Tape_expect N (Tape_s_at_fault v1 q10.2.1 q10.2.2) 59 q14 h17) zMX7_expect_ok rfl rfl zK_BorrowedLives_Year_70 zV_X7_expect rfl [4, 5, 8, 6] [1] [4, 5, 6, 7, 8] rfl rfl rfl (by decide) (by decide) (by omega) (by decide) (Nat.zero_le _) (Nat.zero_le _) rfl rfl rfl rfl rfl ?_
                rintro v cc ⟨rfl, rfl⟩
                refine ⟨_, rfl, rfl, ?_⟩
                show AW Z 0 0 174 [some (.ref 0), some (.ref 4), some (.ref 9), some (.int q1)] [] ([kYear 0 (Year_s_words_first_second v0 z11 (upd (Year_first v0) (Int32.toNatClampNeg (Year_lines v0)) q10.1) (upd (Year_second v0) (Int32.toNatClampNeg (Year_lines v0)) (-1))), kTape 4 (Tape_s_at_fault v1 q14.1 q14.2), kTown 9 17 v2, kLaws 17 v3] : List (List zE)).flatten
                replace hf := zlet_gen hf
                generalize ((upd (Year_first v0) (Int32.toNatClampNeg (Year_lines v0)) q10.1) : (Nat → Int32)) = z15 at hf ⊢
                replace hf := zlet_gen hf
                generalize ((upd (Year_second v0) (Int32.toNatClampNeg (Year_lines v0)) (-1)) : (Nat → Int32)) = z16 at hf ⊢
                refine AW.run hZ hRm [184] 400 ?_
                show AW Z 0 0 184 [some (.ref 0), some (.ref 4), some (.ref 9), some (.int q1)] [] ([kYear 0 (Year_s_lines_words_first_second v0 ((Year_lines v0) + 1) z11 z15 z16), kTape 4 (Tape_s_at_fault v1 q14.1 q14.2), kTown 9 17 v2, kLaws 17 v3] : List (List zE)).flatten
                cases hf
                exact AW.vret hZ hE rfl rfl rfl (Nat.le_refl 0) (Nat.le_refl 0) rfl ⟨rfl, rfl⟩
              · rw [if_pos c13] at hf
                obtain ⟨b26, hf⟩ := zneed hf
                refine ⟨b26, ?_⟩
                obtain ⟨q19, h25, hf⟩ := zbind hf
                refine AW.callSc hZ hR hN (c_Year_readOther N (Tape_s_at_fault v1 q10.2.1 q10.2.2) v2 v3 ((upd (Year_first v0) (Int32.toNatClampNeg (Year_lines v0)) q10.1) (Int32.toNatClampNeg (Year_lines v0))) q19 h25) zMX10_readOther_ok rfl rfl zK_BorrowedLives_Year_66 zV_X10_readOther rfl [4, 5, 8, 6] [1, 2, 3] [4, 5, 6, 7, 8, 9, 10, 11, 12, 13, 14, 15, 16, 17, 18, 19, 20, 21, 22] rfl rfl rfl (by decide) (by decide) (by omega) (by decide) (Nat.zero_le _) (Nat.zero_le _) rfl rfl ?_
                rintro v cc ⟨rfl, rfl⟩
                refine ⟨_, rfl, rfl, ?_⟩
                show AW Z 0 0 163 [some (.ref 0), some (.ref 4), some (.ref 9), some (.int q1)] [.int q19.1, .int (Year_lines v0), .ref 3] ([kYear 0 (Year_s_words_first v0 z11 (upd (Year_first v0) (Int32.toNatClampNeg (Year_lines v0)) q10.1)), kTape 4 (Tape_s_at_fault v1 q19.2.1 q19.2.2), kTown 9 17 v2, kLaws 17 v3] : List (List zE)).flatten
                replace hf := zlet_gen hf
                generalize ((upd (Year_first v0) (Int32.toNatClampNeg (Year_lines v0)) q10.1) : (Nat → Int32)) = z20 at hf ⊢
                refine AW.run hZ hRm [171] 400 ?_
                show (¬ ((Year_lines v0) < 0 ∨ 40 ≤ Int32.toNatClampNeg (Year_lines v0)) ∧ AW Z 0 0 171 [some (.ref 0), some (.ref 4), some (.ref 9), some (.int q1)] [.int 59, .ref 4] ([kYear 0 (Year_s_words_first_second v0 z11 z20 (upd (Year_second v0) (Int32.toNatClampNeg (Year_lines v0)) q19.1)), kTape 4 (Tape_s_at_fault v1 q19.2.1 q19.2.2), kTown 9 17 v2, kLaws 17 v3] : List (List zE)).flatten)
                obtain ⟨b24, hf⟩ := zneed hf
                refine ⟨b24, ?_⟩
                obtain ⟨q21, h23, hf⟩ := zbind hf
                refine AW.callVc hZ hR hN (c_Tape_expect N (Tape_s_at_fault v1 q19.2.1 q19.2.2) 59 q21 h23) zMX7_expect_ok rfl rfl zK_BorrowedLives_Year_70 zV_X7_expect rfl [4, 5, 8, 6] [1] [4, 5, 6, 7, 8] rfl rfl rfl (by decide) (by decide) (by omega) (by decide) (Nat.zero_le _) (Nat.zero_le _) rfl rfl rfl rfl rfl ?_
                rintro v cc ⟨rfl, rfl⟩
                refine ⟨_, rfl, rfl, ?_⟩
                show AW Z 0 0 174 [some (.ref 0), some (.ref 4), some (.ref 9), some (.int q1)] [] ([kYear 0 (Year_s_words_first_second v0 z11 z20 (upd (Year_second v0) (Int32.toNatClampNeg (Year_lines v0)) q19.1)), kTape 4 (Tape_s_at_fault v1 q21.1 q21.2), kTown 9 17 v2, kLaws 17 v3] : List (List zE)).flatten
                replace hf := zlet_gen hf
                generalize ((upd (Year_second v0) (Int32.toNatClampNeg (Year_lines v0)) q19.1) : (Nat → Int32)) = z22 at hf ⊢
                refine AW.run hZ hRm [184] 400 ?_
                show AW Z 0 0 184 [some (.ref 0), some (.ref 4), some (.ref 9), some (.int q1)] [] ([kYear 0 (Year_s_lines_words_first_second v0 ((Year_lines v0) + 1) z11 z20 z22), kTape 4 (Tape_s_at_fault v1 q21.1 q21.2), kTown 9 17 v2, kLaws 17 v3] : List (List zE)).flatten
                cases hf
                exact AW.vret hZ hE rfl rfl rfl (Nat.le_refl 0) (Nat.le_refl 0) rfl ⟨rfl, rfl⟩
            · rw [if_pos c12] at hf
              obtain ⟨q27, h33, hf⟩ := zbind hf
              refine AW.callVc hZ hR hN (c_Tape_readNumber N (Tape_s_at_fault v1 q10.2.1 q10.2.2) 999 q27 h33) zMX7_readNumber_ok rfl rfl zK_BorrowedLives_Year_58 zV_X7_readNumber rfl [4, 5, 8, 6] [1] [4, 5, 6, 7, 8] rfl rfl rfl (by decide) (by decide) (by omega) (by decide) (Nat.zero_le _) (Nat.zero_le _) rfl rfl rfl rfl rfl ?_
              rintro v cc ⟨rfl, rfl⟩
              refine ⟨_, rfl, rfl, ?_⟩
              show AW Z 0 0 139 [some (.ref 0), some (.ref 4), some (.ref 9), some (.int q1)] [.int q27.1, .int (Year_lines v0), .ref 3] ([kYear 0 (Year_s_words_first v0 z11 (upd (Year_first v0) (Int32.toNatClampNeg (Year_lines v0)) q10.1)), kTape 4 (Tape_s_at_fault v1 q27.2.1 q27.2.2), kTown 9 17 v2, kLaws 17 v3] : List (List zE)).flatten
              replace hf := zlet_gen hf
              generalize ((upd (Year_first v0) (Int32.toNatClampNeg (Year_lines v0)) q10.1) : (Nat → Int32)) = z28 at hf ⊢
              refine AW.run hZ hRm [171] 400 ?_
              show (¬ ((Year_lines v0) < 0 ∨ 40 ≤ Int32.toNatClampNeg (Year_lines v0)) ∧ AW Z 0 0 171 [some (.ref 0), some (.ref 4), some (.ref 9), some (.int q1)] [.int 59, .ref 4] ([kYear 0 (Year_s_words_first_second v0 z11 z28 (upd (Year_second v0) (Int32.toNatClampNeg (Year_lines v0)) q27.1)), kTape 4 (Tape_s_at_fault v1 q27.2.1 q27.2.2), kTown 9 17 v2, kLaws 17 v3] : List (List zE)).flatten)
              obtain ⟨b32, hf⟩ := zneed hf
              refine ⟨b32, ?_⟩
              obtain ⟨q29, h31, hf⟩ := zbind hf
              refine AW.callVc hZ hR hN (c_Tape_expect N (Tape_s_at_fault v1 q27.2.1 q27.2.2) 59 q29 h31) zMX7_expect_ok rfl rfl zK_BorrowedLives_Year_70 zV_X7_expect rfl [4, 5, 8, 6] [1] [4, 5, 6, 7, 8] rfl rfl rfl (by decide) (by decide) (by omega) (by decide) (Nat.zero_le _) (Nat.zero_le _) rfl rfl rfl rfl rfl ?_
              rintro v cc ⟨rfl, rfl⟩
              refine ⟨_, rfl, rfl, ?_⟩
              show AW Z 0 0 174 [some (.ref 0), some (.ref 4), some (.ref 9), some (.int q1)] [] ([kYear 0 (Year_s_words_first_second v0 z11 z28 (upd (Year_second v0) (Int32.toNatClampNeg (Year_lines v0)) q27.1)), kTape 4 (Tape_s_at_fault v1 q29.1 q29.2), kTown 9 17 v2, kLaws 17 v3] : List (List zE)).flatten
              replace hf := zlet_gen hf
              generalize ((upd (Year_second v0) (Int32.toNatClampNeg (Year_lines v0)) q27.1) : (Nat → Int32)) = z30 at hf ⊢
              refine AW.run hZ hRm [184] 400 ?_
              show AW Z 0 0 184 [some (.ref 0), some (.ref 4), some (.ref 9), some (.int q1)] [] ([kYear 0 (Year_s_lines_words_first_second v0 ((Year_lines v0) + 1) z11 z28 z30), kTape 4 (Tape_s_at_fault v1 q29.1 q29.2), kTown 9 17 v2, kLaws 17 v3] : List (List zE)).flatten
              cases hf
              exact AW.vret hZ hE rfl rfl rfl (Nat.le_refl 0) (Nat.le_refl 0) rfl ⟨rfl, rfl⟩
          · rw [if_neg c9] at hf
            refine ⟨fun c36 => ?_, fun c36 => ?_⟩
            · rw [if_neg c36] at hf
              obtain ⟨b62, hf⟩ := zneed hf
              refine ⟨b62, ?_⟩
              refine ⟨fun c37 => ?_, fun c37 => ?_⟩
              · rw [if_neg c37] at hf
                refine ⟨fun c38 => ?_, fun c38 => ?_⟩
                · rw [if_neg c38] at hf
                  obtain ⟨b44, hf⟩ := zneed hf
                  refine ⟨b44, ?_⟩
                  obtain ⟨q39, h43, hf⟩ := zbind hf
                  refine AW.callVc hZ hR hN (c_Tape_expect N (Tape_at_s v1 q7) 59 q39 h43) zMX7_expect_ok rfl rfl zK_BorrowedLives_Year_70 zV_X7_expect rfl [4, 5, 8, 6] [1] [4, 5, 6, 7, 8] rfl rfl rfl (by decide) (by decide) (by omega) (by decide) (Nat.zero_le _) (Nat.zero_le _) rfl rfl rfl rfl rfl ?_
                  rintro v cc ⟨rfl, rfl⟩
                  refine ⟨_, rfl, rfl, ?_⟩
                  show AW Z 0 0 174 [some (.ref 0), some (.ref 4), some (.ref 9), some (.int q1)] [] ([kYear 0 (Year_s_words_first_second v0 (upd (Year_words v0) (Int32.toNatClampNeg (Year_lines v0)) q1) (upd (Year_first v0) (Int32.toNatClampNeg (Year_lines v0)) (-1)) (upd (Year_second v0) (Int32.toNatClampNeg (Year_lines v0)) (-1))), kTape 4 (Tape_s_at_fault v1 q39.1 q39.2), kTown 9 17 v2, kLaws 17 v3] : List (List zE)).flatten
                  replace hf := zlet_gen hf
                  generalize ((upd (Year_first v0) (Int32.toNatClampNeg (Year_lines v0)) (-1)) : (Nat → Int32)) = z40 at hf ⊢
                  replace hf := zlet_gen hf
                  generalize ((upd (Year_second v0) (Int32.toNatClampNeg (Year_lines v0)) (-1)) : (Nat → Int32)) = z41 at hf ⊢
                  replace hf := zlet_gen hf
                  generalize ((upd (Year_words v0) (Int32.toNatClampNeg (Year_lines v0)) q1) : (Nat → Int32)) = z42 at hf ⊢
                  refine AW.run hZ hRm [184] 400 ?_
                  show AW Z 0 0 184 [some (.ref 0), some (.ref 4), some (.ref 9), some (.int q1)] [] ([kYear 0 (Year_s_lines_words_first_second v0 ((Year_lines v0) + 1) z42 z40 z41), kTape 4 (Tape_s_at_fault v1 q39.1 q39.2), kTown 9 17 v2, kLaws 17 v3] : List (List zE)).flatten
                  cases hf
                  exact AW.vret hZ hE rfl rfl rfl (Nat.le_refl 0) (Nat.le_refl 0) rfl ⟨rfl, rfl⟩
                · rw [if_pos c38] at hf
                  obtain ⟨b53, hf⟩ := zneed hf
                  refine ⟨b53, ?_⟩
                  obtain ⟨q45, h52, hf⟩ := zbind hf
                  refine AW.callSc hZ hR hN (c_Year_readOther N (Tape_at_s v1 q7) v2 v3 ((upd (Year_first v0) (Int32.toNatClampNeg (Year_lines v0)) (-1)) (Int32.toNatClampNeg (Year_lines v0))) q45 h52) zMX10_readOther_ok rfl rfl zK_BorrowedLives_Year_66 zV_X10_readOther rfl [4, 5, 8, 6] [1, 2, 3] [4, 5, 6, 7, 8, 9, 10, 11, 12, 13, 14, 15, 16, 17, 18, 19, 20, 21, 22] rfl rfl rfl (by decide) (by decide) (by omega) (by decide) (Nat.zero_le _) (Nat.zero_le _) rfl rfl ?_
                  rintro v cc ⟨rfl, rfl⟩
                  refine ⟨_, rfl, rfl, ?_⟩
                  show AW Z 0 0 163 [some (.ref 0), some (.ref 4), some (.ref 9), some (.int q1)] [.int q45.1, .int (Year_lines v0), .ref 3] ([kYear 0 (Year_s_words_first v0 (upd (Year_words v0) (Int32.toNatClampNeg (Year_lines v0)) q1) (upd (Year_first v0) (Int32.toNatClampNeg (Year_lines v0)) (-1))), kTape 4 (Tape_s_at_fault v1 q45.2.1 q45.2.2), kTown 9 17 v2, kLaws 17 v3] : List (List zE)).flatten
                  replace hf := zlet_gen hf
                  generalize ((upd (Year_first v0) (Int32.toNatClampNeg (Year_lines v0)) (-1)) : (Nat → Int32)) = z46 at hf ⊢
                  replace hf := zlet_gen hf
                  generalize ((upd (Year_words v0) (Int32.toNatClampNeg (Year_lines v0)) q1) : (Nat → Int32)) = z47 at hf ⊢
                  refine AW.run hZ hRm [171] 400 ?_
                  show (¬ ((Year_lines v0) < 0 ∨ 40 ≤ Int32.toNatClampNeg (Year_lines v0)) ∧ AW Z 0 0 171 [some (.ref 0), some (.ref 4), some (.ref 9), some (.int q1)] [.int 59, .ref 4] ([kYear 0 (Year_s_words_first_second v0 z47 z46 (upd (Year_second v0) (Int32.toNatClampNeg (Year_lines v0)) q45.1)), kTape 4 (Tape_s_at_fault v1 q45.2.1 q45.2.2), kTown 9 17 v2, kLaws 17 v3] : List (List zE)).flatten)
                  obtain ⟨b51, hf⟩ := zneed hf
                  refine ⟨b51, ?_⟩
                  obtain ⟨q48, h50, hf⟩ := zbind hf
                  refine AW.callVc hZ hR hN (c_Tape_expect N (Tape_s_at_fault v1 q45.2.1 q45.2.2) 59 q48 h50) zMX7_expect_ok rfl rfl zK_BorrowedLives_Year_70 zV_X7_expect rfl [4, 5, 8, 6] [1] [4, 5, 6, 7, 8] rfl rfl rfl (by decide) (by decide) (by omega) (by decide) (Nat.zero_le _) (Nat.zero_le _) rfl rfl rfl rfl rfl ?_
                  rintro v cc ⟨rfl, rfl⟩
                  refine ⟨_, rfl, rfl, ?_⟩
                  show AW Z 0 0 174 [some (.ref 0), some (.ref 4), some (.ref 9), some (.int q1)] [] ([kYear 0 (Year_s_words_first_second v0 z47 z46 (upd (Year_second v0) (Int32.toNatClampNeg (Year_lines v0)) q45.1)), kTape 4 (Tape_s_at_fault v1 q48.1 q48.2), kTown 9 17 v2, kLaws 17 v3] : List (List zE)).flatten
                  replace hf := zlet_gen hf
                  generalize ((upd (Year_second v0) (Int32.toNatClampNeg (Year_lines v0)) q45.1) : (Nat → Int32)) = z49 at hf ⊢
                  refine AW.run hZ hRm [184] 400 ?_
                  show AW Z 0 0 184 [some (.ref 0), some (.ref 4), some (.ref 9), some (.int q1)] [] ([kYear 0 (Year_s_lines_words_first_second v0 ((Year_lines v0) + 1) z47 z46 z49), kTape 4 (Tape_s_at_fault v1 q48.1 q48.2), kTown 9 17 v2, kLaws 17 v3] : List (List zE)).flatten
                  cases hf
                  exact AW.vret hZ hE rfl rfl rfl (Nat.le_refl 0) (Nat.le_refl 0) rfl ⟨rfl, rfl⟩
              · rw [if_pos c37] at hf
                obtain ⟨q54, h61, hf⟩ := zbind hf
                refine AW.callVc hZ hR hN (c_Tape_readNumber N (Tape_at_s v1 q7) 999 q54 h61) zMX7_readNumber_ok rfl rfl zK_BorrowedLives_Year_58 zV_X7_readNumber rfl [4, 5, 8, 6] [1] [4, 5, 6, 7, 8] rfl rfl rfl (by decide) (by decide) (by omega) (by decide) (Nat.zero_le _) (Nat.zero_le _) rfl rfl rfl rfl rfl ?_
                rintro v cc ⟨rfl, rfl⟩
                refine ⟨_, rfl, rfl, ?_⟩
                show AW Z 0 0 139 [some (.ref 0), some (.ref 4), some (.ref 9), some (.int q1)] [.int q54.1, .int (Year_lines v0), .ref 3] ([kYear 0 (Year_s_words_first v0 (upd (Year_words v0) (Int32.toNatClampNeg (Year_lines v0)) q1) (upd (Year_first v0) (Int32.toNatClampNeg (Year_lines v0)) (-1))), kTape 4 (Tape_s_at_fault v1 q54.2.1 q54.2.2), kTown 9 17 v2, kLaws 17 v3] : List (List zE)).flatten
                replace hf := zlet_gen hf
                generalize ((upd (Year_first v0) (Int32.toNatClampNeg (Year_lines v0)) (-1)) : (Nat → Int32)) = z55 at hf ⊢
                replace hf := zlet_gen hf
                generalize ((upd (Year_words v0) (Int32.toNatClampNeg (Year_lines v0)) q1) : (Nat → Int32)) = z56 at hf ⊢
                refine AW.run hZ hRm [171] 400 ?_
                show (¬ ((Year_lines v0) < 0 ∨ 40 ≤ Int32.toNatClampNeg (Year_lines v0)) ∧ AW Z 0 0 171 [some (.ref 0), some (.ref 4), some (.ref 9), some (.int q1)] [.int 59, .ref 4] ([kYear 0 (Year_s_words_first_second v0 z56 z55 (upd (Year_second v0) (Int32.toNatClampNeg (Year_lines v0)) q54.1)), kTape 4 (Tape_s_at_fault v1 q54.2.1 q54.2.2), kTown 9 17 v2, kLaws 17 v3] : List (List zE)).flatten)
                obtain ⟨b60, hf⟩ := zneed hf
                refine ⟨b60, ?_⟩
                obtain ⟨q57, h59, hf⟩ := zbind hf
                refine AW.callVc hZ hR hN (c_Tape_expect N (Tape_s_at_fault v1 q54.2.1 q54.2.2) 59 q57 h59) zMX7_expect_ok rfl rfl zK_BorrowedLives_Year_70 zV_X7_expect rfl [4, 5, 8, 6] [1] [4, 5, 6, 7, 8] rfl rfl rfl (by decide) (by decide) (by omega) (by decide) (Nat.zero_le _) (Nat.zero_le _) rfl rfl rfl rfl rfl ?_
                rintro v cc ⟨rfl, rfl⟩
                refine ⟨_, rfl, rfl, ?_⟩
                show AW Z 0 0 174 [some (.ref 0), some (.ref 4), some (.ref 9), some (.int q1)] [] ([kYear 0 (Year_s_words_first_second v0 z56 z55 (upd (Year_second v0) (Int32.toNatClampNeg (Year_lines v0)) q54.1)), kTape 4 (Tape_s_at_fault v1 q57.1 q57.2), kTown 9 17 v2, kLaws 17 v3] : List (List zE)).flatten
                replace hf := zlet_gen hf
                generalize ((upd (Year_second v0) (Int32.toNatClampNeg (Year_lines v0)) q54.1) : (Nat → Int32)) = z58 at hf ⊢
                refine AW.run hZ hRm [184] 400 ?_
                show AW Z 0 0 184 [some (.ref 0), some (.ref 4), some (.ref 9), some (.int q1)] [] ([kYear 0 (Year_s_lines_words_first_second v0 ((Year_lines v0) + 1) z56 z55 z58), kTape 4 (Tape_s_at_fault v1 q57.1 q57.2), kTown 9 17 v2, kLaws 17 v3] : List (List zE)).flatten
                cases hf
                exact AW.vret hZ hE rfl rfl rfl (Nat.le_refl 0) (Nat.le_refl 0) rfl ⟨rfl, rfl⟩
            · rw [if_pos c36] at hf
              obtain ⟨q63, h88, hf⟩ := zbind hf
              refine AW.callVc hZ hR hN (c_Tape_readPerson N (Tape_at_s v1 q7) v2 v3 q63 h88) zMX7_readPerson_ok rfl rfl zK_BorrowedLives_Year_62 zV_X7_readPerson rfl [4, 5, 8, 6] [1, 2, 3] [4, 5, 6, 7, 8, 9, 10, 11, 12, 13, 14, 15, 16, 17, 18, 19, 20, 21, 22] rfl rfl rfl (by decide) (by decide) (by omega) (by decide) (Nat.zero_le _) (Nat.zero_le _) rfl rfl rfl rfl rfl ?_
              rintro v cc ⟨rfl, rfl⟩
              refine ⟨_, rfl, rfl, ?_⟩
              show AW Z 0 0 112 [some (.ref 0), some (.ref 4), some (.ref 9), some (.int q1)] [.int q63.1, .int (Year_lines v0), .ref 2] ([kYear 0 (Year_words_s v0 (upd (Year_words v0) (Int32.toNatClampNeg (Year_lines v0)) q1)), kTape 4 (Tape_s_at_fault v1 q63.2.1 q63.2.2), kTown 9 17 v2, kLaws 17 v3] : List (List zE)).flatten
              replace hf := zlet_gen hf
              generalize ((upd (Year_words v0) (Int32.toNatClampNeg (Year_lines v0)) q1) : (Nat → Int32)) = z64 at hf ⊢
              refine AW.run hZ hRm [136, 160, 171] 400 ?_
              show (¬ ((Year_lines v0) < 0 ∨ 40 ≤ Int32.toNatClampNeg (Year_lines v0)) ∧ ((¬ (q1 = 139) → ((¬ (q1 = 141) → (¬ ((Year_lines v0) < 0 ∨ 40 ≤ Int32.toNatClampNeg (Year_lines v0)) ∧ AW Z 0 0 171 [some (.ref 0), some (.ref 4), some (.ref 9), some (.int q1)] [.int 59, .ref 4] ([kYear 0 (Year_s_words_first_second v0 z64 (upd (Year_first v0) (Int32.toNatClampNeg (Year_lines v0)) q63.1) (upd (Year_second v0) (Int32.toNatClampNeg (Year_lines v0)) (-1))), kTape 4 (Tape_s_at_fault v1 q63.2.1 q63.2.2), kTown 9 17 v2, kLaws 17 v3] : List (List zE)).flatten)) ∧ ((q1 = 141) → (¬ ((Year_lines v0) < 0 ∨ 40 ≤ Int32.toNatClampNeg (Year_lines v0)) ∧ AW Z 0 0 160 [some (.ref 0), some (.ref 4), some (.ref 9), some (.int q1)] [.int ((upd (Year_first v0) (Int32.toNatClampNeg (Year_lines v0)) q63.1) (Int32.toNatClampNeg (Year_lines v0))), .ref 9, .ref 4, .int (Year_lines v0), .ref 3] ([kYear 0 (Year_s_words_first v0 z64 (upd (Year_first v0) (Int32.toNatClampNeg (Year_lines v0)) q63.1)), kTape 4 (Tape_s_at_fault v1 q63.2.1 q63.2.2), kTown 9 17 v2, kLaws 17 v3] : List (List zE)).flatten)))) ∧ ((q1 = 139) → AW Z 0 0 136 [some (.ref 0), some (.ref 4), some (.ref 9), some (.int q1)] [.int 999, .ref 4, .int (Year_lines v0), .ref 3] ([kYear 0 (Year_s_words_first v0 z64 (upd (Year_first v0) (Int32.toNatClampNeg (Year_lines v0)) q63.1)), kTape 4 (Tape_s_at_fault v1 q63.2.1 q63.2.2), kTown 9 17 v2, kLaws 17 v3] : List (List zE)).flatten)))
              obtain ⟨b87, hf⟩ := zneed hf
              refine ⟨b87, ?_⟩
              refine ⟨fun c65 => ?_, fun c65 => ?_⟩
              · rw [if_neg c65] at hf
                refine ⟨fun c66 => ?_, fun c66 => ?_⟩
                · rw [if_neg c66] at hf
                  obtain ⟨b71, hf⟩ := zneed hf
                  refine ⟨b71, ?_⟩
                  obtain ⟨q67, h70, hf⟩ := zbind hf
                  refine AW.callVc hZ hR hN (c_Tape_expect N (Tape_s_at_fault v1 q63.2.1 q63.2.2) 59 q67 h70) zMX7_expect_ok rfl rfl zK_BorrowedLives_Year_70 zV_X7_expect rfl [4, 5, 8, 6] [1] [4, 5, 6, 7, 8] rfl rfl rfl (by decide) (by decide) (by omega) (by decide) (Nat.zero_le _) (Nat.zero_le _) rfl rfl rfl rfl rfl ?_
                  rintro v cc ⟨rfl, rfl⟩
                  refine ⟨_, rfl, rfl, ?_⟩
                  show AW Z 0 0 174 [some (.ref 0), some (.ref 4), some (.ref 9), some (.int q1)] [] ([kYear 0 (Year_s_words_first_second v0 z64 (upd (Year_first v0) (Int32.toNatClampNeg (Year_lines v0)) q63.1) (upd (Year_second v0) (Int32.toNatClampNeg (Year_lines v0)) (-1))), kTape 4 (Tape_s_at_fault v1 q67.1 q67.2), kTown 9 17 v2, kLaws 17 v3] : List (List zE)).flatten
                  replace hf := zlet_gen hf
                  generalize ((upd (Year_first v0) (Int32.toNatClampNeg (Year_lines v0)) q63.1) : (Nat → Int32)) = z68 at hf ⊢
                  replace hf := zlet_gen hf
                  generalize ((upd (Year_second v0) (Int32.toNatClampNeg (Year_lines v0)) (-1)) : (Nat → Int32)) = z69 at hf ⊢
                  refine AW.run hZ hRm [184] 400 ?_
                  show AW Z 0 0 184 [some (.ref 0), some (.ref 4), some (.ref 9), some (.int q1)] [] ([kYear 0 (Year_s_lines_words_first_second v0 ((Year_lines v0) + 1) z64 z68 z69), kTape 4 (Tape_s_at_fault v1 q67.1 q67.2), kTown 9 17 v2, kLaws 17 v3] : List (List zE)).flatten
                  cases hf
                  exact AW.vret hZ hE rfl rfl rfl (Nat.le_refl 0) (Nat.le_refl 0) rfl ⟨rfl, rfl⟩
                · rw [if_pos c66] at hf
                  obtain ⟨b79, hf⟩ := zneed hf
                  refine ⟨b79, ?_⟩
                  obtain ⟨q72, h78, hf⟩ := zbind hf
                  refine AW.callSc hZ hR hN (c_Year_readOther N (Tape_s_at_fault v1 q63.2.1 q63.2.2) v2 v3 ((upd (Year_first v0) (Int32.toNatClampNeg (Year_lines v0)) q63.1) (Int32.toNatClampNeg (Year_lines v0))) q72 h78) zMX10_readOther_ok rfl rfl zK_BorrowedLives_Year_66 zV_X10_readOther rfl [4, 5, 8, 6] [1, 2, 3] [4, 5, 6, 7, 8, 9, 10, 11, 12, 13, 14, 15, 16, 17, 18, 19, 20, 21, 22] rfl rfl rfl (by decide) (by decide) (by omega) (by decide) (Nat.zero_le _) (Nat.zero_le _) rfl rfl ?_
                  rintro v cc ⟨rfl, rfl⟩
                  refine ⟨_, rfl, rfl, ?_⟩
                  show AW Z 0 0 163 [some (.ref 0), some (.ref 4), some (.ref 9), some (.int q1)] [.int q72.1, .int (Year_lines v0), .ref 3] ([kYear 0 (Year_s_words_first v0 z64 (upd (Year_first v0) (Int32.toNatClampNeg (Year_lines v0)) q63.1)), kTape 4 (Tape_s_at_fault v1 q72.2.1 q72.2.2), kTown 9 17 v2, kLaws 17 v3] : List (List zE)).flatten
                  replace hf := zlet_gen hf
                  generalize ((upd (Year_first v0) (Int32.toNatClampNeg (Year_lines v0)) q63.1) : (Nat → Int32)) = z73 at hf ⊢
                  refine AW.run hZ hRm [171] 400 ?_
                  show (¬ ((Year_lines v0) < 0 ∨ 40 ≤ Int32.toNatClampNeg (Year_lines v0)) ∧ AW Z 0 0 171 [some (.ref 0), some (.ref 4), some (.ref 9), some (.int q1)] [.int 59, .ref 4] ([kYear 0 (Year_s_words_first_second v0 z64 z73 (upd (Year_second v0) (Int32.toNatClampNeg (Year_lines v0)) q72.1)), kTape 4 (Tape_s_at_fault v1 q72.2.1 q72.2.2), kTown 9 17 v2, kLaws 17 v3] : List (List zE)).flatten)
                  obtain ⟨b77, hf⟩ := zneed hf
                  refine ⟨b77, ?_⟩
                  obtain ⟨q74, h76, hf⟩ := zbind hf
                  refine AW.callVc hZ hR hN (c_Tape_expect N (Tape_s_at_fault v1 q72.2.1 q72.2.2) 59 q74 h76) zMX7_expect_ok rfl rfl zK_BorrowedLives_Year_70 zV_X7_expect rfl [4, 5, 8, 6] [1] [4, 5, 6, 7, 8] rfl rfl rfl (by decide) (by decide) (by omega) (by decide) (Nat.zero_le _) (Nat.zero_le _) rfl rfl rfl rfl rfl ?_
                  rintro v cc ⟨rfl, rfl⟩
                  refine ⟨_, rfl, rfl, ?_⟩
                  show AW Z 0 0 174 [some (.ref 0), some (.ref 4), some (.ref 9), some (.int q1)] [] ([kYear 0 (Year_s_words_first_second v0 z64 z73 (upd (Year_second v0) (Int32.toNatClampNeg (Year_lines v0)) q72.1)), kTape 4 (Tape_s_at_fault v1 q74.1 q74.2), kTown 9 17 v2, kLaws 17 v3] : List (List zE)).flatten
                  replace hf := zlet_gen hf
                  generalize ((upd (Year_second v0) (Int32.toNatClampNeg (Year_lines v0)) q72.1) : (Nat → Int32)) = z75 at hf ⊢
                  refine AW.run hZ hRm [184] 400 ?_
                  show AW Z 0 0 184 [some (.ref 0), some (.ref 4), some (.ref 9), some (.int q1)] [] ([kYear 0 (Year_s_lines_words_first_second v0 ((Year_lines v0) + 1) z64 z73 z75), kTape 4 (Tape_s_at_fault v1 q74.1 q74.2), kTown 9 17 v2, kLaws 17 v3] : List (List zE)).flatten
                  cases hf
                  exact AW.vret hZ hE rfl rfl rfl (Nat.le_refl 0) (Nat.le_refl 0) rfl ⟨rfl, rfl⟩
              · rw [if_pos c65] at hf
                obtain ⟨q80, h86, hf⟩ := zbind hf
                refine AW.callVc hZ hR hN (c_Tape_readNumber N (Tape_s_at_fault v1 q63.2.1 q63.2.2) 999 q80 h86) zMX7_readNumber_ok rfl rfl zK_BorrowedLives_Year_58 zV_X7_readNumber rfl [4, 5, 8, 6] [1] [4, 5, 6, 7, 8] rfl rfl rfl (by decide) (by decide) (by omega) (by decide) (Nat.zero_le _) (Nat.zero_le _) rfl rfl rfl rfl rfl ?_
                rintro v cc ⟨rfl, rfl⟩
                refine ⟨_, rfl, rfl, ?_⟩
                show AW Z 0 0 139 [some (.ref 0), some (.ref 4), some (.ref 9), some (.int q1)] [.int q80.1, .int (Year_lines v0), .ref 3] ([kYear 0 (Year_s_words_first v0 z64 (upd (Year_first v0) (Int32.toNatClampNeg (Year_lines v0)) q63.1)), kTape 4 (Tape_s_at_fault v1 q80.2.1 q80.2.2), kTown 9 17 v2, kLaws 17 v3] : List (List zE)).flatten
                replace hf := zlet_gen hf
                generalize ((upd (Year_first v0) (Int32.toNatClampNeg (Year_lines v0)) q63.1) : (Nat → Int32)) = z81 at hf ⊢
                refine AW.run hZ hRm [171] 400 ?_
                show (¬ ((Year_lines v0) < 0 ∨ 40 ≤ Int32.toNatClampNeg (Year_lines v0)) ∧ AW Z 0 0 171 [some (.ref 0), some (.ref 4), some (.ref 9), some (.int q1)] [.int 59, .ref 4] ([kYear 0 (Year_s_words_first_second v0 z64 z81 (upd (Year_second v0) (Int32.toNatClampNeg (Year_lines v0)) q80.1)), kTape 4 (Tape_s_at_fault v1 q80.2.1 q80.2.2), kTown 9 17 v2, kLaws 17 v3] : List (List zE)).flatten)
                obtain ⟨b85, hf⟩ := zneed hf
                refine ⟨b85, ?_⟩
                obtain ⟨q82, h84, hf⟩ := zbind hf
                refine AW.callVc hZ hR hN (c_Tape_expect N (Tape_s_at_fault v1 q80.2.1 q80.2.2) 59 q82 h84) zMX7_expect_ok rfl rfl zK_BorrowedLives_Year_70 zV_X7_expect rfl [4, 5, 8, 6] [1] [4, 5, 6, 7, 8] rfl rfl rfl (by decide) (by decide) (by omega) (by decide) (Nat.zero_le _) (Nat.zero_le _) rfl rfl rfl rfl rfl ?_
                rintro v cc ⟨rfl, rfl⟩
                refine ⟨_, rfl, rfl, ?_⟩
                show AW Z 0 0 174 [some (.ref 0), some (.ref 4), some (.ref 9), some (.int q1)] [] ([kYear 0 (Year_s_words_first_second v0 z64 z81 (upd (Year_second v0) (Int32.toNatClampNeg (Year_lines v0)) q80.1)), kTape 4 (Tape_s_at_fault v1 q82.1 q82.2), kTown 9 17 v2, kLaws 17 v3] : List (List zE)).flatten
                replace hf := zlet_gen hf
                generalize ((upd (Year_second v0) (Int32.toNatClampNeg (Year_lines v0)) q80.1) : (Nat → Int32)) = z83 at hf ⊢
                refine AW.run hZ hRm [184] 400 ?_
                show AW Z 0 0 184 [some (.ref 0), some (.ref 4), some (.ref 9), some (.int q1)] [] ([kYear 0 (Year_s_lines_words_first_second v0 ((Year_lines v0) + 1) z64 z81 z83), kTape 4 (Tape_s_at_fault v1 q82.1 q82.2), kTown 9 17 v2, kLaws 17 v3] : List (List zE)).flatten
                cases hf
                exact AW.vret hZ hE rfl rfl rfl (Nat.le_refl 0) (Nat.le_refl 0) rfl ⟨rfl, rfl⟩
        · rw [if_pos c8] at hf
          obtain ⟨q89, h114, hf⟩ := zbind hf
          refine AW.callVc hZ hR hN (c_Tape_readNumber N (Tape_at_s v1 q7) 9999 q89 h114) zMX7_readNumber_ok rfl rfl zK_BorrowedLives_Year_58 zV_X7_readNumber rfl [4, 5, 8, 6] [1] [4, 5, 6, 7, 8] rfl rfl rfl (by decide) (by decide) (by omega) (by decide) (Nat.zero_le _) (Nat.zero_le _) rfl rfl rfl rfl rfl ?_
          rintro v cc ⟨rfl, rfl⟩
          refine ⟨_, rfl, rfl, ?_⟩
          show AW Z 0 0 90 [some (.ref 0), some (.ref 4), some (.ref 9), some (.int q1)] [.int q89.1, .int (Year_lines v0), .ref 2] ([kYear 0 (Year_words_s v0 (upd (Year_words v0) (Int32.toNatClampNeg (Year_lines v0)) q1)), kTape 4 (Tape_s_at_fault v1 q89.2.1 q89.2.2), kTown 9 17 v2, kLaws 17 v3] : List (List zE)).flatten
          replace hf := zlet_gen hf
          generalize ((upd (Year_words v0) (Int32.toNatClampNeg (Year_lines v0)) q1) : (Nat → Int32)) = z90 at hf ⊢
          refine AW.run hZ hRm [136, 160, 171] 400 ?_
          show (¬ ((Year_lines v0) < 0 ∨ 40 ≤ Int32.toNatClampNeg (Year_lines v0)) ∧ ((¬ (q1 = 139) → ((¬ (q1 = 141) → (¬ ((Year_lines v0) < 0 ∨ 40 ≤ Int32.toNatClampNeg (Year_lines v0)) ∧ AW Z 0 0 171 [some (.ref 0), some (.ref 4), some (.ref 9), some (.int q1)] [.int 59, .ref 4] ([kYear 0 (Year_s_words_first_second v0 z90 (upd (Year_first v0) (Int32.toNatClampNeg (Year_lines v0)) q89.1) (upd (Year_second v0) (Int32.toNatClampNeg (Year_lines v0)) (-1))), kTape 4 (Tape_s_at_fault v1 q89.2.1 q89.2.2), kTown 9 17 v2, kLaws 17 v3] : List (List zE)).flatten)) ∧ ((q1 = 141) → (¬ ((Year_lines v0) < 0 ∨ 40 ≤ Int32.toNatClampNeg (Year_lines v0)) ∧ AW Z 0 0 160 [some (.ref 0), some (.ref 4), some (.ref 9), some (.int q1)] [.int ((upd (Year_first v0) (Int32.toNatClampNeg (Year_lines v0)) q89.1) (Int32.toNatClampNeg (Year_lines v0))), .ref 9, .ref 4, .int (Year_lines v0), .ref 3] ([kYear 0 (Year_s_words_first v0 z90 (upd (Year_first v0) (Int32.toNatClampNeg (Year_lines v0)) q89.1)), kTape 4 (Tape_s_at_fault v1 q89.2.1 q89.2.2), kTown 9 17 v2, kLaws 17 v3] : List (List zE)).flatten)))) ∧ ((q1 = 139) → AW Z 0 0 136 [some (.ref 0), some (.ref 4), some (.ref 9), some (.int q1)] [.int 999, .ref 4, .int (Year_lines v0), .ref 3] ([kYear 0 (Year_s_words_first v0 z90 (upd (Year_first v0) (Int32.toNatClampNeg (Year_lines v0)) q89.1)), kTape 4 (Tape_s_at_fault v1 q89.2.1 q89.2.2), kTown 9 17 v2, kLaws 17 v3] : List (List zE)).flatten)))
          obtain ⟨b113, hf⟩ := zneed hf
          refine ⟨b113, ?_⟩
          refine ⟨fun c91 => ?_, fun c91 => ?_⟩
          · rw [if_neg c91] at hf
            refine ⟨fun c92 => ?_, fun c92 => ?_⟩
            · rw [if_neg c92] at hf
              obtain ⟨b97, hf⟩ := zneed hf
              refine ⟨b97, ?_⟩
              obtain ⟨q93, h96, hf⟩ := zbind hf
              refine AW.callVc hZ hR hN (c_Tape_expect N (Tape_s_at_fault v1 q89.2.1 q89.2.2) 59 q93 h96) zMX7_expect_ok rfl rfl zK_BorrowedLives_Year_70 zV_X7_expect rfl [4, 5, 8, 6] [1] [4, 5, 6, 7, 8] rfl rfl rfl (by decide) (by decide) (by omega) (by decide) (Nat.zero_le _) (Nat.zero_le _) rfl rfl rfl rfl rfl ?_
              rintro v cc ⟨rfl, rfl⟩
              refine ⟨_, rfl, rfl, ?_⟩
              show AW Z 0 0 174 [some (.ref 0), some (.ref 4), some (.ref 9), some (.int q1)] [] ([kYear 0 (Year_s_words_first_second v0 z90 (upd (Year_first v0) (Int32.toNatClampNeg (Year_lines v0)) q89.1) (upd (Year_second v0) (Int32.toNatClampNeg (Year_lines v0)) (-1))), kTape 4 (Tape_s_at_fault v1 q93.1 q93.2), kTown 9 17 v2, kLaws 17 v3] : List (List zE)).flatten
              replace hf := zlet_gen hf
              generalize ((upd (Year_first v0) (Int32.toNatClampNeg (Year_lines v0)) q89.1) : (Nat → Int32)) = z94 at hf ⊢
              replace hf := zlet_gen hf
              generalize ((upd (Year_second v0) (Int32.toNatClampNeg (Year_lines v0)) (-1)) : (Nat → Int32)) = z95 at hf ⊢
              refine AW.run hZ hRm [184] 400 ?_
              show AW Z 0 0 184 [some (.ref 0), some (.ref 4), some (.ref 9), some (.int q1)] [] ([kYear 0 (Year_s_lines_words_first_second v0 ((Year_lines v0) + 1) z90 z94 z95), kTape 4 (Tape_s_at_fault v1 q93.1 q93.2), kTown 9 17 v2, kLaws 17 v3] : List (List zE)).flatten
              cases hf
              exact AW.vret hZ hE rfl rfl rfl (Nat.le_refl 0) (Nat.le_refl 0) rfl ⟨rfl, rfl⟩
            · rw [if_pos c92] at hf
              obtain ⟨b105, hf⟩ := zneed hf
              refine ⟨b105, ?_⟩
              obtain ⟨q98, h104, hf⟩ := zbind hf
              refine AW.callSc hZ hR hN (c_Year_readOther N (Tape_s_at_fault v1 q89.2.1 q89.2.2) v2 v3 ((upd (Year_first v0) (Int32.toNatClampNeg (Year_lines v0)) q89.1) (Int32.toNatClampNeg (Year_lines v0))) q98 h104) zMX10_readOther_ok rfl rfl zK_BorrowedLives_Year_66 zV_X10_readOther rfl [4, 5, 8, 6] [1, 2, 3] [4, 5, 6, 7, 8, 9, 10, 11, 12, 13, 14, 15, 16, 17, 18, 19, 20, 21, 22] rfl rfl rfl (by decide) (by decide) (by omega) (by decide) (Nat.zero_le _) (Nat.zero_le _) rfl rfl ?_
              rintro v cc ⟨rfl, rfl⟩
              refine ⟨_, rfl, rfl, ?_⟩
              show AW Z 0 0 163 [some (.ref 0), some (.ref 4), some (.ref 9), some (.int q1)] [.int q98.1, .int (Year_lines v0), .ref 3] ([kYear 0 (Year_s_words_first v0 z90 (upd (Year_first v0) (Int32.toNatClampNeg (Year_lines v0)) q89.1)), kTape 4 (Tape_s_at_fault v1 q98.2.1 q98.2.2), kTown 9 17 v2, kLaws 17 v3] : List (List zE)).flatten
              replace hf := zlet_gen hf
              generalize ((upd (Year_first v0) (Int32.toNatClampNeg (Year_lines v0)) q89.1) : (Nat → Int32)) = z99 at hf ⊢
              refine AW.run hZ hRm [171] 400 ?_
              show (¬ ((Year_lines v0) < 0 ∨ 40 ≤ Int32.toNatClampNeg (Year_lines v0)) ∧ AW Z 0 0 171 [some (.ref 0), some (.ref 4), some (.ref 9), some (.int q1)] [.int 59, .ref 4] ([kYear 0 (Year_s_words_first_second v0 z90 z99 (upd (Year_second v0) (Int32.toNatClampNeg (Year_lines v0)) q98.1)), kTape 4 (Tape_s_at_fault v1 q98.2.1 q98.2.2), kTown 9 17 v2, kLaws 17 v3] : List (List zE)).flatten)
              obtain ⟨b103, hf⟩ := zneed hf
              refine ⟨b103, ?_⟩
              obtain ⟨q100, h102, hf⟩ := zbind hf
              refine AW.callVc hZ hR hN (c_Tape_expect N (Tape_s_at_fault v1 q98.2.1 q98.2.2) 59 q100 h102) zMX7_expect_ok rfl rfl zK_BorrowedLives_Year_70 zV_X7_expect rfl [4, 5, 8, 6] [1] [4, 5, 6, 7, 8] rfl rfl rfl (by decide) (by decide) (by omega) (by decide) (Nat.zero_le _) (Nat.zero_le _) rfl rfl rfl rfl rfl ?_
              rintro v cc ⟨rfl, rfl⟩
              refine ⟨_, rfl, rfl, ?_⟩
              show AW Z 0 0 174 [some (.ref 0), some (.ref 4), some (.ref 9), some (.int q1)] [] ([kYear 0 (Year_s_words_first_second v0 z90 z99 (upd (Year_second v0) (Int32.toNatClampNeg (Year_lines v0)) q98.1)), kTape 4 (Tape_s_at_fault v1 q100.1 q100.2), kTown 9 17 v2, kLaws 17 v3] : List (List zE)).flatten
              replace hf := zlet_gen hf
              generalize ((upd (Year_second v0) (Int32.toNatClampNeg (Year_lines v0)) q98.1) : (Nat → Int32)) = z101 at hf ⊢
              refine AW.run hZ hRm [184] 400 ?_
              show AW Z 0 0 184 [some (.ref 0), some (.ref 4), some (.ref 9), some (.int q1)] [] ([kYear 0 (Year_s_lines_words_first_second v0 ((Year_lines v0) + 1) z90 z99 z101), kTape 4 (Tape_s_at_fault v1 q100.1 q100.2), kTown 9 17 v2, kLaws 17 v3] : List (List zE)).flatten
              cases hf
              exact AW.vret hZ hE rfl rfl rfl (Nat.le_refl 0) (Nat.le_refl 0) rfl ⟨rfl, rfl⟩
          · rw [if_pos c91] at hf
            obtain ⟨q106, h112, hf⟩ := zbind hf
            refine AW.callVc hZ hR hN (c_Tape_readNumber N (Tape_s_at_fault v1 q89.2.1 q89.2.2) 999 q106 h112) zMX7_readNumber_ok rfl rfl zK_BorrowedLives_Year_58 zV_X7_readNumber rfl [4, 5, 8, 6] [1] [4, 5, 6, 7, 8] rfl rfl rfl (by decide) (by decide) (by omega) (by decide) (Nat.zero_le _) (Nat.zero_le _) rfl rfl rfl rfl rfl ?_
            rintro v cc ⟨rfl, rfl⟩
            refine ⟨_, rfl, rfl, ?_⟩
            show AW Z 0 0 139 [some (.ref 0), some (.ref 4), some (.ref 9), some (.int q1)] [.int q106.1, .int (Year_lines v0), .ref 3] ([kYear 0 (Year_s_words_first v0 z90 (upd (Year_first v0) (Int32.toNatClampNeg (Year_lines v0)) q89.1)), kTape 4 (Tape_s_at_fault v1 q106.2.1 q106.2.2), kTown 9 17 v2, kLaws 17 v3] : List (List zE)).flatten
            replace hf := zlet_gen hf
            generalize ((upd (Year_first v0) (Int32.toNatClampNeg (Year_lines v0)) q89.1) : (Nat → Int32)) = z107 at hf ⊢
            refine AW.run hZ hRm [171] 400 ?_
            show (¬ ((Year_lines v0) < 0 ∨ 40 ≤ Int32.toNatClampNeg (Year_lines v0)) ∧ AW Z 0 0 171 [some (.ref 0), some (.ref 4), some (.ref 9), some (.int q1)] [.int 59, .ref 4] ([kYear 0 (Year_s_words_first_second v0 z90 z107 (upd (Year_second v0) (Int32.toNatClampNeg (Year_lines v0)) q106.1)), kTape 4 (Tape_s_at_fault v1 q106.2.1 q106.2.2), kTown 9 17 v2, kLaws 17 v3] : List (List zE)).flatten)
            obtain ⟨b111, hf⟩ := zneed hf
            refine ⟨b111, ?_⟩
            obtain ⟨q108, h110, hf⟩ := zbind hf
            refine AW.callVc hZ hR hN (c_Tape_expect N (Tape_s_at_fault v1 q106.2.1 q106.2.2) 59 q108 h110) zMX7_expect_ok rfl rfl zK_BorrowedLives_Year_70 zV_X7_expect rfl [4, 5, 8, 6] [1] [4, 5, 6, 7, 8] rfl rfl rfl (by decide) (by decide) (by omega) (by decide) (Nat.zero_le _) (Nat.zero_le _) rfl rfl rfl rfl rfl ?_
            rintro v cc ⟨rfl, rfl⟩
            refine ⟨_, rfl, rfl, ?_⟩
            show AW Z 0 0 174 [some (.ref 0), some (.ref 4), some (.ref 9), some (.int q1)] [] ([kYear 0 (Year_s_words_first_second v0 z90 z107 (upd (Year_second v0) (Int32.toNatClampNeg (Year_lines v0)) q106.1)), kTape 4 (Tape_s_at_fault v1 q108.1 q108.2), kTown 9 17 v2, kLaws 17 v3] : List (List zE)).flatten
            replace hf := zlet_gen hf
            generalize ((upd (Year_second v0) (Int32.toNatClampNeg (Year_lines v0)) q106.1) : (Nat → Int32)) = z109 at hf ⊢
            refine AW.run hZ hRm [184] 400 ?_
            show AW Z 0 0 184 [some (.ref 0), some (.ref 4), some (.ref 9), some (.int q1)] [] ([kYear 0 (Year_s_lines_words_first_second v0 ((Year_lines v0) + 1) z90 z107 z109), kTape 4 (Tape_s_at_fault v1 q108.1 q108.2), kTown 9 17 v2, kLaws 17 v3] : List (List zE)).flatten
            cases hf
            exact AW.vret hZ hE rfl rfl rfl (Nat.le_refl 0) (Nat.le_refl 0) rfl ⟨rfl, rfl⟩
      · rw [if_neg c6] at hf
        obtain ⟨q117, h118, hf⟩ := zbind hf
        refine AW.callVc hZ hR hN (c_Tape_wrong N v1 5 q117 h118) zMX7_wrong_ok rfl rfl zK_BorrowedLives_Year_51 zV_X7_wrong rfl [4, 5, 8, 6] [1] [4, 5, 6, 7, 8] rfl rfl rfl (by decide) (by decide) (by omega) (by decide) (Nat.zero_le _) (Nat.zero_le _) rfl rfl rfl rfl rfl ?_
        rintro v cc ⟨rfl, rfl⟩
        refine ⟨_, rfl, rfl, ?_⟩
        show AW Z 0 0 53 [some (.ref 0), some (.ref 4), some (.ref 9), some (.int q1)] [] ([kYear 0 v0, kTape 4 (Tape_fault_s v1 q117), kTown 9 17 v2, kLaws 17 v3] : List (List zE)).flatten
        cases hf
        exact AW.vret hZ hE rfl rfl rfl (Nat.le_refl 0) (Nat.le_refl 0) rfl ⟨rfl, rfl⟩
  · rw [if_neg c2] at hf
    refine ⟨fun c119 => ?_, fun c119 => ?_⟩
    · rw [if_pos c119] at hf
      obtain ⟨q120, h121, hf⟩ := zbind hf
      refine AW.callVc hZ hR hN (c_Tape_wrong N v1 1 q120 h121) zMX7_wrong_ok rfl rfl zK_BorrowedLives_Year_51 zV_X7_wrong rfl [4, 5, 8, 6] [1] [4, 5, 6, 7, 8] rfl rfl rfl (by decide) (by decide) (by omega) (by decide) (Nat.zero_le _) (Nat.zero_le _) rfl rfl rfl rfl rfl ?_
      rintro v cc ⟨rfl, rfl⟩
      refine ⟨_, rfl, rfl, ?_⟩
      show AW Z 0 0 31 [some (.ref 0), some (.ref 4), some (.ref 9), some (.int q1)] [] ([kYear 0 v0, kTape 4 (Tape_fault_s v1 q120), kTown 9 17 v2, kLaws 17 v3] : List (List zE)).flatten
      cases hf
      exact AW.vret hZ hE rfl rfl rfl (Nat.le_refl 0) (Nat.le_refl 0) rfl ⟨rfl, rfl⟩
    · rw [if_neg c119] at hf
      refine ⟨fun c122 => ?_, fun c122 => ?_⟩
      · rw [if_pos c122] at hf
        refine ⟨fun c123 => ?_, fun c123 => ?_⟩
        · rw [if_pos c123] at hf
          obtain ⟨q124, h125, hf⟩ := zbind hf
          refine AW.callVc hZ hR hN (c_Tape_wrong N v1 5 q124 h125) zMX7_wrong_ok rfl rfl zK_BorrowedLives_Year_51 zV_X7_wrong rfl [4, 5, 8, 6] [1] [4, 5, 6, 7, 8] rfl rfl rfl (by decide) (by decide) (by omega) (by decide) (Nat.zero_le _) (Nat.zero_le _) rfl rfl rfl rfl rfl ?_
          rintro v cc ⟨rfl, rfl⟩
          refine ⟨_, rfl, rfl, ?_⟩
          show AW Z 0 0 53 [some (.ref 0), some (.ref 4), some (.ref 9), some (.int q1)] [] ([kYear 0 v0, kTape 4 (Tape_fault_s v1 q124), kTown 9 17 v2, kLaws 17 v3] : List (List zE)).flatten
          cases hf
          exact AW.vret hZ hE rfl rfl rfl (Nat.le_refl 0) (Nat.le_refl 0) rfl ⟨rfl, rfl⟩
        · rw [if_neg c123] at hf
          refine ⟨fun c126 => ?_, fun c126 => ?_⟩
          · rw [if_pos c126] at hf
            obtain ⟨q127, h236, hf⟩ := zbind hf
            refine AW.callVc hZ hR hN (c_Tape_advance N v1 q127 h236) zMX7_advance_ok rfl rfl zK_BorrowedLives_Year_55 zV_X7_advance rfl [4, 5, 8, 6] [1] [4, 5, 6, 7, 8] rfl rfl rfl (by decide) (by decide) (by omega) (by decide) (Nat.zero_le _) (Nat.zero_le _) rfl rfl rfl rfl rfl ?_
            rintro v cc ⟨rfl, rfl⟩
            refine ⟨_, rfl, rfl, ?_⟩
            show AW Z 0 0 58 [some (.ref 0), some (.ref 4), some (.ref 9), some (.int q1)] [] ([kYear 0 v0, kTape 4 (Tape_at_s v1 q127), kTown 9 17 v2, kLaws 17 v3] : List (List zE)).flatten
            refine AW.run hZ hRm [87, 109, 136, 160, 171] 400 ?_
            show (¬ ((Year_lines v0) < 0 ∨ 40 ≤ Int32.toNatClampNeg (Year_lines v0)) ∧ ((¬ (q1 = 140) → (((q1 = 139) → AW Z 0 0 109 [some (.ref 0), some (.ref 4), some (.ref 9), some (.int q1)] [.ref 9, .ref 4, .int (Year_lines v0), .ref 2] ([kYear 0 (Year_words_s v0 (upd (Year_words v0) (Int32.toNatClampNeg (Year_lines v0)) q1)), kTape 4 (Tape_at_s v1 q127), kTown 9 17 v2, kLaws 17 v3] : List (List zE)).flatten) ∧ (¬ (q1 = 139) → ((¬ (q1 = 141) → (¬ ((Year_lines v0) < 0 ∨ 40 ≤ Int32.toNatClampNeg (Year_lines v0)) ∧ ((¬ (q1 = 139) → ((¬ (q1 = 141) → (¬ ((Year_lines v0) < 0 ∨ 40 ≤ Int32.toNatClampNeg (Year_lines v0)) ∧ AW Z 0 0 171 [some (.ref 0), some (.ref 4), some (.ref 9), some (.int q1)] [.int 59, .ref 4] ([kYear 0 (Year_s_words_first_second v0 (upd (Year_words v0) (Int32.toNatClampNeg (Year_lines v0)) q1) (upd (Year_first v0) (Int32.toNatClampNeg (Year_lines v0)) (-1)) (upd (Year_second v0) (Int32.toNatClampNeg (Year_lines v0)) (-1))), kTape 4 (Tape_at_s v1 q127), kTown 9 17 v2, kLaws 17 v3] : List (List zE)).flatten)) ∧ ((q1 = 141) → (¬ ((Year_lines v0) < 0 ∨ 40 ≤ Int32.toNatClampNeg (Year_lines v0)) ∧ AW Z 0 0 160 [some (.ref 0), some (.ref 4), some (.ref 9), some (.int q1)] [.int ((upd (Year_first v0) (Int32.toNatClampNeg (Year_lines v0)) (-1)) (Int32.toNatClampNeg (Year_lines v0))), .ref 9, .ref 4, .int (Year_lines v0), .ref 3] ([kYear 0 (Year_s_words_first v0 (upd (Year_words v0) (Int32.toNatClampNeg (Year_lines v0)) q1) (upd (Year_first v0) (Int32.toNatClampNeg (Year_lines v0)) (-1))), kTape 4 (Tape_at_s v1 q127), kTown 9 17 v2, kLaws 17 v3] : List (List zE)).flatten)))) ∧ ((q1 = 139) → AW Z 0 0 136 [some (.ref 0), some (.ref 4), some (.ref 9), some (.int q1)] [.int 999, .ref 4, .int (Year_lines v0), .ref 3] ([kYear 0 (Year_s_words_first v0 (upd (Year_words v0) (Int32.toNatClampNeg (Year_lines v0)) q1) (upd (Year_first v0) (Int32.toNatClampNeg (Year_lines v0)) (-1))), kTape 4 (Tape_at_s v1 q127), kTown 9 17 v2, kLaws 17 v3] : List (List zE)).flatten)))) ∧ ((q1 = 141) → AW Z 0 0 109 [some (.ref 0), some (.ref 4), some (.ref 9), some (.int q1)] [.ref 9, .ref 4, .int (Year_lines v0), .ref 2] ([kYear 0 (Year_words_s v0 (upd (Year_words v0) (Int32.toNatClampNeg (Year_lines v0)) q1)), kTape 4 (Tape_at_s v1 q127), kTown 9 17 v2, kLaws 17 v3] : List (List zE)).flatten))))) ∧ ((q1 = 140) → AW Z 0 0 87 [some (.ref 0), some (.ref 4), some (.ref 9), some (.int q1)] [.int 9999, .ref 4, .int (Year_lines v0), .ref 2] ([kYear 0 (Year_words_s v0 (upd (Year_words v0) (Int32.toNatClampNeg (Year_lines v0)) q1)), kTape 4 (Tape_at_s v1 q127), kTown 9 17 v2, kLaws 17 v3] : List (List zE)).flatten)))
            obtain ⟨b235, hf⟩ := zneed hf
            refine ⟨b235, ?_⟩
            refine ⟨fun c128 => ?_, fun c128 => ?_⟩
            · rw [if_neg c128] at hf
              refine ⟨fun c129 => ?_, fun c129 => ?_⟩
              · rw [if_pos c129] at hf
                obtain ⟨q130, h155, hf⟩ := zbind hf
                refine AW.callVc hZ hR hN (c_Tape_readPerson N (Tape_at_s v1 q127) v2 v3 q130 h155) zMX7_readPerson_ok rfl rfl zK_BorrowedLives_Year_62 zV_X7_readPerson rfl [4, 5, 8, 6] [1, 2, 3] [4, 5, 6, 7, 8, 9, 10, 11, 12, 13, 14, 15, 16, 17, 18, 19, 20, 21, 22] rfl rfl rfl (by decide) (by decide) (by omega) (by decide) (Nat.zero_le _) (Nat.zero_le _) rfl rfl rfl rfl rfl ?_
                rintro v cc ⟨rfl, rfl⟩
                refine ⟨_, rfl, rfl, ?_⟩
                show AW Z 0 0 112 [some (.ref 0), some (.ref 4), some (.ref 9), some (.int q1)] [.int q130.1, .int (Year_lines v0), .ref 2] ([kYear 0 (Year_words_s v0 (upd (Year_words v0) (Int32.toNatClampNeg (Year_lines v0)) q1)), kTape 4 (Tape_s_at_fault v1 q130.2.1 q130.2.2), kTown 9 17 v2, kLaws 17 v3] : List (List zE)).flatten
                replace hf := zlet_gen hf
                generalize ((upd (Year_words v0) (Int32.toNatClampNeg (Year_lines v0)) q1) : (Nat → Int32)) = z131 at hf ⊢
                refine AW.run hZ hRm [136, 160, 171] 400 ?_
                show (¬ ((Year_lines v0) < 0 ∨ 40 ≤ Int32.toNatClampNeg (Year_lines v0)) ∧ ((¬ (q1 = 139) → ((¬ (q1 = 141) → (¬ ((Year_lines v0) < 0 ∨ 40 ≤ Int32.toNatClampNeg (Year_lines v0)) ∧ AW Z 0 0 171 [some (.ref 0), some (.ref 4), some (.ref 9), some (.int q1)] [.int 59, .ref 4] ([kYear 0 (Year_s_words_first_second v0 z131 (upd (Year_first v0) (Int32.toNatClampNeg (Year_lines v0)) q130.1) (upd (Year_second v0) (Int32.toNatClampNeg (Year_lines v0)) (-1))), kTape 4 (Tape_s_at_fault v1 q130.2.1 q130.2.2), kTown 9 17 v2, kLaws 17 v3] : List (List zE)).flatten)) ∧ ((q1 = 141) → (¬ ((Year_lines v0) < 0 ∨ 40 ≤ Int32.toNatClampNeg (Year_lines v0)) ∧ AW Z 0 0 160 [some (.ref 0), some (.ref 4), some (.ref 9), some (.int q1)] [.int ((upd (Year_first v0) (Int32.toNatClampNeg (Year_lines v0)) q130.1) (Int32.toNatClampNeg (Year_lines v0))), .ref 9, .ref 4, .int (Year_lines v0), .ref 3] ([kYear 0 (Year_s_words_first v0 z131 (upd (Year_first v0) (Int32.toNatClampNeg (Year_lines v0)) q130.1)), kTape 4 (Tape_s_at_fault v1 q130.2.1 q130.2.2), kTown 9 17 v2, kLaws 17 v3] : List (List zE)).flatten)))) ∧ ((q1 = 139) → AW Z 0 0 136 [some (.ref 0), some (.ref 4), some (.ref 9), some (.int q1)] [.int 999, .ref 4, .int (Year_lines v0), .ref 3] ([kYear 0 (Year_s_words_first v0 z131 (upd (Year_first v0) (Int32.toNatClampNeg (Year_lines v0)) q130.1)), kTape 4 (Tape_s_at_fault v1 q130.2.1 q130.2.2), kTown 9 17 v2, kLaws 17 v3] : List (List zE)).flatten)))
                obtain ⟨b154, hf⟩ := zneed hf
                refine ⟨b154, ?_⟩
                refine ⟨fun c132 => ?_, fun c132 => ?_⟩
                · rw [if_neg c132] at hf
                  refine ⟨fun c133 => ?_, fun c133 => ?_⟩
                  · rw [if_neg c133] at hf
                    obtain ⟨b138, hf⟩ := zneed hf
                    refine ⟨b138, ?_⟩
                    obtain ⟨q134, h137, hf⟩ := zbind hf
                    refine AW.callVc hZ hR hN (c_Tape_expect N (Tape_s_at_fault v1 q130.2.1 q130.2.2) 59 q134 h137) zMX7_expect_ok rfl rfl zK_BorrowedLives_Year_70 zV_X7_expect rfl [4, 5, 8, 6] [1] [4, 5, 6, 7, 8] rfl rfl rfl (by decide) (by decide) (by omega) (by decide) (Nat.zero_le _) (Nat.zero_le _) rfl rfl rfl rfl rfl ?_
                    rintro v cc ⟨rfl, rfl⟩
                    refine ⟨_, rfl, rfl, ?_⟩
                    show AW Z 0 0 174 [some (.ref 0), some (.ref 4), some (.ref 9), some (.int q1)] [] ([kYear 0 (Year_s_words_first_second v0 z131 (upd (Year_first v0) (Int32.toNatClampNeg (Year_lines v0)) q130.1) (upd (Year_second v0) (Int32.toNatClampNeg (Year_lines v0)) (-1))), kTape 4 (Tape_s_at_fault v1 q134.1 q134.2), kTown 9 17 v2, kLaws 17 v3] : List (List zE)).flatten
                    replace hf := zlet_gen hf
                    generalize ((upd (Year_first v0) (Int32.toNatClampNeg (Year_lines v0)) q130.1) : (Nat → Int32)) = z135 at hf ⊢
                    replace hf := zlet_gen hf
                    generalize ((upd (Year_second v0) (Int32.toNatClampNeg (Year_lines v0)) (-1)) : (Nat → Int32)) = z136 at hf ⊢
                    refine AW.run hZ hRm [184] 400 ?_
                    show AW Z 0 0 184 [some (.ref 0), some (.ref 4), some (.ref 9), some (.int q1)] [] ([kYear 0 (Year_s_lines_words_first_second v0 ((Year_lines v0) + 1) z131 z135 z136), kTape 4 (Tape_s_at_fault v1 q134.1 q134.2), kTown 9 17 v2, kLaws 17 v3] : List (List zE)).flatten
                    cases hf
                    exact AW.vret hZ hE rfl rfl rfl (Nat.le_refl 0) (Nat.le_refl 0) rfl ⟨rfl, rfl⟩
                  · rw [if_pos c133] at hf
                    obtain ⟨b146, hf⟩ := zneed hf
                    refine ⟨b146, ?_⟩
                    obtain ⟨q139, h145, hf⟩ := zbind hf
                    refine AW.callSc hZ hR hN (c_Year_readOther N (Tape_s_at_fault v1 q130.2.1 q130.2.2) v2 v3 ((upd (Year_first v0) (Int32.toNatClampNeg (Year_lines v0)) q130.1) (Int32.toNatClampNeg (Year_lines v0))) q139 h145) zMX10_readOther_ok rfl rfl zK_BorrowedLives_Year_66 zV_X10_readOther rfl [4, 5, 8, 6] [1, 2, 3] [4, 5, 6, 7, 8, 9, 10, 11, 12, 13, 14, 15, 16, 17, 18, 19, 20, 21, 22] rfl rfl rfl (by decide) (by decide) (by omega) (by decide) (Nat.zero_le _) (Nat.zero_le _) rfl rfl ?_
                    rintro v cc ⟨rfl, rfl⟩
                    refine ⟨_, rfl, rfl, ?_⟩
                    show AW Z 0 0 163 [some (.ref 0), some (.ref 4), some (.ref 9), some (.int q1)] [.int q139.1, .int (Year_lines v0), .ref 3] ([kYear 0 (Year_s_words_first v0 z131 (upd (Year_first v0) (Int32.toNatClampNeg (Year_lines v0)) q130.1)), kTape 4 (Tape_s_at_fault v1 q139.2.1 q139.2.2), kTown 9 17 v2, kLaws 17 v3] : List (List zE)).flatten
                    replace hf := zlet_gen hf
                    generalize ((upd (Year_first v0) (Int32.toNatClampNeg (Year_lines v0)) q130.1) : (Nat → Int32)) = z140 at hf ⊢
                    refine AW.run hZ hRm [171] 400 ?_
                    show (¬ ((Year_lines v0) < 0 ∨ 40 ≤ Int32.toNatClampNeg (Year_lines v0)) ∧ AW Z 0 0 171 [some (.ref 0), some (.ref 4), some (.ref 9), some (.int q1)] [.int 59, .ref 4] ([kYear 0 (Year_s_words_first_second v0 z131 z140 (upd (Year_second v0) (Int32.toNatClampNeg (Year_lines v0)) q139.1)), kTape 4 (Tape_s_at_fault v1 q139.2.1 q139.2.2), kTown 9 17 v2, kLaws 17 v3] : List (List zE)).flatten)
                    obtain ⟨b144, hf⟩ := zneed hf
                    refine ⟨b144, ?_⟩
                    obtain ⟨q141, h143, hf⟩ := zbind hf
                    refine AW.callVc hZ hR hN (c_Tape_expect N (Tape_s_at_fault v1 q139.2.1 q139.2.2) 59 q141 h143) zMX7_expect_ok rfl rfl zK_BorrowedLives_Year_70 zV_X7_expect rfl [4, 5, 8, 6] [1] [4, 5, 6, 7, 8] rfl rfl rfl (by decide) (by decide) (by omega) (by decide) (Nat.zero_le _) (Nat.zero_le _) rfl rfl rfl rfl rfl ?_
                    rintro v cc ⟨rfl, rfl⟩
                    refine ⟨_, rfl, rfl, ?_⟩
                    show AW Z 0 0 174 [some (.ref 0), some (.ref 4), some (.ref 9), some (.int q1)] [] ([kYear 0 (Year_s_words_first_second v0 z131 z140 (upd (Year_second v0) (Int32.toNatClampNeg (Year_lines v0)) q139.1)), kTape 4 (Tape_s_at_fault v1 q141.1 q141.2), kTown 9 17 v2, kLaws 17 v3] : List (List zE)).flatten
                    replace hf := zlet_gen hf
                    generalize ((upd (Year_second v0) (Int32.toNatClampNeg (Year_lines v0)) q139.1) : (Nat → Int32)) = z142 at hf ⊢
                    refine AW.run hZ hRm [184] 400 ?_
                    show AW Z 0 0 184 [some (.ref 0), some (.ref 4), some (.ref 9), some (.int q1)] [] ([kYear 0 (Year_s_lines_words_first_second v0 ((Year_lines v0) + 1) z131 z140 z142), kTape 4 (Tape_s_at_fault v1 q141.1 q141.2), kTown 9 17 v2, kLaws 17 v3] : List (List zE)).flatten
                    cases hf
                    exact AW.vret hZ hE rfl rfl rfl (Nat.le_refl 0) (Nat.le_refl 0) rfl ⟨rfl, rfl⟩
                · rw [if_pos c132] at hf
                  obtain ⟨q147, h153, hf⟩ := zbind hf
                  refine AW.callVc hZ hR hN (c_Tape_readNumber N (Tape_s_at_fault v1 q130.2.1 q130.2.2) 999 q147 h153) zMX7_readNumber_ok rfl rfl zK_BorrowedLives_Year_58 zV_X7_readNumber rfl [4, 5, 8, 6] [1] [4, 5, 6, 7, 8] rfl rfl rfl (by decide) (by decide) (by omega) (by decide) (Nat.zero_le _) (Nat.zero_le _) rfl rfl rfl rfl rfl ?_
                  rintro v cc ⟨rfl, rfl⟩
                  refine ⟨_, rfl, rfl, ?_⟩
                  show AW Z 0 0 139 [some (.ref 0), some (.ref 4), some (.ref 9), some (.int q1)] [.int q147.1, .int (Year_lines v0), .ref 3] ([kYear 0 (Year_s_words_first v0 z131 (upd (Year_first v0) (Int32.toNatClampNeg (Year_lines v0)) q130.1)), kTape 4 (Tape_s_at_fault v1 q147.2.1 q147.2.2), kTown 9 17 v2, kLaws 17 v3] : List (List zE)).flatten
                  replace hf := zlet_gen hf
                  generalize ((upd (Year_first v0) (Int32.toNatClampNeg (Year_lines v0)) q130.1) : (Nat → Int32)) = z148 at hf ⊢
                  refine AW.run hZ hRm [171] 400 ?_
                  show (¬ ((Year_lines v0) < 0 ∨ 40 ≤ Int32.toNatClampNeg (Year_lines v0)) ∧ AW Z 0 0 171 [some (.ref 0), some (.ref 4), some (.ref 9), some (.int q1)] [.int 59, .ref 4] ([kYear 0 (Year_s_words_first_second v0 z131 z148 (upd (Year_second v0) (Int32.toNatClampNeg (Year_lines v0)) q147.1)), kTape 4 (Tape_s_at_fault v1 q147.2.1 q147.2.2), kTown 9 17 v2, kLaws 17 v3] : List (List zE)).flatten)
                  obtain ⟨b152, hf⟩ := zneed hf
                  refine ⟨b152, ?_⟩
                  obtain ⟨q149, h151, hf⟩ := zbind hf
                  refine AW.callVc hZ hR hN (c_Tape_expect N (Tape_s_at_fault v1 q147.2.1 q147.2.2) 59 q149 h151) zMX7_expect_ok rfl rfl zK_BorrowedLives_Year_70 zV_X7_expect rfl [4, 5, 8, 6] [1] [4, 5, 6, 7, 8] rfl rfl rfl (by decide) (by decide) (by omega) (by decide) (Nat.zero_le _) (Nat.zero_le _) rfl rfl rfl rfl rfl ?_
                  rintro v cc ⟨rfl, rfl⟩
                  refine ⟨_, rfl, rfl, ?_⟩
                  show AW Z 0 0 174 [some (.ref 0), some (.ref 4), some (.ref 9), some (.int q1)] [] ([kYear 0 (Year_s_words_first_second v0 z131 z148 (upd (Year_second v0) (Int32.toNatClampNeg (Year_lines v0)) q147.1)), kTape 4 (Tape_s_at_fault v1 q149.1 q149.2), kTown 9 17 v2, kLaws 17 v3] : List (List zE)).flatten
                  replace hf := zlet_gen hf
                  generalize ((upd (Year_second v0) (Int32.toNatClampNeg (Year_lines v0)) q147.1) : (Nat → Int32)) = z150 at hf ⊢
                  refine AW.run hZ hRm [184] 400 ?_
                  show AW Z 0 0 184 [some (.ref 0), some (.ref 4), some (.ref 9), some (.int q1)] [] ([kYear 0 (Year_s_lines_words_first_second v0 ((Year_lines v0) + 1) z131 z148 z150), kTape 4 (Tape_s_at_fault v1 q149.1 q149.2), kTown 9 17 v2, kLaws 17 v3] : List (List zE)).flatten
                  cases hf
                  exact AW.vret hZ hE rfl rfl rfl (Nat.le_refl 0) (Nat.le_refl 0) rfl ⟨rfl, rfl⟩
              · rw [if_neg c129] at hf
                refine ⟨fun c156 => ?_, fun c156 => ?_⟩
                · rw [if_neg c156] at hf
                  obtain ⟨b182, hf⟩ := zneed hf
                  refine ⟨b182, ?_⟩
                  refine ⟨fun c157 => ?_, fun c157 => ?_⟩
                  · rw [if_neg c157] at hf
                    refine ⟨fun c158 => ?_, fun c158 => ?_⟩
                    · rw [if_neg c158] at hf
                      obtain ⟨b164, hf⟩ := zneed hf
                      refine ⟨b164, ?_⟩
                      obtain ⟨q159, h163, hf⟩ := zbind hf
                      refine AW.callVc hZ hR hN (c_Tape_expect N (Tape_at_s v1 q127) 59 q159 h163) zMX7_expect_ok rfl rfl zK_BorrowedLives_Year_70 zV_X7_expect rfl [4, 5, 8, 6] [1] [4, 5, 6, 7, 8] rfl rfl rfl (by decide) (by decide) (by omega) (by decide) (Nat.zero_le _) (Nat.zero_le _) rfl rfl rfl rfl rfl ?_
                      rintro v cc ⟨rfl, rfl⟩
                      refine ⟨_, rfl, rfl, ?_⟩
                      show AW Z 0 0 174 [some (.ref 0), some (.ref 4), some (.ref 9), some (.int q1)] [] ([kYear 0 (Year_s_words_first_second v0 (upd (Year_words v0) (Int32.toNatClampNeg (Year_lines v0)) q1) (upd (Year_first v0) (Int32.toNatClampNeg (Year_lines v0)) (-1)) (upd (Year_second v0) (Int32.toNatClampNeg (Year_lines v0)) (-1))), kTape 4 (Tape_s_at_fault v1 q159.1 q159.2), kTown 9 17 v2, kLaws 17 v3] : List (List zE)).flatten
                      replace hf := zlet_gen hf
                      generalize ((upd (Year_first v0) (Int32.toNatClampNeg (Year_lines v0)) (-1)) : (Nat → Int32)) = z160 at hf ⊢
                      replace hf := zlet_gen hf
                      generalize ((upd (Year_second v0) (Int32.toNatClampNeg (Year_lines v0)) (-1)) : (Nat → Int32)) = z161 at hf ⊢
                      replace hf := zlet_gen hf
                      generalize ((upd (Year_words v0) (Int32.toNatClampNeg (Year_lines v0)) q1) : (Nat → Int32)) = z162 at hf ⊢
                      refine AW.run hZ hRm [184] 400 ?_
                      show AW Z 0 0 184 [some (.ref 0), some (.ref 4), some (.ref 9), some (.int q1)] [] ([kYear 0 (Year_s_lines_words_first_second v0 ((Year_lines v0) + 1) z162 z160 z161), kTape 4 (Tape_s_at_fault v1 q159.1 q159.2), kTown 9 17 v2, kLaws 17 v3] : List (List zE)).flatten
                      cases hf
                      exact AW.vret hZ hE rfl rfl rfl (Nat.le_refl 0) (Nat.le_refl 0) rfl ⟨rfl, rfl⟩
                    · rw [if_pos c158] at hf
                      obtain ⟨b173, hf⟩ := zneed hf
                      refine ⟨b173, ?_⟩
                      obtain ⟨q165, h172, hf⟩ := zbind hf
                      refine AW.callSc hZ hR hN (c_Year_readOther N (Tape_at_s v1 q127) v2 v3 ((upd (Year_first v0) (Int32.toNatClampNeg (Year_lines v0)) (-1)) (Int32.toNatClampNeg (Year_lines v0))) q165 h172) zMX10_readOther_ok rfl rfl zK_BorrowedLives_Year_66 zV_X10_readOther rfl [4, 5, 8, 6] [1, 2, 3] [4, 5, 6, 7, 8, 9, 10, 11, 12, 13, 14, 15, 16, 17, 18, 19, 20, 21, 22] rfl rfl rfl (by decide) (by decide) (by omega) (by decide) (Nat.zero_le _) (Nat.zero_le _) rfl rfl ?_
                      rintro v cc ⟨rfl, rfl⟩
                      refine ⟨_, rfl, rfl, ?_⟩
                      show AW Z 0 0 163 [some (.ref 0), some (.ref 4), some (.ref 9), some (.int q1)] [.int q165.1, .int (Year_lines v0), .ref 3] ([kYear 0 (Year_s_words_first v0 (upd (Year_words v0) (Int32.toNatClampNeg (Year_lines v0)) q1) (upd (Year_first v0) (Int32.toNatClampNeg (Year_lines v0)) (-1))), kTape 4 (Tape_s_at_fault v1 q165.2.1 q165.2.2), kTown 9 17 v2, kLaws 17 v3] : List (List zE)).flatten
                      replace hf := zlet_gen hf
                      generalize ((upd (Year_first v0) (Int32.toNatClampNeg (Year_lines v0)) (-1)) : (Nat → Int32)) = z166 at hf ⊢
                      replace hf := zlet_gen hf
                      generalize ((upd (Year_words v0) (Int32.toNatClampNeg (Year_lines v0)) q1) : (Nat → Int32)) = z167 at hf ⊢
                      refine AW.run hZ hRm [171] 400 ?_
                      show (¬ ((Year_lines v0) < 0 ∨ 40 ≤ Int32.toNatClampNeg (Year_lines v0)) ∧ AW Z 0 0 171 [some (.ref 0), some (.ref 4), some (.ref 9), some (.int q1)] [.int 59, .ref 4] ([kYear 0 (Year_s_words_first_second v0 z167 z166 (upd (Year_second v0) (Int32.toNatClampNeg (Year_lines v0)) q165.1)), kTape 4 (Tape_s_at_fault v1 q165.2.1 q165.2.2), kTown 9 17 v2, kLaws 17 v3] : List (List zE)).flatten)
                      obtain ⟨b171, hf⟩ := zneed hf
                      refine ⟨b171, ?_⟩
                      obtain ⟨q168, h170, hf⟩ := zbind hf
                      refine AW.callVc hZ hR hN (c_Tape_expect N (Tape_s_at_fault v1 q165.2.1 q165.2.2) 59 q168 h170) zMX7_expect_ok rfl rfl zK_BorrowedLives_Year_70 zV_X7_expect rfl [4, 5, 8, 6] [1] [4, 5, 6, 7, 8] rfl rfl rfl (by decide) (by decide) (by omega) (by decide) (Nat.zero_le _) (Nat.zero_le _) rfl rfl rfl rfl rfl ?_
                      rintro v cc ⟨rfl, rfl⟩
                      refine ⟨_, rfl, rfl, ?_⟩
                      show AW Z 0 0 174 [some (.ref 0), some (.ref 4), some (.ref 9), some (.int q1)] [] ([kYear 0 (Year_s_words_first_second v0 z167 z166 (upd (Year_second v0) (Int32.toNatClampNeg (Year_lines v0)) q165.1)), kTape 4 (Tape_s_at_fault v1 q168.1 q168.2), kTown 9 17 v2, kLaws 17 v3] : List (List zE)).flatten
                      replace hf := zlet_gen hf
                      generalize ((upd (Year_second v0) (Int32.toNatClampNeg (Year_lines v0)) q165.1) : (Nat → Int32)) = z169 at hf ⊢
                      refine AW.run hZ hRm [184] 400 ?_
                      show AW Z 0 0 184 [some (.ref 0), some (.ref 4), some (.ref 9), some (.int q1)] [] ([kYear 0 (Year_s_lines_words_first_second v0 ((Year_lines v0) + 1) z167 z166 z169), kTape 4 (Tape_s_at_fault v1 q168.1 q168.2), kTown 9 17 v2, kLaws 17 v3] : List (List zE)).flatten
                      cases hf
                      exact AW.vret hZ hE rfl rfl rfl (Nat.le_refl 0) (Nat.le_refl 0) rfl ⟨rfl, rfl⟩
                  · rw [if_pos c157] at hf
                    obtain ⟨q174, h181, hf⟩ := zbind hf
                    refine AW.callVc hZ hR hN (c_Tape_readNumber N (Tape_at_s v1 q127) 999 q174 h181) zMX7_readNumber_ok rfl rfl zK_BorrowedLives_Year_58 zV_X7_readNumber rfl [4, 5, 8, 6] [1] [4, 5, 6, 7, 8] rfl rfl rfl (by decide) (by decide) (by omega) (by decide) (Nat.zero_le _) (Nat.zero_le _) rfl rfl rfl rfl rfl ?_
                    rintro v cc ⟨rfl, rfl⟩
                    refine ⟨_, rfl, rfl, ?_⟩
                    show AW Z 0 0 139 [some (.ref 0), some (.ref 4), some (.ref 9), some (.int q1)] [.int q174.1, .int (Year_lines v0), .ref 3] ([kYear 0 (Year_s_words_first v0 (upd (Year_words v0) (Int32.toNatClampNeg (Year_lines v0)) q1) (upd (Year_first v0) (Int32.toNatClampNeg (Year_lines v0)) (-1))), kTape 4 (Tape_s_at_fault v1 q174.2.1 q174.2.2), kTown 9 17 v2, kLaws 17 v3] : List (List zE)).flatten
                    replace hf := zlet_gen hf
                    generalize ((upd (Year_first v0) (Int32.toNatClampNeg (Year_lines v0)) (-1)) : (Nat → Int32)) = z175 at hf ⊢
                    replace hf := zlet_gen hf
                    generalize ((upd (Year_words v0) (Int32.toNatClampNeg (Year_lines v0)) q1) : (Nat → Int32)) = z176 at hf ⊢
                    refine AW.run hZ hRm [171] 400 ?_
                    show (¬ ((Year_lines v0) < 0 ∨ 40 ≤ Int32.toNatClampNeg (Year_lines v0)) ∧ AW Z 0 0 171 [some (.ref 0), some (.ref 4), some (.ref 9), some (.int q1)] [.int 59, .ref 4] ([kYear 0 (Year_s_words_first_second v0 z176 z175 (upd (Year_second v0) (Int32.toNatClampNeg (Year_lines v0)) q174.1)), kTape 4 (Tape_s_at_fault v1 q174.2.1 q174.2.2), kTown 9 17 v2, kLaws 17 v3] : List (List zE)).flatten)
                    obtain ⟨b180, hf⟩ := zneed hf
                    refine ⟨b180, ?_⟩
                    obtain ⟨q177, h179, hf⟩ := zbind hf
                    refine AW.callVc hZ hR hN (c_Tape_expect N (Tape_s_at_fault v1 q174.2.1 q174.2.2) 59 q177 h179) zMX7_expect_ok rfl rfl zK_BorrowedLives_Year_70 zV_X7_expect rfl [4, 5, 8, 6] [1] [4, 5, 6, 7, 8] rfl rfl rfl (by decide) (by decide) (by omega) (by decide) (Nat.zero_le _) (Nat.zero_le _) rfl rfl rfl rfl rfl ?_
                    rintro v cc ⟨rfl, rfl⟩
                    refine ⟨_, rfl, rfl, ?_⟩
                    show AW Z 0 0 174 [some (.ref 0), some (.ref 4), some (.ref 9), some (.int q1)] [] ([kYear 0 (Year_s_words_first_second v0 z176 z175 (upd (Year_second v0) (Int32.toNatClampNeg (Year_lines v0)) q174.1)), kTape 4 (Tape_s_at_fault v1 q177.1 q177.2), kTown 9 17 v2, kLaws 17 v3] : List (List zE)).flatten
                    replace hf := zlet_gen hf
                    generalize ((upd (Year_second v0) (Int32.toNatClampNeg (Year_lines v0)) q174.1) : (Nat → Int32)) = z178 at hf ⊢
                    refine AW.run hZ hRm [184] 400 ?_
                    show AW Z 0 0 184 [some (.ref 0), some (.ref 4), some (.ref 9), some (.int q1)] [] ([kYear 0 (Year_s_lines_words_first_second v0 ((Year_lines v0) + 1) z176 z175 z178), kTape 4 (Tape_s_at_fault v1 q177.1 q177.2), kTown 9 17 v2, kLaws 17 v3] : List (List zE)).flatten
                    cases hf
                    exact AW.vret hZ hE rfl rfl rfl (Nat.le_refl 0) (Nat.le_refl 0) rfl ⟨rfl, rfl⟩
                · rw [if_pos c156] at hf
                  obtain ⟨q183, h208, hf⟩ := zbind hf
                  refine AW.callVc hZ hR hN (c_Tape_readPerson N (Tape_at_s v1 q127) v2 v3 q183 h208) zMX7_readPerson_ok rfl rfl zK_BorrowedLives_Year_62 zV_X7_readPerson rfl [4, 5, 8, 6] [1, 2, 3] [4, 5, 6, 7, 8, 9, 10, 11, 12, 13, 14, 15, 16, 17, 18, 19, 20, 21, 22] rfl rfl rfl (by decide) (by decide) (by omega) (by decide) (Nat.zero_le _) (Nat.zero_le _) rfl rfl rfl rfl rfl ?_
                  rintro v cc ⟨rfl, rfl⟩
                  refine ⟨_, rfl, rfl, ?_⟩
                  show AW Z 0 0 112 [some (.ref 0), some (.ref 4), some (.ref 9), some (.int q1)] [.int q183.1, .int (Year_lines v0), .ref 2] ([kYear 0 (Year_words_s v0 (upd (Year_words v0) (Int32.toNatClampNeg (Year_lines v0)) q1)), kTape 4 (Tape_s_at_fault v1 q183.2.1 q183.2.2), kTown 9 17 v2, kLaws 17 v3] : List (List zE)).flatten
                  replace hf := zlet_gen hf
                  generalize ((upd (Year_words v0) (Int32.toNatClampNeg (Year_lines v0)) q1) : (Nat → Int32)) = z184 at hf ⊢
                  refine AW.run hZ hRm [136, 160, 171] 400 ?_
                  show (¬ ((Year_lines v0) < 0 ∨ 40 ≤ Int32.toNatClampNeg (Year_lines v0)) ∧ ((¬ (q1 = 139) → ((¬ (q1 = 141) → (¬ ((Year_lines v0) < 0 ∨ 40 ≤ Int32.toNatClampNeg (Year_lines v0)) ∧ AW Z 0 0 171 [some (.ref 0), some (.ref 4), some (.ref 9), some (.int q1)] [.int 59, .ref 4] ([kYear 0 (Year_s_words_first_second v0 z184 (upd (Year_first v0) (Int32.toNatClampNeg (Year_lines v0)) q183.1) (upd (Year_second v0) (Int32.toNatClampNeg (Year_lines v0)) (-1))), kTape 4 (Tape_s_at_fault v1 q183.2.1 q183.2.2), kTown 9 17 v2, kLaws 17 v3] : List (List zE)).flatten)) ∧ ((q1 = 141) → (¬ ((Year_lines v0) < 0 ∨ 40 ≤ Int32.toNatClampNeg (Year_lines v0)) ∧ AW Z 0 0 160 [some (.ref 0), some (.ref 4), some (.ref 9), some (.int q1)] [.int ((upd (Year_first v0) (Int32.toNatClampNeg (Year_lines v0)) q183.1) (Int32.toNatClampNeg (Year_lines v0))), .ref 9, .ref 4, .int (Year_lines v0), .ref 3] ([kYear 0 (Year_s_words_first v0 z184 (upd (Year_first v0) (Int32.toNatClampNeg (Year_lines v0)) q183.1)), kTape 4 (Tape_s_at_fault v1 q183.2.1 q183.2.2), kTown 9 17 v2, kLaws 17 v3] : List (List zE)).flatten)))) ∧ ((q1 = 139) → AW Z 0 0 136 [some (.ref 0), some (.ref 4), some (.ref 9), some (.int q1)] [.int 999, .ref 4, .int (Year_lines v0), .ref 3] ([kYear 0 (Year_s_words_first v0 z184 (upd (Year_first v0) (Int32.toNatClampNeg (Year_lines v0)) q183.1)), kTape 4 (Tape_s_at_fault v1 q183.2.1 q183.2.2), kTown 9 17 v2, kLaws 17 v3] : List (List zE)).flatten)))
                  obtain ⟨b207, hf⟩ := zneed hf
                  refine ⟨b207, ?_⟩
                  refine ⟨fun c185 => ?_, fun c185 => ?_⟩
                  · rw [if_neg c185] at hf
                    refine ⟨fun c186 => ?_, fun c186 => ?_⟩
                    · rw [if_neg c186] at hf
                      obtain ⟨b191, hf⟩ := zneed hf
                      refine ⟨b191, ?_⟩
                      obtain ⟨q187, h190, hf⟩ := zbind hf
                      refine AW.callVc hZ hR hN (c_Tape_expect N (Tape_s_at_fault v1 q183.2.1 q183.2.2) 59 q187 h190) zMX7_expect_ok rfl rfl zK_BorrowedLives_Year_70 zV_X7_expect rfl [4, 5, 8, 6] [1] [4, 5, 6, 7, 8] rfl rfl rfl (by decide) (by decide) (by omega) (by decide) (Nat.zero_le _) (Nat.zero_le _) rfl rfl rfl rfl rfl ?_
                      rintro v cc ⟨rfl, rfl⟩
                      refine ⟨_, rfl, rfl, ?_⟩
                      show AW Z 0 0 174 [some (.ref 0), some (.ref 4), some (.ref 9), some (.int q1)] [] ([kYear 0 (Year_s_words_first_second v0 z184 (upd (Year_first v0) (Int32.toNatClampNeg (Year_lines v0)) q183.1) (upd (Year_second v0) (Int32.toNatClampNeg (Year_lines v0)) (-1))), kTape 4 (Tape_s_at_fault v1 q187.1 q187.2), kTown 9 17 v2, kLaws 17 v3] : List (List zE)).flatten
                      replace hf := zlet_gen hf
                      generalize ((upd (Year_first v0) (Int32.toNatClampNeg (Year_lines v0)) q183.1) : (Nat → Int32)) = z188 at hf ⊢
                      replace hf := zlet_gen hf
                      generalize ((upd (Year_second v0) (Int32.toNatClampNeg (Year_lines v0)) (-1)) : (Nat → Int32)) = z189 at hf ⊢
                      refine AW.run hZ hRm [184] 400 ?_
                      show AW Z 0 0 184 [some (.ref 0), some (.ref 4), some (.ref 9), some (.int q1)] [] ([kYear 0 (Year_s_lines_words_first_second v0 ((Year_lines v0) + 1) z184 z188 z189), kTape 4 (Tape_s_at_fault v1 q187.1 q187.2), kTown 9 17 v2, kLaws 17 v3] : List (List zE)).flatten
                      cases hf
                      exact AW.vret hZ hE rfl rfl rfl (Nat.le_refl 0) (Nat.le_refl 0) rfl ⟨rfl, rfl⟩
                    · rw [if_pos c186] at hf
                      obtain ⟨b199, hf⟩ := zneed hf
                      refine ⟨b199, ?_⟩
                      obtain ⟨q192, h198, hf⟩ := zbind hf
                      refine AW.callSc hZ hR hN (c_Year_readOther N (Tape_s_at_fault v1 q183.2.1 q183.2.2) v2 v3 ((upd (Year_first v0) (Int32.toNatClampNeg (Year_lines v0)) q183.1) (Int32.toNatClampNeg (Year_lines v0))) q192 h198) zMX10_readOther_ok rfl rfl zK_BorrowedLives_Year_66 zV_X10_readOther rfl [4, 5, 8, 6] [1, 2, 3] [4, 5, 6, 7, 8, 9, 10, 11, 12, 13, 14, 15, 16, 17, 18, 19, 20, 21, 22] rfl rfl rfl (by decide) (by decide) (by omega) (by decide) (Nat.zero_le _) (Nat.zero_le _) rfl rfl ?_
                      rintro v cc ⟨rfl, rfl⟩
                      refine ⟨_, rfl, rfl, ?_⟩
                      show AW Z 0 0 163 [some (.ref 0), some (.ref 4), some (.ref 9), some (.int q1)] [.int q192.1, .int (Year_lines v0), .ref 3] ([kYear 0 (Year_s_words_first v0 z184 (upd (Year_first v0) (Int32.toNatClampNeg (Year_lines v0)) q183.1)), kTape 4 (Tape_s_at_fault v1 q192.2.1 q192.2.2), kTown 9 17 v2, kLaws 17 v3] : List (List zE)).flatten
                      replace hf := zlet_gen hf
                      generalize ((upd (Year_first v0) (Int32.toNatClampNeg (Year_lines v0)) q183.1) : (Nat → Int32)) = z193 at hf ⊢
                      refine AW.run hZ hRm [171] 400 ?_
                      show (¬ ((Year_lines v0) < 0 ∨ 40 ≤ Int32.toNatClampNeg (Year_lines v0)) ∧ AW Z 0 0 171 [some (.ref 0), some (.ref 4), some (.ref 9), some (.int q1)] [.int 59, .ref 4] ([kYear 0 (Year_s_words_first_second v0 z184 z193 (upd (Year_second v0) (Int32.toNatClampNeg (Year_lines v0)) q192.1)), kTape 4 (Tape_s_at_fault v1 q192.2.1 q192.2.2), kTown 9 17 v2, kLaws 17 v3] : List (List zE)).flatten)
                      obtain ⟨b197, hf⟩ := zneed hf
                      refine ⟨b197, ?_⟩
                      obtain ⟨q194, h196, hf⟩ := zbind hf
                      refine AW.callVc hZ hR hN (c_Tape_expect N (Tape_s_at_fault v1 q192.2.1 q192.2.2) 59 q194 h196) zMX7_expect_ok rfl rfl zK_BorrowedLives_Year_70 zV_X7_expect rfl [4, 5, 8, 6] [1] [4, 5, 6, 7, 8] rfl rfl rfl (by decide) (by decide) (by omega) (by decide) (Nat.zero_le _) (Nat.zero_le _) rfl rfl rfl rfl rfl ?_
                      rintro v cc ⟨rfl, rfl⟩
                      refine ⟨_, rfl, rfl, ?_⟩
                      show AW Z 0 0 174 [some (.ref 0), some (.ref 4), some (.ref 9), some (.int q1)] [] ([kYear 0 (Year_s_words_first_second v0 z184 z193 (upd (Year_second v0) (Int32.toNatClampNeg (Year_lines v0)) q192.1)), kTape 4 (Tape_s_at_fault v1 q194.1 q194.2), kTown 9 17 v2, kLaws 17 v3] : List (List zE)).flatten
                      replace hf := zlet_gen hf
                      generalize ((upd (Year_second v0) (Int32.toNatClampNeg (Year_lines v0)) q192.1) : (Nat → Int32)) = z195 at hf ⊢
                      refine AW.run hZ hRm [184] 400 ?_
                      show AW Z 0 0 184 [some (.ref 0), some (.ref 4), some (.ref 9), some (.int q1)] [] ([kYear 0 (Year_s_lines_words_first_second v0 ((Year_lines v0) + 1) z184 z193 z195), kTape 4 (Tape_s_at_fault v1 q194.1 q194.2), kTown 9 17 v2, kLaws 17 v3] : List (List zE)).flatten
                      cases hf
                      exact AW.vret hZ hE rfl rfl rfl (Nat.le_refl 0) (Nat.le_refl 0) rfl ⟨rfl, rfl⟩
                  · rw [if_pos c185] at hf
                    obtain ⟨q200, h206, hf⟩ := zbind hf
                    refine AW.callVc hZ hR hN (c_Tape_readNumber N (Tape_s_at_fault v1 q183.2.1 q183.2.2) 999 q200 h206) zMX7_readNumber_ok rfl rfl zK_BorrowedLives_Year_58 zV_X7_readNumber rfl [4, 5, 8, 6] [1] [4, 5, 6, 7, 8] rfl rfl rfl (by decide) (by decide) (by omega) (by decide) (Nat.zero_le _) (Nat.zero_le _) rfl rfl rfl rfl rfl ?_
                    rintro v cc ⟨rfl, rfl⟩
                    refine ⟨_, rfl, rfl, ?_⟩
                    show AW Z 0 0 139 [some (.ref 0), some (.ref 4), some (.ref 9), some (.int q1)] [.int q200.1, .int (Year_lines v0), .ref 3] ([kYear 0 (Year_s_words_first v0 z184 (upd (Year_first v0) (Int32.toNatClampNeg (Year_lines v0)) q183.1)), kTape 4 (Tape_s_at_fault v1 q200.2.1 q200.2.2), kTown 9 17 v2, kLaws 17 v3] : List (List zE)).flatten
                    replace hf := zlet_gen hf
                    generalize ((upd (Year_first v0) (Int32.toNatClampNeg (Year_lines v0)) q183.1) : (Nat → Int32)) = z201 at hf ⊢
                    refine AW.run hZ hRm [171] 400 ?_
                    show (¬ ((Year_lines v0) < 0 ∨ 40 ≤ Int32.toNatClampNeg (Year_lines v0)) ∧ AW Z 0 0 171 [some (.ref 0), some (.ref 4), some (.ref 9), some (.int q1)] [.int 59, .ref 4] ([kYear 0 (Year_s_words_first_second v0 z184 z201 (upd (Year_second v0) (Int32.toNatClampNeg (Year_lines v0)) q200.1)), kTape 4 (Tape_s_at_fault v1 q200.2.1 q200.2.2), kTown 9 17 v2, kLaws 17 v3] : List (List zE)).flatten)
                    obtain ⟨b205, hf⟩ := zneed hf
                    refine ⟨b205, ?_⟩
                    obtain ⟨q202, h204, hf⟩ := zbind hf
                    refine AW.callVc hZ hR hN (c_Tape_expect N (Tape_s_at_fault v1 q200.2.1 q200.2.2) 59 q202 h204) zMX7_expect_ok rfl rfl zK_BorrowedLives_Year_70 zV_X7_expect rfl [4, 5, 8, 6] [1] [4, 5, 6, 7, 8] rfl rfl rfl (by decide) (by decide) (by omega) (by decide) (Nat.zero_le _) (Nat.zero_le _) rfl rfl rfl rfl rfl ?_
                    rintro v cc ⟨rfl, rfl⟩
                    refine ⟨_, rfl, rfl, ?_⟩
                    show AW Z 0 0 174 [some (.ref 0), some (.ref 4), some (.ref 9), some (.int q1)] [] ([kYear 0 (Year_s_words_first_second v0 z184 z201 (upd (Year_second v0) (Int32.toNatClampNeg (Year_lines v0)) q200.1)), kTape 4 (Tape_s_at_fault v1 q202.1 q202.2), kTown 9 17 v2, kLaws 17 v3] : List (List zE)).flatten
                    replace hf := zlet_gen hf
                    generalize ((upd (Year_second v0) (Int32.toNatClampNeg (Year_lines v0)) q200.1) : (Nat → Int32)) = z203 at hf ⊢
                    refine AW.run hZ hRm [184] 400 ?_
                    show AW Z 0 0 184 [some (.ref 0), some (.ref 4), some (.ref 9), some (.int q1)] [] ([kYear 0 (Year_s_lines_words_first_second v0 ((Year_lines v0) + 1) z184 z201 z203), kTape 4 (Tape_s_at_fault v1 q202.1 q202.2), kTown 9 17 v2, kLaws 17 v3] : List (List zE)).flatten
                    cases hf
                    exact AW.vret hZ hE rfl rfl rfl (Nat.le_refl 0) (Nat.le_refl 0) rfl ⟨rfl, rfl⟩
            · rw [if_pos c128] at hf
              obtain ⟨q209, h234, hf⟩ := zbind hf
              refine AW.callVc hZ hR hN (c_Tape_readNumber N (Tape_at_s v1 q127) 9999 q209 h234) zMX7_readNumber_ok rfl rfl zK_BorrowedLives_Year_58 zV_X7_readNumber rfl [4, 5, 8, 6] [1] [4, 5, 6, 7, 8] rfl rfl rfl (by decide) (by decide) (by omega) (by decide) (Nat.zero_le _) (Nat.zero_le _) rfl rfl rfl rfl rfl ?_
              rintro v cc ⟨rfl, rfl⟩
              refine ⟨_, rfl, rfl, ?_⟩
              show AW Z 0 0 90 [some (.ref 0), some (.ref 4), some (.ref 9), some (.int q1)] [.int q209.1, .int (Year_lines v0), .ref 2] ([kYear 0 (Year_words_s v0 (upd (Year_words v0) (Int32.toNatClampNeg (Year_lines v0)) q1)), kTape 4 (Tape_s_at_fault v1 q209.2.1 q209.2.2), kTown 9 17 v2, kLaws 17 v3] : List (List zE)).flatten
              replace hf := zlet_gen hf
              generalize ((upd (Year_words v0) (Int32.toNatClampNeg (Year_lines v0)) q1) : (Nat → Int32)) = z210 at hf ⊢
              refine AW.run hZ hRm [136, 160, 171] 400 ?_
              show (¬ ((Year_lines v0) < 0 ∨ 40 ≤ Int32.toNatClampNeg (Year_lines v0)) ∧ ((¬ (q1 = 139) → ((¬ (q1 = 141) → (¬ ((Year_lines v0) < 0 ∨ 40 ≤ Int32.toNatClampNeg (Year_lines v0)) ∧ AW Z 0 0 171 [some (.ref 0), some (.ref 4), some (.ref 9), some (.int q1)] [.int 59, .ref 4] ([kYear 0 (Year_s_words_first_second v0 z210 (upd (Year_first v0) (Int32.toNatClampNeg (Year_lines v0)) q209.1) (upd (Year_second v0) (Int32.toNatClampNeg (Year_lines v0)) (-1))), kTape 4 (Tape_s_at_fault v1 q209.2.1 q209.2.2), kTown 9 17 v2, kLaws 17 v3] : List (List zE)).flatten)) ∧ ((q1 = 141) → (¬ ((Year_lines v0) < 0 ∨ 40 ≤ Int32.toNatClampNeg (Year_lines v0)) ∧ AW Z 0 0 160 [some (.ref 0), some (.ref 4), some (.ref 9), some (.int q1)] [.int ((upd (Year_first v0) (Int32.toNatClampNeg (Year_lines v0)) q209.1) (Int32.toNatClampNeg (Year_lines v0))), .ref 9, .ref 4, .int (Year_lines v0), .ref 3] ([kYear 0 (Year_s_words_first v0 z210 (upd (Year_first v0) (Int32.toNatClampNeg (Year_lines v0)) q209.1)), kTape 4 (Tape_s_at_fault v1 q209.2.1 q209.2.2), kTown 9 17 v2, kLaws 17 v3] : List (List zE)).flatten)))) ∧ ((q1 = 139) → AW Z 0 0 136 [some (.ref 0), some (.ref 4), some (.ref 9), some (.int q1)] [.int 999, .ref 4, .int (Year_lines v0), .ref 3] ([kYear 0 (Year_s_words_first v0 z210 (upd (Year_first v0) (Int32.toNatClampNeg (Year_lines v0)) q209.1)), kTape 4 (Tape_s_at_fault v1 q209.2.1 q209.2.2), kTown 9 17 v2, kLaws 17 v3] : List (List zE)).flatten)))
              obtain ⟨b233, hf⟩ := zneed hf
              refine ⟨b233, ?_⟩
              refine ⟨fun c211 => ?_, fun c211 => ?_⟩
              · rw [if_neg c211] at hf
                refine ⟨fun c212 => ?_, fun c212 => ?_⟩
                · rw [if_neg c212] at hf
                  obtain ⟨b217, hf⟩ := zneed hf
                  refine ⟨b217, ?_⟩
                  obtain ⟨q213, h216, hf⟩ := zbind hf
                  refine AW.callVc hZ hR hN (c_Tape_expect N (Tape_s_at_fault v1 q209.2.1 q209.2.2) 59 q213 h216) zMX7_expect_ok rfl rfl zK_BorrowedLives_Year_70 zV_X7_expect rfl [4, 5, 8, 6] [1] [4, 5, 6, 7, 8] rfl rfl rfl (by decide) (by decide) (by omega) (by decide) (Nat.zero_le _) (Nat.zero_le _) rfl rfl rfl rfl rfl ?_
                  rintro v cc ⟨rfl, rfl⟩
                  refine ⟨_, rfl, rfl, ?_⟩
                  show AW Z 0 0 174 [some (.ref 0), some (.ref 4), some (.ref 9), some (.int q1)] [] ([kYear 0 (Year_s_words_first_second v0 z210 (upd (Year_first v0) (Int32.toNatClampNeg (Year_lines v0)) q209.1) (upd (Year_second v0) (Int32.toNatClampNeg (Year_lines v0)) (-1))), kTape 4 (Tape_s_at_fault v1 q213.1 q213.2), kTown 9 17 v2, kLaws 17 v3] : List (List zE)).flatten
                  replace hf := zlet_gen hf
                  generalize ((upd (Year_first v0) (Int32.toNatClampNeg (Year_lines v0)) q209.1) : (Nat → Int32)) = z214 at hf ⊢
                  replace hf := zlet_gen hf
                  generalize ((upd (Year_second v0) (Int32.toNatClampNeg (Year_lines v0)) (-1)) : (Nat → Int32)) = z215 at hf ⊢
                  refine AW.run hZ hRm [184] 400 ?_
                  show AW Z 0 0 184 [some (.ref 0), some (.ref 4), some (.ref 9), some (.int q1)] [] ([kYear 0 (Year_s_lines_words_first_second v0 ((Year_lines v0) + 1) z210 z214 z215), kTape 4 (Tape_s_at_fault v1 q213.1 q213.2), kTown 9 17 v2, kLaws 17 v3] : List (List zE)).flatten
                  cases hf
                  exact AW.vret hZ hE rfl rfl rfl (Nat.le_refl 0) (Nat.le_refl 0) rfl ⟨rfl, rfl⟩
                · rw [if_pos c212] at hf
                  obtain ⟨b225, hf⟩ := zneed hf
                  refine ⟨b225, ?_⟩
                  obtain ⟨q218, h224, hf⟩ := zbind hf
                  refine AW.callSc hZ hR hN (c_Year_readOther N (Tape_s_at_fault v1 q209.2.1 q209.2.2) v2 v3 ((upd (Year_first v0) (Int32.toNatClampNeg (Year_lines v0)) q209.1) (Int32.toNatClampNeg (Year_lines v0))) q218 h224) zMX10_readOther_ok rfl rfl zK_BorrowedLives_Year_66 zV_X10_readOther rfl [4, 5, 8, 6] [1, 2, 3] [4, 5, 6, 7, 8, 9, 10, 11, 12, 13, 14, 15, 16, 17, 18, 19, 20, 21, 22] rfl rfl rfl (by decide) (by decide) (by omega) (by decide) (Nat.zero_le _) (Nat.zero_le _) rfl rfl ?_
                  rintro v cc ⟨rfl, rfl⟩
                  refine ⟨_, rfl, rfl, ?_⟩
                  show AW Z 0 0 163 [some (.ref 0), some (.ref 4), some (.ref 9), some (.int q1)] [.int q218.1, .int (Year_lines v0), .ref 3] ([kYear 0 (Year_s_words_first v0 z210 (upd (Year_first v0) (Int32.toNatClampNeg (Year_lines v0)) q209.1)), kTape 4 (Tape_s_at_fault v1 q218.2.1 q218.2.2), kTown 9 17 v2, kLaws 17 v3] : List (List zE)).flatten
                  replace hf := zlet_gen hf
                  generalize ((upd (Year_first v0) (Int32.toNatClampNeg (Year_lines v0)) q209.1) : (Nat → Int32)) = z219 at hf ⊢
                  refine AW.run hZ hRm [171] 400 ?_
                  show (¬ ((Year_lines v0) < 0 ∨ 40 ≤ Int32.toNatClampNeg (Year_lines v0)) ∧ AW Z 0 0 171 [some (.ref 0), some (.ref 4), some (.ref 9), some (.int q1)] [.int 59, .ref 4] ([kYear 0 (Year_s_words_first_second v0 z210 z219 (upd (Year_second v0) (Int32.toNatClampNeg (Year_lines v0)) q218.1)), kTape 4 (Tape_s_at_fault v1 q218.2.1 q218.2.2), kTown 9 17 v2, kLaws 17 v3] : List (List zE)).flatten)
                  obtain ⟨b223, hf⟩ := zneed hf
                  refine ⟨b223, ?_⟩
                  obtain ⟨q220, h222, hf⟩ := zbind hf
                  refine AW.callVc hZ hR hN (c_Tape_expect N (Tape_s_at_fault v1 q218.2.1 q218.2.2) 59 q220 h222) zMX7_expect_ok rfl rfl zK_BorrowedLives_Year_70 zV_X7_expect rfl [4, 5, 8, 6] [1] [4, 5, 6, 7, 8] rfl rfl rfl (by decide) (by decide) (by omega) (by decide) (Nat.zero_le _) (Nat.zero_le _) rfl rfl rfl rfl rfl ?_
                  rintro v cc ⟨rfl, rfl⟩
                  refine ⟨_, rfl, rfl, ?_⟩
                  show AW Z 0 0 174 [some (.ref 0), some (.ref 4), some (.ref 9), some (.int q1)] [] ([kYear 0 (Year_s_words_first_second v0 z210 z219 (upd (Year_second v0) (Int32.toNatClampNeg (Year_lines v0)) q218.1)), kTape 4 (Tape_s_at_fault v1 q220.1 q220.2), kTown 9 17 v2, kLaws 17 v3] : List (List zE)).flatten
                  replace hf := zlet_gen hf
                  generalize ((upd (Year_second v0) (Int32.toNatClampNeg (Year_lines v0)) q218.1) : (Nat → Int32)) = z221 at hf ⊢
                  refine AW.run hZ hRm [184] 400 ?_
                  show AW Z 0 0 184 [some (.ref 0), some (.ref 4), some (.ref 9), some (.int q1)] [] ([kYear 0 (Year_s_lines_words_first_second v0 ((Year_lines v0) + 1) z210 z219 z221), kTape 4 (Tape_s_at_fault v1 q220.1 q220.2), kTown 9 17 v2, kLaws 17 v3] : List (List zE)).flatten
                  cases hf
                  exact AW.vret hZ hE rfl rfl rfl (Nat.le_refl 0) (Nat.le_refl 0) rfl ⟨rfl, rfl⟩
              · rw [if_pos c211] at hf
                obtain ⟨q226, h232, hf⟩ := zbind hf
                refine AW.callVc hZ hR hN (c_Tape_readNumber N (Tape_s_at_fault v1 q209.2.1 q209.2.2) 999 q226 h232) zMX7_readNumber_ok rfl rfl zK_BorrowedLives_Year_58 zV_X7_readNumber rfl [4, 5, 8, 6] [1] [4, 5, 6, 7, 8] rfl rfl rfl (by decide) (by decide) (by omega) (by decide) (Nat.zero_le _) (Nat.zero_le _) rfl rfl rfl rfl rfl ?_
                rintro v cc ⟨rfl, rfl⟩
                refine ⟨_, rfl, rfl, ?_⟩
                show AW Z 0 0 139 [some (.ref 0), some (.ref 4), some (.ref 9), some (.int q1)] [.int q226.1, .int (Year_lines v0), .ref 3] ([kYear 0 (Year_s_words_first v0 z210 (upd (Year_first v0) (Int32.toNatClampNeg (Year_lines v0)) q209.1)), kTape 4 (Tape_s_at_fault v1 q226.2.1 q226.2.2), kTown 9 17 v2, kLaws 17 v3] : List (List zE)).flatten
                replace hf := zlet_gen hf
                generalize ((upd (Year_first v0) (Int32.toNatClampNeg (Year_lines v0)) q209.1) : (Nat → Int32)) = z227 at hf ⊢
                refine AW.run hZ hRm [171] 400 ?_
                show (¬ ((Year_lines v0) < 0 ∨ 40 ≤ Int32.toNatClampNeg (Year_lines v0)) ∧ AW Z 0 0 171 [some (.ref 0), some (.ref 4), some (.ref 9), some (.int q1)] [.int 59, .ref 4] ([kYear 0 (Year_s_words_first_second v0 z210 z227 (upd (Year_second v0) (Int32.toNatClampNeg (Year_lines v0)) q226.1)), kTape 4 (Tape_s_at_fault v1 q226.2.1 q226.2.2), kTown 9 17 v2, kLaws 17 v3] : List (List zE)).flatten)
                obtain ⟨b231, hf⟩ := zneed hf
                refine ⟨b231, ?_⟩
                obtain ⟨q228, h230, hf⟩ := zbind hf
                refine AW.callVc hZ hR hN (c_Tape_expect N (Tape_s_at_fault v1 q226.2.1 q226.2.2) 59 q228 h230) zMX7_expect_ok rfl rfl zK_BorrowedLives_Year_70 zV_X7_expect rfl [4, 5, 8, 6] [1] [4, 5, 6, 7, 8] rfl rfl rfl (by decide) (by decide) (by omega) (by decide) (Nat.zero_le _) (Nat.zero_le _) rfl rfl rfl rfl rfl ?_
                rintro v cc ⟨rfl, rfl⟩
                refine ⟨_, rfl, rfl, ?_⟩
                show AW Z 0 0 174 [some (.ref 0), some (.ref 4), some (.ref 9), some (.int q1)] [] ([kYear 0 (Year_s_words_first_second v0 z210 z227 (upd (Year_second v0) (Int32.toNatClampNeg (Year_lines v0)) q226.1)), kTape 4 (Tape_s_at_fault v1 q228.1 q228.2), kTown 9 17 v2, kLaws 17 v3] : List (List zE)).flatten
                replace hf := zlet_gen hf
                generalize ((upd (Year_second v0) (Int32.toNatClampNeg (Year_lines v0)) q226.1) : (Nat → Int32)) = z229 at hf ⊢
                refine AW.run hZ hRm [184] 400 ?_
                show AW Z 0 0 184 [some (.ref 0), some (.ref 4), some (.ref 9), some (.int q1)] [] ([kYear 0 (Year_s_lines_words_first_second v0 ((Year_lines v0) + 1) z210 z227 z229), kTape 4 (Tape_s_at_fault v1 q228.1 q228.2), kTown 9 17 v2, kLaws 17 v3] : List (List zE)).flatten
                cases hf
                exact AW.vret hZ hE rfl rfl rfl (Nat.le_refl 0) (Nat.le_refl 0) rfl ⟨rfl, rfl⟩
          · rw [if_neg c126] at hf
            obtain ⟨q237, h238, hf⟩ := zbind hf
            refine AW.callVc hZ hR hN (c_Tape_wrong N v1 5 q237 h238) zMX7_wrong_ok rfl rfl zK_BorrowedLives_Year_51 zV_X7_wrong rfl [4, 5, 8, 6] [1] [4, 5, 6, 7, 8] rfl rfl rfl (by decide) (by decide) (by omega) (by decide) (Nat.zero_le _) (Nat.zero_le _) rfl rfl rfl rfl rfl ?_
            rintro v cc ⟨rfl, rfl⟩
            refine ⟨_, rfl, rfl, ?_⟩
            show AW Z 0 0 53 [some (.ref 0), some (.ref 4), some (.ref 9), some (.int q1)] [] ([kYear 0 v0, kTape 4 (Tape_fault_s v1 q237), kTown 9 17 v2, kLaws 17 v3] : List (List zE)).flatten
            cases hf
            exact AW.vret hZ hE rfl rfl rfl (Nat.le_refl 0) (Nat.le_refl 0) rfl ⟨rfl, rfl⟩
      · rw [if_neg c122] at hf
        obtain ⟨q239, h240, hf⟩ := zbind hf
        refine AW.callVc hZ hR hN (c_Tape_wrong N v1 1 q239 h240) zMX7_wrong_ok rfl rfl zK_BorrowedLives_Year_51 zV_X7_wrong rfl [4, 5, 8, 6] [1] [4, 5, 6, 7, 8] rfl rfl rfl (by decide) (by decide) (by omega) (by decide) (Nat.zero_le _) (Nat.zero_le _) rfl rfl rfl rfl rfl ?_
        rintro v cc ⟨rfl, rfl⟩
        refine ⟨_, rfl, rfl, ?_⟩
        show AW Z 0 0 31 [some (.ref 0), some (.ref 4), some (.ref 9), some (.int q1)] [] ([kYear 0 v0, kTape 4 (Tape_fault_s v1 q239), kTown 9 17 v2, kLaws 17 v3] : List (List zE)).flatten
        cases hf
        exact AW.vret hZ hE rfl rfl rfl (Nat.le_refl 0) (Nat.le_refl 0) rfl ⟨rfl, rfl⟩
