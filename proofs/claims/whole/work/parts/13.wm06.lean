def f_R_takePart_b (r_f_R_takePart : (VR → Int32 → Option (Int32 × Int32 × (Nat → Int32) × (Nat → Int32) × Int32))) (r_f_R_products : (VR → Int32 → Option (Int32 × Int32 × (Nat → Int32) × (Nat → Int32) × Int32))) (r_f_R_sums : (VR → Int32 → Option (Int32 × Int32 × (Nat → Int32) × (Nat → Int32) × Int32))) (r_f_R_test : (VR → Int32 → Option (Int32 × Int32 × (Nat → Int32) × (Nat → Int32) × Int32))) (r_f_R_all : (VR → Int32 → Option (Int32 × Int32 × (Nat → Int32) × (Nat → Int32) × Int32))) (N : Nat) (v0 : VR) (a1 : Int32) : Option (Int32 × Int32 × (Nat → Int32) × (Nat → Int32) × Int32) := (if ((R_fault v0) ≤ 0) then (if ((R_at v0) < 0 ∨ 1002 ≤ Int32.toNatClampNeg (R_at v0)) then none else (zlet ((if (((R_sort v0) (Int32.toNatClampNeg (R_at v0))) = 2) then 1 else 0) : Int32) (fun z4 => ((f_R_wordHere N v0 22 5).bind (fun q5 => (zlet ((if (q5 < 0) then (-1) else (if ((((R_factsHere v0) >>> (q5 &&& 31)) &&& 1) = 1) then q5 else (-1))) : Int32) (fun z9 => (if (0 ≤ z9) then (if (a1 = 5) then ((f_R_wrong N v0 5).bind (fun q35 => (if (q35 ≤ 0) then ((f_R_hasWord N (R_fault_s v0 q35) 19).bind (fun q37 => (if (q37.1 = 0) then ((f_R_hasSign N (R_s_at_fault v0 q37.2 q35) 40).bind (fun q39 => (if (q39.1 = 0) then (if (z4 = 0) then ((f_R_emit N (R_s_at_fault v0 q39.2 q35) (if (z4 = 0) then 2 else 1) z9).bind (fun q44 => (some ((q39.2 + 1), q35, q44.1, q44.2.1, q44.2.2)))) else (if (q39.2 < 0 ∨ 1002 ≤ Int32.toNatClampNeg q39.2) then none else ((f_R_emit N (R_s_at_fault v0 q39.2 q35) (if (z4 = 0) then 2 else 1) (Int64.toInt32 ((R_value v0) (Int32.toNatClampNeg q39.2)))).bind (fun q46 => (some ((q39.2 + 1), q35, q46.1, q46.2.1, q46.2.2)))))) else ((r_f_R_all (R_s_at_fault v0 q39.2 q35) (a1 + 1)).bind (fun q49 => ((f_R_takeSign N (R_s_at_fault_op_arg_codes v0 q49.1 q49.2.1 q49.2.2.1 q49.2.2.2.1 q49.2.2.2.2) 41).bind (fun q50 => (some (q50.1, q50.2, q49.2.2.1, q49.2.2.2.1, q49.2.2.2.2))))))))) else ((r_f_R_takePart (R_s_at_fault v0 q37.2 q35) (a1 + 1)).bind (fun q54 => ((f_R_emit N (R_s_at_fault_op_arg_codes v0 q54.1 q54.2.1 q54.2.2.1 q54.2.2.2.1 q54.2.2.2.2) 3 0).bind (fun q55 => (some (q54.1, q54.2.1, q55.1, q55.2.1, q55.2.2))))))))) else (some ((R_at v0), q35, (R_op v0), (R_arg v0), (R_codes v0)))))) else (if ((R_fault v0) ≤ 0) then ((f_R_hasWord N v0 19).bind (fun q13 => (if (q13.1 = 0) then ((f_R_hasSign N (R_at_s v0 q13.2) 40).bind (fun q15 => (if (q15.1 = 0) then (if (z4 = 0) then ((f_R_emit N (R_at_s v0 q15.2) (if (z4 = 0) then 2 else 1) z9).bind (fun q20 => (some ((q15.2 + 1), (R_fault v0), q20.1, q20.2.1, q20.2.2)))) else (if (q15.2 < 0 ∨ 1002 ≤ Int32.toNatClampNeg q15.2) then none else ((f_R_emit N (R_at_s v0 q15.2) (if (z4 = 0) then 2 else 1) (Int64.toInt32 ((R_value v0) (Int32.toNatClampNeg q15.2)))).bind (fun q22 => (some ((q15.2 + 1), (R_fault v0), q22.1, q22.2.1, q22.2.2)))))) else ((r_f_R_all (R_at_s v0 q15.2) (a1 + 1)).bind (fun q25 => ((f_R_takeSign N (R_s_at_fault_op_arg_codes v0 q25.1 q25.2.1 q25.2.2.1 q25.2.2.2.1 q25.2.2.2.2) 41).bind (fun q26 => (some (q26.1, q26.2, q25.2.2.1, q25.2.2.2.1, q25.2.2.2.2))))))))) else ((r_f_R_takePart (R_at_s v0 q13.2) (a1 + 1)).bind (fun q30 => ((f_R_emit N (R_s_at_fault_op_arg_codes v0 q30.1 q30.2.1 q30.2.2.1 q30.2.2.2.1 q30.2.2.2.2) 3 0).bind (fun q31 => (some (q30.1, q30.2.1, q31.1, q31.2.1, q31.2.2))))))))) else (some ((R_at v0), (R_fault v0), (R_op v0), (R_arg v0), (R_codes v0))))) else (if (z4 = 0) then ((f_R_isSign N v0 40).bind (fun q110 => (if (q110 = 0) then ((f_R_isWord N v0 19).bind (fun q161 => (if (q161 = 0) then ((f_R_wrong N v0 1).bind (fun q212 => (if (q212 ≤ 0) then ((f_R_hasWord N (R_fault_s v0 q212) 19).bind (fun q214 => (if (q214.1 = 0) then ((f_R_hasSign N (R_s_at_fault v0 q214.2 q212) 40).bind (fun q216 => (if (q216.1 = 0) then (if (z4 = 0) then ((f_R_emit N (R_s_at_fault v0 q216.2 q212) (if (z4 = 0) then 2 else 1) z9).bind (fun q221 => (some ((q216.2 + 1), q212, q221.1, q221.2.1, q221.2.2)))) else (if (q216.2 < 0 ∨ 1002 ≤ Int32.toNatClampNeg q216.2) then none else ((f_R_emit N (R_s_at_fault v0 q216.2 q212) (if (z4 = 0) then 2 else 1) (Int64.toInt32 ((R_value v0) (Int32.toNatClampNeg q216.2)))).bind (fun q223 => (some ((q216.2 + 1), q212, q223.1, q223.2.1, q223.2.2)))))) else ((r_f_R_all (R_s_at_fault v0 q216.2 q212) (a1 + 1)).bind (fun q226 => ((f_R_takeSign N (R_s_at_fault_op_arg_codes v0 q226.1 q226.2.1 q226.2.2.1 q226.2.2.2.1 q226.2.2.2.2) 41).bind (fun q227 => (some (q227.1, q227.2, q226.2.2.1, q226.2.2.2.1, q226.2.2.2.2))))))))) else ((r_f_R_takePart (R_s_at_fault v0 q214.2 q212) (a1 + 1)).bind (fun q231 => ((f_R_emit N (R_s_at_fault_op_arg_codes v0 q231.1 q231.2.1 q231.2.2.1 q231.2.2.2.1 q231.2.2.2.2) 3 0).bind (fun q232 => (some (q231.1, q231.2.1, q232.1, q232.2.1, q232.2.2))))))))) else (some ((R_at v0), q212, (R_op v0), (R_arg v0), (R_codes v0)))))) else (if (a1 = 5) then ((f_R_wrong N v0 5).bind (fun q187 => (if (q187 ≤ 0) then ((f_R_hasWord N (R_fault_s v0 q187) 19).bind (fun q189 => (if (q189.1 = 0) then ((f_R_hasSign N (R_s_at_fault v0 q189.2 q187) 40).bind (fun q191 => (if (q191.1 = 0) then (if (z4 = 0) then ((f_R_emit N (R_s_at_fault v0 q191.2 q187) (if (z4 = 0) then 2 else 1) z9).bind (fun q196 => (some ((q191.2 + 1), q187, q196.1, q196.2.1, q196.2.2)))) else (if (q191.2 < 0 ∨ 1002 ≤ Int32.toNatClampNeg q191.2) then none else ((f_R_emit N (R_s_at_fault v0 q191.2 q187) (if (z4 = 0) then 2 else 1) (Int64.toInt32 ((R_value v0) (Int32.toNatClampNeg q191.2)))).bind (fun q198 => (some ((q191.2 + 1), q187, q198.1, q198.2.1, q198.2.2)))))) else ((r_f_R_all (R_s_at_fault v0 q191.2 q187) (a1 + 1)).bind (fun q201 => ((f_R_takeSign N (R_s_at_fault_op_arg_codes v0 q201.1 q201.2.1 q201.2.2.1 q201.2.2.2.1 q201.2.2.2.2) 41).bind (fun q202 => (some (q202.1, q202.2, q201.2.2.1, q201.2.2.2.1, q201.2.2.2.2))))))))) else ((r_f_R_takePart (R_s_at_fault v0 q189.2 q187) (a1 + 1)).bind (fun q206 => ((f_R_emit N (R_s_at_fault_op_arg_codes v0 q206.1 q206.2.1 q206.2.2.1 q206.2.2.2.1 q206.2.2.2.2) 3 0).bind (fun q207 => (some (q206.1, q206.2.1, q207.1, q207.2.1, q207.2.2))))))))) else (some ((R_at v0), q187, (R_op v0), (R_arg v0), (R_codes v0)))))) else (if ((R_fault v0) ≤ 0) then ((f_R_hasWord N v0 19).bind (fun q165 => (if (q165.1 = 0) then ((f_R_hasSign N (R_at_s v0 q165.2) 40).bind (fun q167 => (if (q167.1 = 0) then (if (z4 = 0) then ((f_R_emit N (R_at_s v0 q167.2) (if (z4 = 0) then 2 else 1) z9).bind (fun q172 => (some ((q167.2 + 1), (R_fault v0), q172.1, q172.2.1, q172.2.2)))) else (if (q167.2 < 0 ∨ 1002 ≤ Int32.toNatClampNeg q167.2) then none else ((f_R_emit N (R_at_s v0 q167.2) (if (z4 = 0) then 2 else 1) (Int64.toInt32 ((R_value v0) (Int32.toNatClampNeg q167.2)))).bind (fun q174 => (some ((q167.2 + 1), (R_fault v0), q174.1, q174.2.1, q174.2.2)))))) else ((r_f_R_all (R_at_s v0 q167.2) (a1 + 1)).bind (fun q177 => ((f_R_takeSign N (R_s_at_fault_op_arg_codes v0 q177.1 q177.2.1 q177.2.2.1 q177.2.2.2.1 q177.2.2.2.2) 41).bind (fun q178 => (some (q178.1, q178.2, q177.2.2.1, q177.2.2.2.1, q177.2.2.2.2))))))))) else ((r_f_R_takePart (R_at_s v0 q165.2) (a1 + 1)).bind (fun q182 => ((f_R_emit N (R_s_at_fault_op_arg_codes v0 q182.1 q182.2.1 q182.2.2.1 q182.2.2.2.1 q182.2.2.2.2) 3 0).bind (fun q183 => (some (q182.1, q182.2.1, q183.1, q183.2.1, q183.2.2))))))))) else (some ((R_at v0), (R_fault v0), (R_op v0), (R_arg v0), (R_codes v0)))))))) else (if (a1 = 5) then ((f_R_wrong N v0 5).bind (fun q136 => (if (q136 ≤ 0) then ((f_R_hasWord N (R_fault_s v0 q136) 19).bind (fun q138 => (if (q138.1 = 0) then ((f_R_hasSign N (R_s_at_fault v0 q138.2 q136) 40).bind (fun q140 => (if (q140.1 = 0) then (if (z4 = 0) then ((f_R_emit N (R_s_at_fault v0 q140.2 q136) (if (z4 = 0) then 2 else 1) z9).bind (fun q145 => (some ((q140.2 + 1), q136, q145.1, q145.2.1, q145.2.2)))) else (if (q140.2 < 0 ∨ 1002 ≤ Int32.toNatClampNeg q140.2) then none else ((f_R_emit N (R_s_at_fault v0 q140.2 q136) (if (z4 = 0) then 2 else 1) (Int64.toInt32 ((R_value v0) (Int32.toNatClampNeg q140.2)))).bind (fun q147 => (some ((q140.2 + 1), q136, q147.1, q147.2.1, q147.2.2)))))) else ((r_f_R_all (R_s_at_fault v0 q140.2 q136) (a1 + 1)).bind (fun q150 => ((f_R_takeSign N (R_s_at_fault_op_arg_codes v0 q150.1 q150.2.1 q150.2.2.1 q150.2.2.2.1 q150.2.2.2.2) 41).bind (fun q151 => (some (q151.1, q151.2, q150.2.2.1, q150.2.2.2.1, q150.2.2.2.2))))))))) else ((r_f_R_takePart (R_s_at_fault v0 q138.2 q136) (a1 + 1)).bind (fun q155 => ((f_R_emit N (R_s_at_fault_op_arg_codes v0 q155.1 q155.2.1 q155.2.2.1 q155.2.2.2.1 q155.2.2.2.2) 3 0).bind (fun q156 => (some (q155.1, q155.2.1, q156.1, q156.2.1, q156.2.2))))))))) else (some ((R_at v0), q136, (R_op v0), (R_arg v0), (R_codes v0)))))) else (if ((R_fault v0) ≤ 0) then ((f_R_hasWord N v0 19).bind (fun q114 => (if (q114.1 = 0) then ((f_R_hasSign N (R_at_s v0 q114.2) 40).bind (fun q116 => (if (q116.1 = 0) then (if (z4 = 0) then ((f_R_emit N (R_at_s v0 q116.2) (if (z4 = 0) then 2 else 1) z9).bind (fun q121 => (some ((q116.2 + 1), (R_fault v0), q121.1, q121.2.1, q121.2.2)))) else (if (q116.2 < 0 ∨ 1002 ≤ Int32.toNatClampNeg q116.2) then none else ((f_R_emit N (R_at_s v0 q116.2) (if (z4 = 0) then 2 else 1) (Int64.toInt32 ((R_value v0) (Int32.toNatClampNeg q116.2)))).bind (fun q123 => (some ((q116.2 + 1), (R_fault v0), q123.1, q123.2.1, q123.2.2)))))) else ((r_f_R_all (R_at_s v0 q116.2) (a1 + 1)).bind (fun q126 => ((f_R_takeSign N (R_s_at_fault_op_arg_codes v0 q126.1 q126.2.1 q126.2.2.1 q126.2.2.2.1 q126.2.2.2.2) 41).bind (fun q127 => (some (q127.1, q127.2, q126.2.2.1, q126.2.2.2.1, q126.2.2.2.2))))))))) else ((r_f_R_takePart (R_at_s v0 q114.2) (a1 + 1)).bind (fun q131 => ((f_R_emit N (R_s_at_fault_op_arg_codes v0 q131.1 q131.2.1 q131.2.2.1 q131.2.2.2.1 q131.2.2.2.2) 3 0).bind (fun q132 => (some (q131.1, q131.2.1, q132.1, q132.2.1, q132.2.2))))))))) else (some ((R_at v0), (R_fault v0), (R_op v0), (R_arg v0), (R_codes v0)))))))) else (if (a1 = 5) then ((f_R_wrong N v0 5).bind (fun q85 => (if (q85 ≤ 0) then ((f_R_hasWord N (R_fault_s v0 q85) 19).bind (fun q87 => (if (q87.1 = 0) then ((f_R_hasSign N (R_s_at_fault v0 q87.2 q85) 40).bind (fun q89 => (if (q89.1 = 0) then (if (z4 = 0) then ((f_R_emit N (R_s_at_fault v0 q89.2 q85) (if (z4 = 0) then 2 else 1) z9).bind (fun q94 => (some ((q89.2 + 1), q85, q94.1, q94.2.1, q94.2.2)))) else (if (q89.2 < 0 ∨ 1002 ≤ Int32.toNatClampNeg q89.2) then none else ((f_R_emit N (R_s_at_fault v0 q89.2 q85) (if (z4 = 0) then 2 else 1) (Int64.toInt32 ((R_value v0) (Int32.toNatClampNeg q89.2)))).bind (fun q96 => (some ((q89.2 + 1), q85, q96.1, q96.2.1, q96.2.2)))))) else ((r_f_R_all (R_s_at_fault v0 q89.2 q85) (a1 + 1)).bind (fun q99 => ((f_R_takeSign N (R_s_at_fault_op_arg_codes v0 q99.1 q99.2.1 q99.2.2.1 q99.2.2.2.1 q99.2.2.2.2) 41).bind (fun q100 => (some (q100.1, q100.2, q99.2.2.1, q99.2.2.2.1, q99.2.2.2.2))))))))) else ((r_f_R_takePart (R_s_at_fault v0 q87.2 q85) (a1 + 1)).bind (fun q104 => ((f_R_emit N (R_s_at_fault_op_arg_codes v0 q104.1 q104.2.1 q104.2.2.1 q104.2.2.2.1 q104.2.2.2.2) 3 0).bind (fun q105 => (some (q104.1, q104.2.1, q105.1, q105.2.1, q105.2.2))))))))) else (some ((R_at v0), q85, (R_op v0), (R_arg v0), (R_codes v0)))))) else (if ((R_fault v0) ≤ 0) then ((f_R_hasWord N v0 19).bind (fun q63 => (if (q63.1 = 0) then ((f_R_hasSign N (R_at_s v0 q63.2) 40).bind (fun q65 => (if (q65.1 = 0) then (if (z4 = 0) then ((f_R_emit N (R_at_s v0 q65.2) (if (z4 = 0) then 2 else 1) z9).bind (fun q70 => (some ((q65.2 + 1), (R_fault v0), q70.1, q70.2.1, q70.2.2)))) else (if (q65.2 < 0 ∨ 1002 ≤ Int32.toNatClampNeg q65.2) then none else ((f_R_emit N (R_at_s v0 q65.2) (if (z4 = 0) then 2 else 1) (Int64.toInt32 ((R_value v0) (Int32.toNatClampNeg q65.2)))).bind (fun q72 => (some ((q65.2 + 1), (R_fault v0), q72.1, q72.2.1, q72.2.2)))))) else ((r_f_R_all (R_at_s v0 q65.2) (a1 + 1)).bind (fun q75 => ((f_R_takeSign N (R_s_at_fault_op_arg_codes v0 q75.1 q75.2.1 q75.2.2.1 q75.2.2.2.1 q75.2.2.2.2) 41).bind (fun q76 => (some (q76.1, q76.2, q75.2.2.1, q75.2.2.2.1, q75.2.2.2.2))))))))) else ((r_f_R_takePart (R_at_s v0 q63.2) (a1 + 1)).bind (fun q80 => ((f_R_emit N (R_s_at_fault_op_arg_codes v0 q80.1 q80.2.1 q80.2.2.1 q80.2.2.2.1 q80.2.2.2.2) 3 0).bind (fun q81 => (some (q80.1, q80.2.1, q81.1, q81.2.1, q81.2.2))))))))) else (some ((R_at v0), (R_fault v0), (R_op v0), (R_arg v0), (R_codes v0)))))))))))))) else (some ((R_at v0), (R_fault v0), (R_op v0), (R_arg v0), (R_codes v0))))
def f_R_products_L5 (r_f_R_takePart : (VR → Int32 → Option (Int32 × Int32 × (Nat → Int32) × (Nat → Int32) × Int32))) (r_f_R_products : (VR → Int32 → Option (Int32 × Int32 × (Nat → Int32) × (Nat → Int32) × Int32))) (r_f_R_sums : (VR → Int32 → Option (Int32 × Int32 × (Nat → Int32) × (Nat → Int32) × Int32))) (r_f_R_test : (VR → Int32 → Option (Int32 × Int32 × (Nat → Int32) × (Nat → Int32) × Int32))) (r_f_R_all : (VR → Int32 → Option (Int32 × Int32 × (Nat → Int32) × (Nat → Int32) × Int32))) (N : Nat) : Nat → VR → Int32 → Int32 → Int32 → (Nat → Int32) → (Nat → Int32) → Int32 → Option (Int32 × Int32 × (Nat → Int32) × (Nat → Int32) × Int32)
  | 0, _, _, _, _, _, _, _ => none
  | fuel + 1, v0, y1, m_at0, m_fault1, m_op2, m_arg3, m_codes4 => ((f_R_hasSign N (R_s_at_fault_op_arg_codes v0 m_at0 m_fault1 m_op2 m_arg3 m_codes4) 42).bind (fun q2 => (if (q2.1 = 0) then (some (q2.2, m_fault1, m_op2, m_arg3, m_codes4)) else ((r_f_R_takePart (R_s_at_fault_op_arg_codes v0 q2.2 m_fault1 m_op2 m_arg3 m_codes4) y1).bind (fun q4 => ((f_R_emit N (R_s_at_fault_op_arg_codes v0 q4.1 q4.2.1 q4.2.2.1 q4.2.2.2.1 q4.2.2.2.2) 6 0).bind (fun q5 => (f_R_products_L5 r_f_R_takePart r_f_R_products r_f_R_sums r_f_R_test r_f_R_all N fuel v0 y1 q4.1 q4.2.1 q5.1 q5.2.1 q5.2.2))))))))
def f_R_products_b (r_f_R_takePart : (VR → Int32 → Option (Int32 × Int32 × (Nat → Int32) × (Nat → Int32) × Int32))) (r_f_R_products : (VR → Int32 → Option (Int32 × Int32 × (Nat → Int32) × (Nat → Int32) × Int32))) (r_f_R_sums : (VR → Int32 → Option (Int32 × Int32 × (Nat → Int32) × (Nat → Int32) × Int32))) (r_f_R_test : (VR → Int32 → Option (Int32 × Int32 × (Nat → Int32) × (Nat → Int32) × Int32))) (r_f_R_all : (VR → Int32 → Option (Int32 × Int32 × (Nat → Int32) × (Nat → Int32) × Int32))) (N : Nat) (v0 : VR) (a1 : Int32) : Option (Int32 × Int32 × (Nat → Int32) × (Nat → Int32) × Int32) := ((r_f_R_takePart v0 a1).bind (fun q1 => ((f_R_products_L5 r_f_R_takePart r_f_R_products r_f_R_sums r_f_R_test r_f_R_all N N (R_s_at_fault_op_arg_codes v0 q1.1 q1.2.1 q1.2.2.1 q1.2.2.2.1 q1.2.2.2.2) a1 q1.1 q1.2.1 q1.2.2.1 q1.2.2.2.1 q1.2.2.2.2).bind (fun q9 => (some (q9.1, q9.2.1, q9.2.2.1, q9.2.2.2.1, q9.2.2.2.2))))))
def f_R_sums_L5 (r_f_R_takePart : (VR → Int32 → Option (Int32 × Int32 × (Nat → Int32) × (Nat → Int32) × Int32))) (r_f_R_products : (VR → Int32 → Option (Int32 × Int32 × (Nat → Int32) × (Nat → Int32) × Int32))) (r_f_R_sums : (VR → Int32 → Option (Int32 × Int32 × (Nat → Int32) × (Nat → Int32) × Int32))) (r_f_R_test : (VR → Int32 → Option (Int32 × Int32 × (Nat → Int32) × (Nat → Int32) × Int32))) (r_f_R_all : (VR → Int32 → Option (Int32 × Int32 × (Nat → Int32) × (Nat → Int32) × Int32))) (N : Nat) : Nat → VR → Int32 → Int32 → Int32 → (Nat → Int32) → (Nat → Int32) → Int32 → Option (Int32 × Int32 × (Nat → Int32) × (Nat → Int32) × Int32)
  | 0, _, _, _, _, _, _, _ => none
  | fuel + 1, v0, y1, m_at0, m_fault1, m_op2, m_arg3, m_codes4 => ((f_R_isSign N (R_s_at_fault_op_arg_codes v0 m_at0 m_fault1 m_op2 m_arg3 m_codes4) 43).bind (fun q2 => (if (q2 = 0) then ((f_R_isSign N (R_s_at_fault_op_arg_codes v0 m_at0 m_fault1 m_op2 m_arg3 m_codes4) 45).bind (fun q12 => (if (q12 = 0) then (some (m_at0, m_fault1, m_op2, m_arg3, m_codes4)) else ((f_R_isSign N (R_s_at_fault_op_arg_codes v0 m_at0 m_fault1 m_op2 m_arg3 m_codes4) 43).bind (fun q14 => ((r_f_R_products (R_s_at_fault_op_arg_codes v0 (m_at0 + 1) m_fault1 m_op2 m_arg3 m_codes4) y1).bind (fun q15 => ((f_R_emit N (R_s_at_fault_op_arg_codes v0 q15.1 q15.2.1 q15.2.2.1 q15.2.2.2.1 q15.2.2.2.2) (if (q14 = 0) then 5 else 4) 0).bind (fun q18 => (f_R_sums_L5 r_f_R_takePart r_f_R_products r_f_R_sums r_f_R_test r_f_R_all N fuel v0 y1 q15.1 q15.2.1 q18.1 q18.2.1 q18.2.2)))))))))) else ((f_R_isSign N (R_s_at_fault_op_arg_codes v0 m_at0 m_fault1 m_op2 m_arg3 m_codes4) 43).bind (fun q4 => ((r_f_R_products (R_s_at_fault_op_arg_codes v0 (m_at0 + 1) m_fault1 m_op2 m_arg3 m_codes4) y1).bind (fun q5 => ((f_R_emit N (R_s_at_fault_op_arg_codes v0 q5.1 q5.2.1 q5.2.2.1 q5.2.2.2.1 q5.2.2.2.2) (if (q4 = 0) then 5 else 4) 0).bind (fun q8 => (f_R_sums_L5 r_f_R_takePart r_f_R_products r_f_R_sums r_f_R_test r_f_R_all N fuel v0 y1 q5.1 q5.2.1 q8.1 q8.2.1 q8.2.2))))))))))
def f_R_sums_b (r_f_R_takePart : (VR → Int32 → Option (Int32 × Int32 × (Nat → Int32) × (Nat → Int32) × Int32))) (r_f_R_products : (VR → Int32 → Option (Int32 × Int32 × (Nat → Int32) × (Nat → Int32) × Int32))) (r_f_R_sums : (VR → Int32 → Option (Int32 × Int32 × (Nat → Int32) × (Nat → Int32) × Int32))) (r_f_R_test : (VR → Int32 → Option (Int32 × Int32 × (Nat → Int32) × (Nat → Int32) × Int32))) (r_f_R_all : (VR → Int32 → Option (Int32 × Int32 × (Nat → Int32) × (Nat → Int32) × Int32))) (N : Nat) (v0 : VR) (a1 : Int32) : Option (Int32 × Int32 × (Nat → Int32) × (Nat → Int32) × Int32) := ((r_f_R_products v0 a1).bind (fun q1 => ((f_R_sums_L5 r_f_R_takePart r_f_R_products r_f_R_sums r_f_R_test r_f_R_all N N (R_s_at_fault_op_arg_codes v0 q1.1 q1.2.1 q1.2.2.1 q1.2.2.2.1 q1.2.2.2.2) a1 q1.1 q1.2.1 q1.2.2.1 q1.2.2.2.1 q1.2.2.2.2).bind (fun q24 => (some (q24.1, q24.2.1, q24.2.2.1, q24.2.2.2.1, q24.2.2.2.2))))))
def f_R_test_b (r_f_R_takePart : (VR → Int32 → Option (Int32 × Int32 × (Nat → Int32) × (Nat → Int32) × Int32))) (r_f_R_products : (VR → Int32 → Option (Int32 × Int32 × (Nat → Int32) × (Nat → Int32) × Int32))) (r_f_R_sums : (VR → Int32 → Option (Int32 × Int32 × (Nat → Int32) × (Nat → Int32) × Int32))) (r_f_R_test : (VR → Int32 → Option (Int32 × Int32 × (Nat → Int32) × (Nat → Int32) × Int32))) (r_f_R_all : (VR → Int32 → Option (Int32 × Int32 × (Nat → Int32) × (Nat → Int32) × Int32))) (N : Nat) (v0 : VR) (a1 : Int32) : Option (Int32 × Int32 × (Nat → Int32) × (Nat → Int32) × Int32) := ((r_f_R_sums v0 a1).bind (fun q1 => ((f_R_isSign N (R_s_at_fault_op_arg_codes v0 q1.1 q1.2.1 q1.2.2.1 q1.2.2.2.1 q1.2.2.2.2) 60).bind (fun q2 => ((f_R_hasSign N (R_s_at_fault_op_arg_codes v0 q1.1 q1.2.1 q1.2.2.1 q1.2.2.2.1 q1.2.2.2.2) 60).bind (fun q3 => (if (q3.1 = 0) then ((f_R_hasSign N (R_s_at_fault_op_arg_codes v0 q3.2 q1.2.1 q1.2.2.1 q1.2.2.2.1 q1.2.2.2.2) 61).bind (fun q11 => (if (q11.1 = 0) then (some (q11.2, q1.2.1, q1.2.2.1, q1.2.2.2.1, q1.2.2.2.2)) else ((r_f_R_sums (R_s_at_fault_op_arg_codes v0 q11.2 q1.2.1 q1.2.2.1 q1.2.2.2.1 q1.2.2.2.2) a1).bind (fun q13 => ((f_R_emit N (R_s_at_fault_op_arg_codes v0 q13.1 q13.2.1 q13.2.2.1 q13.2.2.2.1 q13.2.2.2.2) (if (q2 = 0) then 8 else 7) 0).bind (fun q16 => (some (q13.1, q13.2.1, q16.1, q16.2.1, q16.2.2))))))))) else ((r_f_R_sums (R_s_at_fault_op_arg_codes v0 q3.2 q1.2.1 q1.2.2.1 q1.2.2.2.1 q1.2.2.2.2) a1).bind (fun q5 => ((f_R_emit N (R_s_at_fault_op_arg_codes v0 q5.1 q5.2.1 q5.2.2.1 q5.2.2.2.1 q5.2.2.2.2) (if (q2 = 0) then 8 else 7) 0).bind (fun q8 => (some (q5.1, q5.2.1, q8.1, q8.2.1, q8.2.2)))))))))))))
def f_R_all_L5 (r_f_R_takePart : (VR → Int32 → Option (Int32 × Int32 × (Nat → Int32) × (Nat → Int32) × Int32))) (r_f_R_products : (VR → Int32 → Option (Int32 × Int32 × (Nat → Int32) × (Nat → Int32) × Int32))) (r_f_R_sums : (VR → Int32 → Option (Int32 × Int32 × (Nat → Int32) × (Nat → Int32) × Int32))) (r_f_R_test : (VR → Int32 → Option (Int32 × Int32 × (Nat → Int32) × (Nat → Int32) × Int32))) (r_f_R_all : (VR → Int32 → Option (Int32 × Int32 × (Nat → Int32) × (Nat → Int32) × Int32))) (N : Nat) : Nat → VR → Int32 → Int32 → Int32 → (Nat → Int32) → (Nat → Int32) → Int32 → Option (Int32 × Int32 × (Nat → Int32) × (Nat → Int32) × Int32)
  | 0, _, _, _, _, _, _, _ => none
  | fuel + 1, v0, y1, m_at0, m_fault1, m_op2, m_arg3, m_codes4 => ((f_R_isWord N (R_s_at_fault_op_arg_codes v0 m_at0 m_fault1 m_op2 m_arg3 m_codes4) 20).bind (fun q2 => (if (q2 = 0) then ((f_R_isWord N (R_s_at_fault_op_arg_codes v0 m_at0 m_fault1 m_op2 m_arg3 m_codes4) 21).bind (fun q12 => (if (q12 = 0) then (some (m_at0, m_fault1, m_op2, m_arg3, m_codes4)) else ((f_R_isWord N (R_s_at_fault_op_arg_codes v0 m_at0 m_fault1 m_op2 m_arg3 m_codes4) 20).bind (fun q14 => ((r_f_R_test (R_s_at_fault_op_arg_codes v0 (m_at0 + 1) m_fault1 m_op2 m_arg3 m_codes4) y1).bind (fun q15 => ((f_R_emit N (R_s_at_fault_op_arg_codes v0 q15.1 q15.2.1 q15.2.2.1 q15.2.2.2.1 q15.2.2.2.2) (if (q14 = 0) then 10 else 9) 0).bind (fun q18 => (f_R_all_L5 r_f_R_takePart r_f_R_products r_f_R_sums r_f_R_test r_f_R_all N fuel v0 y1 q15.1 q15.2.1 q18.1 q18.2.1 q18.2.2)))))))))) else ((f_R_isWord N (R_s_at_fault_op_arg_codes v0 m_at0 m_fault1 m_op2 m_arg3 m_codes4) 20).bind (fun q4 => ((r_f_R_test (R_s_at_fault_op_arg_codes v0 (m_at0 + 1) m_fault1 m_op2 m_arg3 m_codes4) y1).bind (fun q5 => ((f_R_emit N (R_s_at_fault_op_arg_codes v0 q5.1 q5.2.1 q5.2.2.1 q5.2.2.2.1 q5.2.2.2.2) (if (q4 = 0) then 10 else 9) 0).bind (fun q8 => (f_R_all_L5 r_f_R_takePart r_f_R_products r_f_R_sums r_f_R_test r_f_R_all N fuel v0 y1 q5.1 q5.2.1 q8.1 q8.2.1 q8.2.2))))))))))
def f_R_all_b (r_f_R_takePart : (VR → Int32 → Option (Int32 × Int32 × (Nat → Int32) × (Nat → Int32) × Int32))) (r_f_R_products : (VR → Int32 → Option (Int32 × Int32 × (Nat → Int32) × (Nat → Int32) × Int32))) (r_f_R_sums : (VR → Int32 → Option (Int32 × Int32 × (Nat → Int32) × (Nat → Int32) × Int32))) (r_f_R_test : (VR → Int32 → Option (Int32 × Int32 × (Nat → Int32) × (Nat → Int32) × Int32))) (r_f_R_all : (VR → Int32 → Option (Int32 × Int32 × (Nat → Int32) × (Nat → Int32) × Int32))) (N : Nat) (v0 : VR) (a1 : Int32) : Option (Int32 × Int32 × (Nat → Int32) × (Nat → Int32) × Int32) := ((r_f_R_test v0 a1).bind (fun q1 => ((f_R_all_L5 r_f_R_takePart r_f_R_products r_f_R_sums r_f_R_test r_f_R_all N N (R_s_at_fault_op_arg_codes v0 q1.1 q1.2.1 q1.2.2.1 q1.2.2.2.1 q1.2.2.2.2) a1 q1.1 q1.2.1 q1.2.2.1 q1.2.2.2.1 q1.2.2.2.2).bind (fun q24 => (some (q24.1, q24.2.1, q24.2.2.1, q24.2.2.2.1, q24.2.2.2.2))))))
def g_R_takePart_R_products_R_sums_R_test_R_all (N : Nat) : Nat → (VR → Int32 → Option (Int32 × Int32 × (Nat → Int32) × (Nat → Int32) × Int32)) × (VR → Int32 → Option (Int32 × Int32 × (Nat → Int32) × (Nat → Int32) × Int32)) × (VR → Int32 → Option (Int32 × Int32 × (Nat → Int32) × (Nat → Int32) × Int32)) × (VR → Int32 → Option (Int32 × Int32 × (Nat → Int32) × (Nat → Int32) × Int32)) × (VR → Int32 → Option (Int32 × Int32 × (Nat → Int32) × (Nat → Int32) × Int32))
  | 0 => ((fun _ _ => none), (fun _ _ => none), (fun _ _ => none), (fun _ _ => none), (fun _ _ => none))
  | n + 1 => (f_R_takePart_b (g_R_takePart_R_products_R_sums_R_test_R_all N n).1 (g_R_takePart_R_products_R_sums_R_test_R_all N n).2.1 (g_R_takePart_R_products_R_sums_R_test_R_all N n).2.2.1 (g_R_takePart_R_products_R_sums_R_test_R_all N n).2.2.2.1 (g_R_takePart_R_products_R_sums_R_test_R_all N n).2.2.2.2 N, f_R_products_b (g_R_takePart_R_products_R_sums_R_test_R_all N n).1 (g_R_takePart_R_products_R_sums_R_test_R_all N n).2.1 (g_R_takePart_R_products_R_sums_R_test_R_all N n).2.2.1 (g_R_takePart_R_products_R_sums_R_test_R_all N n).2.2.2.1 (g_R_takePart_R_products_R_sums_R_test_R_all N n).2.2.2.2 N, f_R_sums_b (g_R_takePart_R_products_R_sums_R_test_R_all N n).1 (g_R_takePart_R_products_R_sums_R_test_R_all N n).2.1 (g_R_takePart_R_products_R_sums_R_test_R_all N n).2.2.1 (g_R_takePart_R_products_R_sums_R_test_R_all N n).2.2.2.1 (g_R_takePart_R_products_R_sums_R_test_R_all N n).2.2.2.2 N, f_R_test_b (g_R_takePart_R_products_R_sums_R_test_R_all N n).1 (g_R_takePart_R_products_R_sums_R_test_R_all N n).2.1 (g_R_takePart_R_products_R_sums_R_test_R_all N n).2.2.1 (g_R_takePart_R_products_R_sums_R_test_R_all N n).2.2.2.1 (g_R_takePart_R_products_R_sums_R_test_R_all N n).2.2.2.2 N, f_R_all_b (g_R_takePart_R_products_R_sums_R_test_R_all N n).1 (g_R_takePart_R_products_R_sums_R_test_R_all N n).2.1 (g_R_takePart_R_products_R_sums_R_test_R_all N n).2.2.1 (g_R_takePart_R_products_R_sums_R_test_R_all N n).2.2.2.1 (g_R_takePart_R_products_R_sums_R_test_R_all N n).2.2.2.2 N)
def f_R_takePart (e N : Nat) (v0 : VR) (a1 : Int32) : Option (Int32 × Int32 × (Nat → Int32) × (Nat → Int32) × Int32) := (g_R_takePart_R_products_R_sums_R_test_R_all N e).1 v0 a1
def f_R_products (e N : Nat) (v0 : VR) (a1 : Int32) : Option (Int32 × Int32 × (Nat → Int32) × (Nat → Int32) × Int32) := (g_R_takePart_R_products_R_sums_R_test_R_all N e).2.1 v0 a1
def f_R_sums (e N : Nat) (v0 : VR) (a1 : Int32) : Option (Int32 × Int32 × (Nat → Int32) × (Nat → Int32) × Int32) := (g_R_takePart_R_products_R_sums_R_test_R_all N e).2.2.1 v0 a1
def f_R_test (e N : Nat) (v0 : VR) (a1 : Int32) : Option (Int32 × Int32 × (Nat → Int32) × (Nat → Int32) × Int32) := (g_R_takePart_R_products_R_sums_R_test_R_all N e).2.2.2.1 v0 a1
def f_R_all (e N : Nat) (v0 : VR) (a1 : Int32) : Option (Int32 × Int32 × (Nat → Int32) × (Nat → Int32) × Int32) := (g_R_takePart_R_products_R_sums_R_test_R_all N e).2.2.2.2 v0 a1
set_option maxRecDepth 20000 in
set_option maxHeartbeats 4000000 in
theorem c_R_takePart_b {r_f_R_takePart : (VR → Int32 → Option (Int32 × Int32 × (Nat → Int32) × (Nat → Int32) × Int32))} {r_f_R_products : (VR → Int32 → Option (Int32 × Int32 × (Nat → Int32) × (Nat → Int32) × Int32))} {r_f_R_sums : (VR → Int32 → Option (Int32 × Int32 × (Nat → Int32) × (Nat → Int32) × Int32))} {r_f_R_test : (VR → Int32 → Option (Int32 × Int32 × (Nat → Int32) × (Nat → Int32) × Int32))} {r_f_R_all : (VR → Int32 → Option (Int32 × Int32 × (Nat → Int32) × (Nat → Int32) × Int32))} {e : Nat} (hr_f_R_takePart : ∀ (v0 : VR) (a1 : Int32) (R : Int32 × Int32 × (Nat → Int32) × (Nat → Int32) × Int32), r_f_R_takePart v0 a1 = some R → Ct zMX12_takePart (e + 2) 0 0 0 [.ref 0, .int a1] ([kR 0 v0] : List (List zE)).flatten (fun v cc => v = none ∧ cc = ([kR 0 (R_s_at_fault_op_arg_codes v0 R.1 R.2.1 R.2.2.1 R.2.2.2.1 R.2.2.2.2)] : List (List zE)).flatten)) (hr_f_R_products : ∀ (v0 : VR) (a1 : Int32) (R : Int32 × Int32 × (Nat → Int32) × (Nat → Int32) × Int32), r_f_R_products v0 a1 = some R → Ct zMX12_products (e + 2) 0 0 0 [.ref 0, .int a1] ([kR 0 v0] : List (List zE)).flatten (fun v cc => v = none ∧ cc = ([kR 0 (R_s_at_fault_op_arg_codes v0 R.1 R.2.1 R.2.2.1 R.2.2.2.1 R.2.2.2.2)] : List (List zE)).flatten)) (hr_f_R_sums : ∀ (v0 : VR) (a1 : Int32) (R : Int32 × Int32 × (Nat → Int32) × (Nat → Int32) × Int32), r_f_R_sums v0 a1 = some R → Ct zMX12_sums (e + 2) 0 0 0 [.ref 0, .int a1] ([kR 0 v0] : List (List zE)).flatten (fun v cc => v = none ∧ cc = ([kR 0 (R_s_at_fault_op_arg_codes v0 R.1 R.2.1 R.2.2.1 R.2.2.2.1 R.2.2.2.2)] : List (List zE)).flatten)) (hr_f_R_test : ∀ (v0 : VR) (a1 : Int32) (R : Int32 × Int32 × (Nat → Int32) × (Nat → Int32) × Int32), r_f_R_test v0 a1 = some R → Ct zMX12_test (e + 2) 0 0 0 [.ref 0, .int a1] ([kR 0 v0] : List (List zE)).flatten (fun v cc => v = none ∧ cc = ([kR 0 (R_s_at_fault_op_arg_codes v0 R.1 R.2.1 R.2.2.1 R.2.2.2.1 R.2.2.2.2)] : List (List zE)).flatten)) (hr_f_R_all : ∀ (v0 : VR) (a1 : Int32) (R : Int32 × Int32 × (Nat → Int32) × (Nat → Int32) × Int32), r_f_R_all v0 a1 = some R → Ct zMX12_all (e + 2) 0 0 0 [.ref 0, .int a1] ([kR 0 v0] : List (List zE)).flatten (fun v cc => v = none ∧ cc = ([kR 0 (R_s_at_fault_op_arg_codes v0 R.1 R.2.1 R.2.2.1 R.2.2.2.1 R.2.2.2.2)] : List (List zE)).flatten)) (N : Nat) (v0 : VR) (a1 : Int32) (R : Int32 × Int32 × (Nat → Int32) × (Nat → Int32) × Int32) (hf : f_R_takePart_b r_f_R_takePart r_f_R_products r_f_R_sums r_f_R_test r_f_R_all N v0 a1 = some R) : Ct zMX12_takePart (e + 3) 0 0 0 [.ref 0, .int a1] ([kR 0 v0] : List (List zE)).flatten (fun v cc => v = none ∧ cc = ([kR 0 (R_s_at_fault_op_arg_codes v0 R.1 R.2.1 R.2.2.1 R.2.2.2.1 R.2.2.2.2)] : List (List zE)).flatten) := by
  refine Ct.of zMX12_takePart_ok (by omega) (Nat.le_of_ble_eq_true rfl) ?_
  intro Z hZ hR hN hE
  have hRm : zRoom Z 0 0 := zRoom0 Z
  unfold f_R_takePart_b at hf
  show AW Z 0 0 0 [some (.ref 0), some (.int a1), none, none] [] ([kR 0 v0] : List (List zE)).flatten
  refine AW.run hZ hRm [7, 18] 400 ?_
  show ((((R_fault v0) ≤ 0) → (¬ ((R_at v0) < 0 ∨ 1002 ≤ Int32.toNatClampNeg (R_at v0)) ∧ AW Z 0 0 18 [some (.ref 0), some (.int a1), none, none] [.int 2, .int ((R_sort v0) (Int32.toNatClampNeg (R_at v0)))] ([kR 0 v0] : List (List zE)).flatten)) ∧ (¬ ((R_fault v0) ≤ 0) → AW Z 0 0 7 [some (.ref 0), some (.int a1), none, none] [] ([kR 0 v0] : List (List zE)).flatten))
  refine ⟨fun c1 => ?_, fun c1 => ?_⟩
  · rw [if_pos c1] at hf
    obtain ⟨b240, hf⟩ := zneed hf
    refine ⟨b240, ?_⟩
    suffices H2 : AW Z 0 0 26 [some (.ref 0), some (.int a1), none, none] [.int (if (((R_sort v0) (Int32.toNatClampNeg (R_at v0))) = 2) then 1 else 0)] ([kR 0 v0] : List (List zE)).flatten from by
      refine AW.run hZ hRm [26] 400 ?_
      show ((¬ (((R_sort v0) (Int32.toNatClampNeg (R_at v0))) = 2) → AW Z 0 0 26 [some (.ref 0), some (.int a1), none, none] [.int 0] ([kR 0 v0] : List (List zE)).flatten) ∧ ((((R_sort v0) (Int32.toNatClampNeg (R_at v0))) = 2) → AW Z 0 0 26 [some (.ref 0), some (.int a1), none, none] [.int 1] ([kR 0 v0] : List (List zE)).flatten))
      refine ⟨fun c3 => ?_, fun c3 => ?_⟩
      · simpa only [if_neg c3] using H2
      · simpa only [if_pos c3] using H2
    replace hf := zlet_gen hf
    generalize ((if (((R_sort v0) (Int32.toNatClampNeg (R_at v0))) = 2) then 1 else 0) : Int32) = z4 at hf ⊢
    refine AW.run hZ hRm [31] 400 ?_
    show AW Z 0 0 31 [some (.ref 0), some (.int a1), some (.int z4), none] [.int 5, .int 22, .ref 0] ([kR 0 v0] : List (List zE)).flatten
    obtain ⟨q5, h239, hf⟩ := zbind hf
    refine AW.callVc hZ hR hN (c_R_wordHere N v0 22 5 q5 h239) zMX12_wordHere_ok rfl rfl zK_BorrowedLivesModel_204 zV_X12_wordHere rfl [25] [0] [0, 1, 2, 3, 4, 5, 6, 7, 8, 9, 10, 11, 12, 13, 14, 15, 16, 17, 18, 19, 20, 21, 22, 23, 24] rfl rfl rfl (by decide) (by decide) (by omega) (by decide) (Nat.zero_le _) (Nat.zero_le _) rfl rfl rfl rfl rfl ?_
    rintro v cc ⟨rfl, rfl⟩
    refine ⟨_, rfl, rfl, ?_⟩
    show AW Z 0 0 34 [some (.ref 0), some (.int a1), some (.int z4), none] [.int q5] ([kR 0 v0] : List (List zE)).flatten
    refine AW.run hZ hRm [36] 400 ?_
    show AW Z 0 0 36 [some (.ref 0), some (.int a1), some (.int z4), some (.int q5)] [.int q5] ([kR 0 v0] : List (List zE)).flatten
    suffices H6 : AW Z 0 0 56 [some (.ref 0), some (.int a1), some (.int z4), none] [.int (if (q5 < 0) then (-1) else (if ((((R_factsHere v0) >>> (q5 &&& 31)) &&& 1) = 1) then q5 else (-1)))] ([kR 0 v0] : List (List zE)).flatten from by
      refine AW.run hZ hRm [56] 400 ?_
      show (((q5 < 0) → AW Z 0 0 56 [some (.ref 0), some (.int a1), some (.int z4), some (.int q5)] [.int (-1)] ([kR 0 v0] : List (List zE)).flatten) ∧ (¬ (q5 < 0) → ((¬ ((((R_factsHere v0) >>> (q5 &&& 31)) &&& 1) = 1) → AW Z 0 0 56 [some (.ref 0), some (.int a1), some (.int z4), some (.int q5)] [.int (-1)] ([kR 0 v0] : List (List zE)).flatten) ∧ (((((R_factsHere v0) >>> (q5 &&& 31)) &&& 1) = 1) → AW Z 0 0 56 [some (.ref 0), some (.int a1), some (.int z4), some (.int q5)] [.int q5] ([kR 0 v0] : List (List zE)).flatten))))
      refine ⟨fun c7 => ?_, fun c7 => ?_⟩
      · refine AW.forget [true, true, true, false] ?_
        show AW Z 0 0 56 [some (.ref 0), some (.int a1), some (.int z4), none] [.int (-1)] ([kR 0 v0] : List (List zE)).flatten
        simpa only [if_pos c7] using H6
      · refine ⟨fun c8 => ?_, fun c8 => ?_⟩
        · refine AW.forget [true, true, true, false] ?_
          show AW Z 0 0 56 [some (.ref 0), some (.int a1), some (.int z4), none] [.int (-1)] ([kR 0 v0] : List (List zE)).flatten
          simpa only [if_neg c7, if_neg c8] using H6
        · refine AW.forget [true, true, true, false] ?_
          show AW Z 0 0 56 [some (.ref 0), some (.int a1), some (.int z4), none] [.int q5] ([kR 0 v0] : List (List zE)).flatten
          simpa only [if_neg c7, if_pos c8] using H6
    replace hf := zlet_gen hf
    generalize ((if (q5 < 0) then (-1) else (if ((((R_factsHere v0) >>> (q5 &&& 31)) &&& 1) = 1) then q5 else (-1))) : Int32) = z9 at hf ⊢
    refine AW.run hZ hRm [68, 98, 108, 112] 400 ?_
    show (((0 ≤ z9) → ((¬ (a1 = 5) → ((((R_fault v0) ≤ 0) → AW Z 0 0 112 [some (.ref 0), some (.int a1), some (.int z4), some (.int z9)] [.int 19, .ref 0] ([kR 0 v0] : List (List zE)).flatten) ∧ (¬ ((R_fault v0) ≤ 0) → AW Z 0 0 108 [some (.ref 0), some (.int a1), some (.int z4), some (.int z9)] [] ([kR 0 v0] : List (List zE)).flatten))) ∧ ((a1 = 5) → AW Z 0 0 98 [some (.ref 0), some (.int a1), some (.int z4), some (.int z9)] [.int 5, .ref 0] ([kR 0 v0] : List (List zE)).flatten))) ∧ (¬ (0 ≤ z9) → ((¬ (z4 = 0) → ((¬ (a1 = 5) → ((((R_fault v0) ≤ 0) → AW Z 0 0 112 [some (.ref 0), some (.int a1), some (.int z4), some (.int z9)] [.int 19, .ref 0] ([kR 0 v0] : List (List zE)).flatten) ∧ (¬ ((R_fault v0) ≤ 0) → AW Z 0 0 108 [some (.ref 0), some (.int a1), some (.int z4), some (.int z9)] [] ([kR 0 v0] : List (List zE)).flatten))) ∧ ((a1 = 5) → AW Z 0 0 98 [some (.ref 0), some (.int a1), some (.int z4), some (.int z9)] [.int 5, .ref 0] ([kR 0 v0] : List (List zE)).flatten))) ∧ ((z4 = 0) → AW Z 0 0 68 [some (.ref 0), some (.int a1), some (.int z4), some (.int z9)] [.int 40, .ref 0] ([kR 0 v0] : List (List zE)).flatten))))
    refine ⟨fun c10 => ?_, fun c10 => ?_⟩
    · rw [if_pos c10] at hf
      refine ⟨fun c11 => ?_, fun c11 => ?_⟩
      · rw [if_neg c11] at hf
        refine ⟨fun c12 => ?_, fun c12 => ?_⟩
        · rw [if_pos c12] at hf
          obtain ⟨q13, h34, hf⟩ := zbind hf
          refine AW.callVc hZ hR hN (c_R_hasWord N v0 19 q13 h34) zMX12_hasWord_ok rfl rfl zK_BorrowedLivesModel_194 zV_X12_hasWord rfl [25] [0] [0, 1, 2, 3, 4, 5, 6, 7, 8, 9, 10, 11, 12, 13, 14, 15, 16, 17, 18, 19, 20, 21, 22, 23, 24] rfl rfl rfl (by decide) (by decide) (by omega) (by decide) (Nat.zero_le _) (Nat.zero_le _) rfl rfl rfl rfl rfl ?_
          rintro v cc ⟨rfl, rfl⟩
          refine ⟨_, rfl, rfl, ?_⟩
          show AW Z 0 0 115 [some (.ref 0), some (.int a1), some (.int z4), some (.int z9)] [.int q13.1] ([kR 0 (R_at_s v0 q13.2)] : List (List zE)).flatten
          refine AW.run hZ hRm [122, 137] 400 ?_
          show (((q13.1 = 0) → AW Z 0 0 137 [some (.ref 0), some (.int a1), some (.int z4), some (.int z9)] [.int 40, .ref 0] ([kR 0 (R_at_s v0 q13.2)] : List (List zE)).flatten) ∧ (¬ (q13.1 = 0) → AW Z 0 0 122 [some (.ref 0), some (.int a1), some (.int z4), some (.int z9)] [.int (a1 + 1), .ref 0] ([kR 0 (R_at_s v0 q13.2)] : List (List zE)).flatten))
          refine ⟨fun c14 => ?_, fun c14 => ?_⟩
          · rw [if_pos c14] at hf
            obtain ⟨q15, h29, hf⟩ := zbind hf
            refine AW.callVc hZ hR hN (c_R_hasSign N (R_at_s v0 q13.2) 40 q15 h29) zMX12_hasSign_ok rfl rfl zK_BorrowedLivesModel_279 zV_X12_hasSign rfl [25] [0] [0, 1, 2, 3, 4, 5, 6, 7, 8, 9, 10, 11, 12, 13, 14, 15, 16, 17, 18, 19, 20, 21, 22, 23, 24] rfl rfl rfl (by decide) (by decide) (by omega) (by decide) (Nat.zero_le _) (Nat.zero_le _) rfl rfl rfl rfl rfl ?_
            rintro v cc ⟨rfl, rfl⟩
            refine ⟨_, rfl, rfl, ?_⟩
            show AW Z 0 0 140 [some (.ref 0), some (.int a1), some (.int z4), some (.int z9)] [.int q15.1] ([kR 0 (R_at_s v0 q15.2)] : List (List zE)).flatten
            refine AW.run hZ hRm [147, 161] 400 ?_
            show (((q15.1 = 0) → AW Z 0 0 161 [some (.ref 0), some (.int a1), some (.int z4), some (.int z9)] [.int z4, .ref 0] ([kR 0 (R_at_s v0 q15.2)] : List (List zE)).flatten) ∧ (¬ (q15.1 = 0) → AW Z 0 0 147 [some (.ref 0), some (.int a1), some (.int z4), some (.int z9)] [.int (a1 + 1), .ref 0] ([kR 0 (R_at_s v0 q15.2)] : List (List zE)).flatten))
            refine ⟨fun c16 => ?_, fun c16 => ?_⟩
            · rw [if_pos c16] at hf
              suffices H17 : AW Z 0 0 169 [some (.ref 0), none, some (.int z4), some (.int z9)] [.int (if (z4 = 0) then 2 else 1), .ref 0] ([kR 0 (R_at_s v0 q15.2)] : List (List zE)).flatten from by
                refine AW.run hZ hRm [169] 400 ?_
                show (((z4 = 0) → AW Z 0 0 169 [some (.ref 0), some (.int a1), some (.int z4), some (.int z9)] [.int 2, .ref 0] ([kR 0 (R_at_s v0 q15.2)] : List (List zE)).flatten) ∧ (¬ (z4 = 0) → AW Z 0 0 169 [some (.ref 0), some (.int a1), some (.int z4), some (.int z9)] [.int 1, .ref 0] ([kR 0 (R_at_s v0 q15.2)] : List (List zE)).flatten))
                refine ⟨fun c18 => ?_, fun c18 => ?_⟩
                · refine AW.forget [true, false, true, true] ?_
                  show AW Z 0 0 169 [some (.ref 0), none, some (.int z4), some (.int z9)] [.int 2, .ref 0] ([kR 0 (R_at_s v0 q15.2)] : List (List zE)).flatten
                  simpa only [if_pos c18] using H17
                · refine AW.forget [true, false, true, true] ?_
                  show AW Z 0 0 169 [some (.ref 0), none, some (.int z4), some (.int z9)] [.int 1, .ref 0] ([kR 0 (R_at_s v0 q15.2)] : List (List zE)).flatten
                  simpa only [if_neg c18] using H17
              refine AW.run hZ hRm [187] 400 ?_
              show (((z4 = 0) → AW Z 0 0 187 [some (.ref 0), none, some (.int z4), some (.int z9)] [.int z9, .int (if (z4 = 0) then 2 else 1), .ref 0] ([kR 0 (R_at_s v0 q15.2)] : List (List zE)).flatten) ∧ (¬ (z4 = 0) → (¬ (q15.2 < 0 ∨ 1002 ≤ Int32.toNatClampNeg q15.2) ∧ AW Z 0 0 187 [some (.ref 0), none, some (.int z4), some (.int z9)] [.int (Int64.toInt32 ((R_value v0) (Int32.toNatClampNeg q15.2))), .int (if (z4 = 0) then 2 else 1), .ref 0] ([kR 0 (R_at_s v0 q15.2)] : List (List zE)).flatten)))
              refine ⟨fun c19 => ?_, fun c19 => ?_⟩
              · rw [if_pos c19] at hf
                obtain ⟨q20, h21, hf⟩ := zbind hf
                refine AW.callVc hZ hR hN (c_R_emit N (R_at_s v0 q15.2) (if (z4 = 0) then 2 else 1) z9 q20 h21) zMX12_emit_ok rfl rfl zK_BorrowedLivesModel_262 zV_X12_emit rfl [25] [0] [0, 1, 2, 3, 4, 5, 6, 7, 8, 9, 10, 11, 12, 13, 14, 15, 16, 17, 18, 19, 20, 21, 22, 23, 24] rfl rfl rfl (by decide) (by decide) (by omega) (by decide) (Nat.zero_le _) (Nat.zero_le _) rfl rfl rfl rfl rfl ?_
                rintro v cc ⟨rfl, rfl⟩
                refine ⟨_, rfl, rfl, ?_⟩
                show AW Z 0 0 190 [some (.ref 0), none, some (.int z4), some (.int z9)] [] ([kR 0 (R_s_at_op_arg_codes v0 q15.2 q20.1 q20.2.1 q20.2.2)] : List (List zE)).flatten
                refine AW.run hZ hRm [200] 400 ?_
                show AW Z 0 0 200 [some (.ref 0), none, some (.int z4), some (.int z9)] [] ([kR 0 (R_s_at_op_arg_codes v0 (q15.2 + 1) q20.1 q20.2.1 q20.2.2)] : List (List zE)).flatten
                cases hf
                exact AW.vret hZ hE rfl rfl rfl (Nat.le_refl 0) (Nat.le_refl 0) rfl ⟨rfl, rfl⟩
              · rw [if_neg c19] at hf
                obtain ⟨b24, hf⟩ := zneed hf
                refine ⟨b24, ?_⟩
                obtain ⟨q22, h23, hf⟩ := zbind hf
                refine AW.callVc hZ hR hN (c_R_emit N (R_at_s v0 q15.2) (if (z4 = 0) then 2 else 1) (Int64.toInt32 ((R_value v0) (Int32.toNatClampNeg q15.2))) q22 h23) zMX12_emit_ok rfl rfl zK_BorrowedLivesModel_262 zV_X12_emit rfl [25] [0] [0, 1, 2, 3, 4, 5, 6, 7, 8, 9, 10, 11, 12, 13, 14, 15, 16, 17, 18, 19, 20, 21, 22, 23, 24] rfl rfl rfl (by decide) (by decide) (by omega) (by decide) (Nat.zero_le _) (Nat.zero_le _) rfl rfl rfl rfl rfl ?_
                rintro v cc ⟨rfl, rfl⟩
                refine ⟨_, rfl, rfl, ?_⟩
                show AW Z 0 0 190 [some (.ref 0), none, some (.int z4), some (.int z9)] [] ([kR 0 (R_s_at_op_arg_codes v0 q15.2 q22.1 q22.2.1 q22.2.2)] : List (List zE)).flatten
                refine AW.run hZ hRm [200] 400 ?_
                show AW Z 0 0 200 [some (.ref 0), none, some (.int z4), some (.int z9)] [] ([kR 0 (R_s_at_op_arg_codes v0 (q15.2 + 1) q22.1 q22.2.1 q22.2.2)] : List (List zE)).flatten
                cases hf
                exact AW.vret hZ hE rfl rfl rfl (Nat.le_refl 0) (Nat.le_refl 0) rfl ⟨rfl, rfl⟩
            · rw [if_neg c16] at hf
              obtain ⟨q25, h28, hf⟩ := zbind hf
              refine AW.callVc hZ hR hN (hr_f_R_all (R_at_s v0 q15.2) (a1 + 1) q25 h28) zMX12_all_ok rfl rfl zK_BorrowedLivesModel_259 zV_X12_all rfl [25] [0] [0, 1, 2, 3, 4, 5, 6, 7, 8, 9, 10, 11, 12, 13, 14, 15, 16, 17, 18, 19, 20, 21, 22, 23, 24] rfl rfl rfl (by decide) (by decide) (by omega) (by decide) (Nat.zero_le _) (Nat.zero_le _) rfl rfl rfl rfl rfl ?_
              rintro v cc ⟨rfl, rfl⟩
              refine ⟨_, rfl, rfl, ?_⟩
              show AW Z 0 0 150 [some (.ref 0), some (.int a1), some (.int z4), some (.int z9)] [] ([kR 0 (R_s_at_fault_op_arg_codes v0 q25.1 q25.2.1 q25.2.2.1 q25.2.2.2.1 q25.2.2.2.2)] : List (List zE)).flatten
              refine AW.run hZ hRm [153] 400 ?_
              show AW Z 0 0 153 [some (.ref 0), some (.int a1), some (.int z4), some (.int z9)] [.int 41, .ref 0] ([kR 0 (R_s_at_fault_op_arg_codes v0 q25.1 q25.2.1 q25.2.2.1 q25.2.2.2.1 q25.2.2.2.2)] : List (List zE)).flatten
              obtain ⟨q26, h27, hf⟩ := zbind hf
              refine AW.callVc hZ hR hN (c_R_takeSign N (R_s_at_fault_op_arg_codes v0 q25.1 q25.2.1 q25.2.2.1 q25.2.2.2.1 q25.2.2.2.2) 41 q26 h27) zMX12_takeSign_ok rfl rfl zK_BorrowedLivesModel_243 zV_X12_takeSign rfl [25] [0] [0, 1, 2, 3, 4, 5, 6, 7, 8, 9, 10, 11, 12, 13, 14, 15, 16, 17, 18, 19, 20, 21, 22, 23, 24] rfl rfl rfl (by decide) (by decide) (by omega) (by decide) (Nat.zero_le _) (Nat.zero_le _) rfl rfl rfl rfl rfl ?_
              rintro v cc ⟨rfl, rfl⟩
              refine ⟨_, rfl, rfl, ?_⟩
              show AW Z 0 0 156 [some (.ref 0), some (.int a1), some (.int z4), some (.int z9)] [] ([kR 0 (R_s_at_fault_op_arg_codes v0 q26.1 q26.2 q25.2.2.1 q25.2.2.2.1 q25.2.2.2.2)] : List (List zE)).flatten
              refine AW.run hZ hRm [200] 400 ?_
              show AW Z 0 0 200 [some (.ref 0), some (.int a1), some (.int z4), some (.int z9)] [] ([kR 0 (R_s_at_fault_op_arg_codes v0 q26.1 q26.2 q25.2.2.1 q25.2.2.2.1 q25.2.2.2.2)] : List (List zE)).flatten
              cases hf
              exact AW.vret hZ hE rfl rfl rfl (Nat.le_refl 0) (Nat.le_refl 0) rfl ⟨rfl, rfl⟩
          · rw [if_neg c14] at hf
            obtain ⟨q30, h33, hf⟩ := zbind hf
            refine AW.callVc hZ hR hN (hr_f_R_takePart (R_at_s v0 q13.2) (a1 + 1) q30 h33) zMX12_takePart_ok rfl rfl zK_BorrowedLivesModel_285 zV_X12_takePart rfl [25] [0] [0, 1, 2, 3, 4, 5, 6, 7, 8, 9, 10, 11, 12, 13, 14, 15, 16, 17, 18, 19, 20, 21, 22, 23, 24] rfl rfl rfl (by decide) (by decide) (by omega) (by decide) (Nat.zero_le _) (Nat.zero_le _) rfl rfl rfl rfl rfl ?_
            rintro v cc ⟨rfl, rfl⟩
            refine ⟨_, rfl, rfl, ?_⟩
            show AW Z 0 0 125 [some (.ref 0), some (.int a1), some (.int z4), some (.int z9)] [] ([kR 0 (R_s_at_fault_op_arg_codes v0 q30.1 q30.2.1 q30.2.2.1 q30.2.2.2.1 q30.2.2.2.2)] : List (List zE)).flatten
            refine AW.run hZ hRm [128] 400 ?_
            show AW Z 0 0 128 [some (.ref 0), some (.int a1), some (.int z4), some (.int z9)] [.int 0, .int 3, .ref 0] ([kR 0 (R_s_at_fault_op_arg_codes v0 q30.1 q30.2.1 q30.2.2.1 q30.2.2.2.1 q30.2.2.2.2)] : List (List zE)).flatten
            obtain ⟨q31, h32, hf⟩ := zbind hf
            refine AW.callVc hZ hR hN (c_R_emit N (R_s_at_fault_op_arg_codes v0 q30.1 q30.2.1 q30.2.2.1 q30.2.2.2.1 q30.2.2.2.2) 3 0 q31 h32) zMX12_emit_ok rfl rfl zK_BorrowedLivesModel_262 zV_X12_emit rfl [25] [0] [0, 1, 2, 3, 4, 5, 6, 7, 8, 9, 10, 11, 12, 13, 14, 15, 16, 17, 18, 19, 20, 21, 22, 23, 24] rfl rfl rfl (by decide) (by decide) (by omega) (by decide) (Nat.zero_le _) (Nat.zero_le _) rfl rfl rfl rfl rfl ?_
            rintro v cc ⟨rfl, rfl⟩
            refine ⟨_, rfl, rfl, ?_⟩
            show AW Z 0 0 131 [some (.ref 0), some (.int a1), some (.int z4), some (.int z9)] [] ([kR 0 (R_s_at_fault_op_arg_codes v0 q30.1 q30.2.1 q31.1 q31.2.1 q31.2.2)] : List (List zE)).flatten
            refine AW.run hZ hRm [200] 400 ?_
            show AW Z 0 0 200 [some (.ref 0), some (.int a1), some (.int z4), some (.int z9)] [] ([kR 0 (R_s_at_fault_op_arg_codes v0 q30.1 q30.2.1 q31.1 q31.2.1 q31.2.2)] : List (List zE)).flatten
            cases hf
            exact AW.vret hZ hE rfl rfl rfl (Nat.le_refl 0) (Nat.le_refl 0) rfl ⟨rfl, rfl⟩
        · rw [if_neg c12] at hf
          cases hf
          exact AW.vret hZ hE rfl rfl rfl (Nat.le_refl 0) (Nat.le_refl 0) rfl ⟨rfl, rfl⟩
      · rw [if_pos c11] at hf
        obtain ⟨q35, h59, hf⟩ := zbind hf
        refine AW.callVc hZ hR hN (c_R_wrong N v0 5 q35 h59) zMX12_wrong_ok rfl rfl zK_BorrowedLivesModel_188 zV_X12_wrong rfl [25] [0] [0, 1, 2, 3, 4, 5, 6, 7, 8, 9, 10, 11, 12, 13, 14, 15, 16, 17, 18, 19, 20, 21, 22, 23, 24] rfl rfl rfl (by decide) (by decide) (by omega) (by decide) (Nat.zero_le _) (Nat.zero_le _) rfl rfl rfl rfl rfl ?_
        rintro v cc ⟨rfl, rfl⟩
        refine ⟨_, rfl, rfl, ?_⟩
        show AW Z 0 0 101 [some (.ref 0), some (.int a1), some (.int z4), some (.int z9)] [] ([kR 0 (R_fault_s v0 q35)] : List (List zE)).flatten
        refine AW.run hZ hRm [108, 112] 400 ?_
        show (((q35 ≤ 0) → AW Z 0 0 112 [some (.ref 0), some (.int a1), some (.int z4), some (.int z9)] [.int 19, .ref 0] ([kR 0 (R_fault_s v0 q35)] : List (List zE)).flatten) ∧ (¬ (q35 ≤ 0) → AW Z 0 0 108 [some (.ref 0), some (.int a1), some (.int z4), some (.int z9)] [] ([kR 0 (R_fault_s v0 q35)] : List (List zE)).flatten))
        refine ⟨fun c36 => ?_, fun c36 => ?_⟩
        · rw [if_pos c36] at hf
          obtain ⟨q37, h58, hf⟩ := zbind hf
          refine AW.callVc hZ hR hN (c_R_hasWord N (R_fault_s v0 q35) 19 q37 h58) zMX12_hasWord_ok rfl rfl zK_BorrowedLivesModel_194 zV_X12_hasWord rfl [25] [0] [0, 1, 2, 3, 4, 5, 6, 7, 8, 9, 10, 11, 12, 13, 14, 15, 16, 17, 18, 19, 20, 21, 22, 23, 24] rfl rfl rfl (by decide) (by decide) (by omega) (by decide) (Nat.zero_le _) (Nat.zero_le _) rfl rfl rfl rfl rfl ?_
          rintro v cc ⟨rfl, rfl⟩
          refine ⟨_, rfl, rfl, ?_⟩
          show AW Z 0 0 115 [some (.ref 0), some (.int a1), some (.int z4), some (.int z9)] [.int q37.1] ([kR 0 (R_s_at_fault v0 q37.2 q35)] : List (List zE)).flatten
          refine AW.run hZ hRm [122, 137] 400 ?_
          show (((q37.1 = 0) → AW Z 0 0 137 [some (.ref 0), some (.int a1), some (.int z4), some (.int z9)] [.int 40, .ref 0] ([kR 0 (R_s_at_fault v0 q37.2 q35)] : List (List zE)).flatten) ∧ (¬ (q37.1 = 0) → AW Z 0 0 122 [some (.ref 0), some (.int a1), some (.int z4), some (.int z9)] [.int (a1 + 1), .ref 0] ([kR 0 (R_s_at_fault v0 q37.2 q35)] : List (List zE)).flatten))
          refine ⟨fun c38 => ?_, fun c38 => ?_⟩
          · rw [if_pos c38] at hf
            obtain ⟨q39, h53, hf⟩ := zbind hf
            refine AW.callVc hZ hR hN (c_R_hasSign N (R_s_at_fault v0 q37.2 q35) 40 q39 h53) zMX12_hasSign_ok rfl rfl zK_BorrowedLivesModel_279 zV_X12_hasSign rfl [25] [0] [0, 1, 2, 3, 4, 5, 6, 7, 8, 9, 10, 11, 12, 13, 14, 15, 16, 17, 18, 19, 20, 21, 22, 23, 24] rfl rfl rfl (by decide) (by decide) (by omega) (by decide) (Nat.zero_le _) (Nat.zero_le _) rfl rfl rfl rfl rfl ?_
            rintro v cc ⟨rfl, rfl⟩
            refine ⟨_, rfl, rfl, ?_⟩
            show AW Z 0 0 140 [some (.ref 0), some (.int a1), some (.int z4), some (.int z9)] [.int q39.1] ([kR 0 (R_s_at_fault v0 q39.2 q35)] : List (List zE)).flatten
            refine AW.run hZ hRm [147, 161] 400 ?_
            show (((q39.1 = 0) → AW Z 0 0 161 [some (.ref 0), some (.int a1), some (.int z4), some (.int z9)] [.int z4, .ref 0] ([kR 0 (R_s_at_fault v0 q39.2 q35)] : List (List zE)).flatten) ∧ (¬ (q39.1 = 0) → AW Z 0 0 147 [some (.ref 0), some (.int a1), some (.int z4), some (.int z9)] [.int (a1 + 1), .ref 0] ([kR 0 (R_s_at_fault v0 q39.2 q35)] : List (List zE)).flatten))
            refine ⟨fun c40 => ?_, fun c40 => ?_⟩
            · rw [if_pos c40] at hf
              suffices H41 : AW Z 0 0 169 [some (.ref 0), none, some (.int z4), some (.int z9)] [.int (if (z4 = 0) then 2 else 1), .ref 0] ([kR 0 (R_s_at_fault v0 q39.2 q35)] : List (List zE)).flatten from by
                refine AW.run hZ hRm [169] 400 ?_
                show (((z4 = 0) → AW Z 0 0 169 [some (.ref 0), some (.int a1), some (.int z4), some (.int z9)] [.int 2, .ref 0] ([kR 0 (R_s_at_fault v0 q39.2 q35)] : List (List zE)).flatten) ∧ (¬ (z4 = 0) → AW Z 0 0 169 [some (.ref 0), some (.int a1), some (.int z4), some (.int z9)] [.int 1, .ref 0] ([kR 0 (R_s_at_fault v0 q39.2 q35)] : List (List zE)).flatten))
                refine ⟨fun c42 => ?_, fun c42 => ?_⟩
                · refine AW.forget [true, false, true, true] ?_
                  show AW Z 0 0 169 [some (.ref 0), none, some (.int z4), some (.int z9)] [.int 2, .ref 0] ([kR 0 (R_s_at_fault v0 q39.2 q35)] : List (List zE)).flatten
                  simpa only [if_pos c42] using H41
                · refine AW.forget [true, false, true, true] ?_
                  show AW Z 0 0 169 [some (.ref 0), none, some (.int z4), some (.int z9)] [.int 1, .ref 0] ([kR 0 (R_s_at_fault v0 q39.2 q35)] : List (List zE)).flatten
                  simpa only [if_neg c42] using H41
              refine AW.run hZ hRm [187] 400 ?_
              show (((z4 = 0) → AW Z 0 0 187 [some (.ref 0), none, some (.int z4), some (.int z9)] [.int z9, .int (if (z4 = 0) then 2 else 1), .ref 0] ([kR 0 (R_s_at_fault v0 q39.2 q35)] : List (List zE)).flatten) ∧ (¬ (z4 = 0) → (¬ (q39.2 < 0 ∨ 1002 ≤ Int32.toNatClampNeg q39.2) ∧ AW Z 0 0 187 [some (.ref 0), none, some (.int z4), some (.int z9)] [.int (Int64.toInt32 ((R_value v0) (Int32.toNatClampNeg q39.2))), .int (if (z4 = 0) then 2 else 1), .ref 0] ([kR 0 (R_s_at_fault v0 q39.2 q35)] : List (List zE)).flatten)))
              refine ⟨fun c43 => ?_, fun c43 => ?_⟩
              · rw [if_pos c43] at hf
                obtain ⟨q44, h45, hf⟩ := zbind hf
                refine AW.callVc hZ hR hN (c_R_emit N (R_s_at_fault v0 q39.2 q35) (if (z4 = 0) then 2 else 1) z9 q44 h45) zMX12_emit_ok rfl rfl zK_BorrowedLivesModel_262 zV_X12_emit rfl [25] [0] [0, 1, 2, 3, 4, 5, 6, 7, 8, 9, 10, 11, 12, 13, 14, 15, 16, 17, 18, 19, 20, 21, 22, 23, 24] rfl rfl rfl (by decide) (by decide) (by omega) (by decide) (Nat.zero_le _) (Nat.zero_le _) rfl rfl rfl rfl rfl ?_
                rintro v cc ⟨rfl, rfl⟩
                refine ⟨_, rfl, rfl, ?_⟩
                show AW Z 0 0 190 [some (.ref 0), none, some (.int z4), some (.int z9)] [] ([kR 0 (R_s_at_fault_op_arg_codes v0 q39.2 q35 q44.1 q44.2.1 q44.2.2)] : List (List zE)).flatten
                refine AW.run hZ hRm [200] 400 ?_
                show AW Z 0 0 200 [some (.ref 0), none, some (.int z4), some (.int z9)] [] ([kR 0 (R_s_at_fault_op_arg_codes v0 (q39.2 + 1) q35 q44.1 q44.2.1 q44.2.2)] : List (List zE)).flatten
                cases hf
                exact AW.vret hZ hE rfl rfl rfl (Nat.le_refl 0) (Nat.le_refl 0) rfl ⟨rfl, rfl⟩
              · rw [if_neg c43] at hf
                obtain ⟨b48, hf⟩ := zneed hf
                refine ⟨b48, ?_⟩
                obtain ⟨q46, h47, hf⟩ := zbind hf
                refine AW.callVc hZ hR hN (c_R_emit N (R_s_at_fault v0 q39.2 q35) (if (z4 = 0) then 2 else 1) (Int64.toInt32 ((R_value v0) (Int32.toNatClampNeg q39.2))) q46 h47) zMX12_emit_ok rfl rfl zK_BorrowedLivesModel_262 zV_X12_emit rfl [25] [0] [0, 1, 2, 3, 4, 5, 6, 7, 8, 9, 10, 11, 12, 13, 14, 15, 16, 17, 18, 19, 20, 21, 22, 23, 24] rfl rfl rfl (by decide) (by decide) (by omega) (by decide) (Nat.zero_le _) (Nat.zero_le _) rfl rfl rfl rfl rfl ?_
                rintro v cc ⟨rfl, rfl⟩
                refine ⟨_, rfl, rfl, ?_⟩
                show AW Z 0 0 190 [some (.ref 0), none, some (.int z4), some (.int z9)] [] ([kR 0 (R_s_at_fault_op_arg_codes v0 q39.2 q35 q46.1 q46.2.1 q46.2.2)] : List (List zE)).flatten
                refine AW.run hZ hRm [200] 400 ?_
                show AW Z 0 0 200 [some (.ref 0), none, some (.int z4), some (.int z9)] [] ([kR 0 (R_s_at_fault_op_arg_codes v0 (q39.2 + 1) q35 q46.1 q46.2.1 q46.2.2)] : List (List zE)).flatten
                cases hf
                exact AW.vret hZ hE rfl rfl rfl (Nat.le_refl 0) (Nat.le_refl 0) rfl ⟨rfl, rfl⟩
            · rw [if_neg c40] at hf
              obtain ⟨q49, h52, hf⟩ := zbind hf
              refine AW.callVc hZ hR hN (hr_f_R_all (R_s_at_fault v0 q39.2 q35) (a1 + 1) q49 h52) zMX12_all_ok rfl rfl zK_BorrowedLivesModel_259 zV_X12_all rfl [25] [0] [0, 1, 2, 3, 4, 5, 6, 7, 8, 9, 10, 11, 12, 13, 14, 15, 16, 17, 18, 19, 20, 21, 22, 23, 24] rfl rfl rfl (by decide) (by decide) (by omega) (by decide) (Nat.zero_le _) (Nat.zero_le _) rfl rfl rfl rfl rfl ?_
              rintro v cc ⟨rfl, rfl⟩
              refine ⟨_, rfl, rfl, ?_⟩
              show AW Z 0 0 150 [some (.ref 0), some (.int a1), some (.int z4), some (.int z9)] [] ([kR 0 (R_s_at_fault_op_arg_codes v0 q49.1 q49.2.1 q49.2.2.1 q49.2.2.2.1 q49.2.2.2.2)] : List (List zE)).flatten
              refine AW.run hZ hRm [153] 400 ?_
              show AW Z 0 0 153 [some (.ref 0), some (.int a1), some (.int z4), some (.int z9)] [.int 41, .ref 0] ([kR 0 (R_s_at_fault_op_arg_codes v0 q49.1 q49.2.1 q49.2.2.1 q49.2.2.2.1 q49.2.2.2.2)] : List (List zE)).flatten
              obtain ⟨q50, h51, hf⟩ := zbind hf
              refine AW.callVc hZ hR hN (c_R_takeSign N (R_s_at_fault_op_arg_codes v0 q49.1 q49.2.1 q49.2.2.1 q49.2.2.2.1 q49.2.2.2.2) 41 q50 h51) zMX12_takeSign_ok rfl rfl zK_BorrowedLivesModel_243 zV_X12_takeSign rfl [25] [0] [0, 1, 2, 3, 4, 5, 6, 7, 8, 9, 10, 11, 12, 13, 14, 15, 16, 17, 18, 19, 20, 21, 22, 23, 24] rfl rfl rfl (by decide) (by decide) (by omega) (by decide) (Nat.zero_le _) (Nat.zero_le _) rfl rfl rfl rfl rfl ?_
              rintro v cc ⟨rfl, rfl⟩
              refine ⟨_, rfl, rfl, ?_⟩
              show AW Z 0 0 156 [some (.ref 0), some (.int a1), some (.int z4), some (.int z9)] [] ([kR 0 (R_s_at_fault_op_arg_codes v0 q50.1 q50.2 q49.2.2.1 q49.2.2.2.1 q49.2.2.2.2)] : List (List zE)).flatten
              refine AW.run hZ hRm [200] 400 ?_
              show AW Z 0 0 200 [some (.ref 0), some (.int a1), some (.int z4), some (.int z9)] [] ([kR 0 (R_s_at_fault_op_arg_codes v0 q50.1 q50.2 q49.2.2.1 q49.2.2.2.1 q49.2.2.2.2)] : List (List zE)).flatten
              cases hf
              exact AW.vret hZ hE rfl rfl rfl (Nat.le_refl 0) (Nat.le_refl 0) rfl ⟨rfl, rfl⟩
          · rw [if_neg c38] at hf
            obtain ⟨q54, h57, hf⟩ := zbind hf
            refine AW.callVc hZ hR hN (hr_f_R_takePart (R_s_at_fault v0 q37.2 q35) (a1 + 1) q54 h57) zMX12_takePart_ok rfl rfl zK_BorrowedLivesModel_285 zV_X12_takePart rfl [25] [0] [0, 1, 2, 3, 4, 5, 6, 7, 8, 9, 10, 11, 12, 13, 14, 15, 16, 17, 18, 19, 20, 21, 22, 23, 24] rfl rfl rfl (by decide) (by decide) (by omega) (by decide) (Nat.zero_le _) (Nat.zero_le _) rfl rfl rfl rfl rfl ?_
            rintro v cc ⟨rfl, rfl⟩
            refine ⟨_, rfl, rfl, ?_⟩
            show AW Z 0 0 125 [some (.ref 0), some (.int a1), some (.int z4), some (.int z9)] [] ([kR 0 (R_s_at_fault_op_arg_codes v0 q54.1 q54.2.1 q54.2.2.1 q54.2.2.2.1 q54.2.2.2.2)] : List (List zE)).flatten
            refine AW.run hZ hRm [128] 400 ?_
            show AW Z 0 0 128 [some (.ref 0), some (.int a1), some (.int z4), some (.int z9)] [.int 0, .int 3, .ref 0] ([kR 0 (R_s_at_fault_op_arg_codes v0 q54.1 q54.2.1 q54.2.2.1 q54.2.2.2.1 q54.2.2.2.2)] : List (List zE)).flatten
            obtain ⟨q55, h56, hf⟩ := zbind hf
            refine AW.callVc hZ hR hN (c_R_emit N (R_s_at_fault_op_arg_codes v0 q54.1 q54.2.1 q54.2.2.1 q54.2.2.2.1 q54.2.2.2.2) 3 0 q55 h56) zMX12_emit_ok rfl rfl zK_BorrowedLivesModel_262 zV_X12_emit rfl [25] [0] [0, 1, 2, 3, 4, 5, 6, 7, 8, 9, 10, 11, 12, 13, 14, 15, 16, 17, 18, 19, 20, 21, 22, 23, 24] rfl rfl rfl (by decide) (by decide) (by omega) (by decide) (Nat.zero_le _) (Nat.zero_le _) rfl rfl rfl rfl rfl ?_
            rintro v cc ⟨rfl, rfl⟩
            refine ⟨_, rfl, rfl, ?_⟩
            show AW Z 0 0 131 [some (.ref 0), some (.int a1), some (.int z4), some (.int z9)] [] ([kR 0 (R_s_at_fault_op_arg_codes v0 q54.1 q54.2.1 q55.1 q55.2.1 q55.2.2)] : List (List zE)).flatten
            refine AW.run hZ hRm [200] 400 ?_
            show AW Z 0 0 200 [some (.ref 0), some (.int a1), some (.int z4), some (.int z9)] [] ([kR 0 (R_s_at_fault_op_arg_codes v0 q54.1 q54.2.1 q55.1 q55.2.1 q55.2.2)] : List (List zE)).flatten
            cases hf
            exact AW.vret hZ hE rfl rfl rfl (Nat.le_refl 0) (Nat.le_refl 0) rfl ⟨rfl, rfl⟩
        · rw [if_neg c36] at hf
          cases hf
          exact AW.vret hZ hE rfl rfl rfl (Nat.le_refl 0) (Nat.le_refl 0) rfl ⟨rfl, rfl⟩
    · rw [if_neg c10] at hf
      refine ⟨fun c60 => ?_, fun c60 => ?_⟩
      · rw [if_neg c60] at hf
        refine ⟨fun c61 => ?_, fun c61 => ?_⟩
        · rw [if_neg c61] at hf
          refine ⟨fun c62 => ?_, fun c62 => ?_⟩
          · rw [if_pos c62] at hf
            obtain ⟨q63, h84, hf⟩ := zbind hf
            refine AW.callVc hZ hR hN (c_R_hasWord N v0 19 q63 h84) zMX12_hasWord_ok rfl rfl zK_BorrowedLivesModel_194 zV_X12_hasWord rfl [25] [0] [0, 1, 2, 3, 4, 5, 6, 7, 8, 9, 10, 11, 12, 13, 14, 15, 16, 17, 18, 19, 20, 21, 22, 23, 24] rfl rfl rfl (by decide) (by decide) (by omega) (by decide) (Nat.zero_le _) (Nat.zero_le _) rfl rfl rfl rfl rfl ?_
            rintro v cc ⟨rfl, rfl⟩
            refine ⟨_, rfl, rfl, ?_⟩
            show AW Z 0 0 115 [some (.ref 0), some (.int a1), some (.int z4), some (.int z9)] [.int q63.1] ([kR 0 (R_at_s v0 q63.2)] : List (List zE)).flatten
            refine AW.run hZ hRm [122, 137] 400 ?_
            show (((q63.1 = 0) → AW Z 0 0 137 [some (.ref 0), some (.int a1), some (.int z4), some (.int z9)] [.int 40, .ref 0] ([kR 0 (R_at_s v0 q63.2)] : List (List zE)).flatten) ∧ (¬ (q63.1 = 0) → AW Z 0 0 122 [some (.ref 0), some (.int a1), some (.int z4), some (.int z9)] [.int (a1 + 1), .ref 0] ([kR 0 (R_at_s v0 q63.2)] : List (List zE)).flatten))
            refine ⟨fun c64 => ?_, fun c64 => ?_⟩
            · rw [if_pos c64] at hf
              obtain ⟨q65, h79, hf⟩ := zbind hf
              refine AW.callVc hZ hR hN (c_R_hasSign N (R_at_s v0 q63.2) 40 q65 h79) zMX12_hasSign_ok rfl rfl zK_BorrowedLivesModel_279 zV_X12_hasSign rfl [25] [0] [0, 1, 2, 3, 4, 5, 6, 7, 8, 9, 10, 11, 12, 13, 14, 15, 16, 17, 18, 19, 20, 21, 22, 23, 24] rfl rfl rfl (by decide) (by decide) (by omega) (by decide) (Nat.zero_le _) (Nat.zero_le _) rfl rfl rfl rfl rfl ?_
              rintro v cc ⟨rfl, rfl⟩
              refine ⟨_, rfl, rfl, ?_⟩
              show AW Z 0 0 140 [some (.ref 0), some (.int a1), some (.int z4), some (.int z9)] [.int q65.1] ([kR 0 (R_at_s v0 q65.2)] : List (List zE)).flatten
              refine AW.run hZ hRm [147, 161] 400 ?_
              show (((q65.1 = 0) → AW Z 0 0 161 [some (.ref 0), some (.int a1), some (.int z4), some (.int z9)] [.int z4, .ref 0] ([kR 0 (R_at_s v0 q65.2)] : List (List zE)).flatten) ∧ (¬ (q65.1 = 0) → AW Z 0 0 147 [some (.ref 0), some (.int a1), some (.int z4), some (.int z9)] [.int (a1 + 1), .ref 0] ([kR 0 (R_at_s v0 q65.2)] : List (List zE)).flatten))
              refine ⟨fun c66 => ?_, fun c66 => ?_⟩
              · rw [if_pos c66] at hf
                suffices H67 : AW Z 0 0 169 [some (.ref 0), none, some (.int z4), some (.int z9)] [.int (if (z4 = 0) then 2 else 1), .ref 0] ([kR 0 (R_at_s v0 q65.2)] : List (List zE)).flatten from by
                  refine AW.run hZ hRm [169] 400 ?_
                  show (((z4 = 0) → AW Z 0 0 169 [some (.ref 0), some (.int a1), some (.int z4), some (.int z9)] [.int 2, .ref 0] ([kR 0 (R_at_s v0 q65.2)] : List (List zE)).flatten) ∧ (¬ (z4 = 0) → AW Z 0 0 169 [some (.ref 0), some (.int a1), some (.int z4), some (.int z9)] [.int 1, .ref 0] ([kR 0 (R_at_s v0 q65.2)] : List (List zE)).flatten))
                  refine ⟨fun c68 => ?_, fun c68 => ?_⟩
                  · refine AW.forget [true, false, true, true] ?_
                    show AW Z 0 0 169 [some (.ref 0), none, some (.int z4), some (.int z9)] [.int 2, .ref 0] ([kR 0 (R_at_s v0 q65.2)] : List (List zE)).flatten
                    simpa only [if_pos c68] using H67
                  · refine AW.forget [true, false, true, true] ?_
                    show AW Z 0 0 169 [some (.ref 0), none, some (.int z4), some (.int z9)] [.int 1, .ref 0] ([kR 0 (R_at_s v0 q65.2)] : List (List zE)).flatten
                    simpa only [if_neg c68] using H67
                refine AW.run hZ hRm [187] 400 ?_
                show (((z4 = 0) → AW Z 0 0 187 [some (.ref 0), none, some (.int z4), some (.int z9)] [.int z9, .int (if (z4 = 0) then 2 else 1), .ref 0] ([kR 0 (R_at_s v0 q65.2)] : List (List zE)).flatten) ∧ (¬ (z4 = 0) → (¬ (q65.2 < 0 ∨ 1002 ≤ Int32.toNatClampNeg q65.2) ∧ AW Z 0 0 187 [some (.ref 0), none, some (.int z4), some (.int z9)] [.int (Int64.toInt32 ((R_value v0) (Int32.toNatClampNeg q65.2))), .int (if (z4 = 0) then 2 else 1), .ref 0] ([kR 0 (R_at_s v0 q65.2)] : List (List zE)).flatten)))
                refine ⟨fun c69 => ?_, fun c69 => ?_⟩
                · rw [if_pos c69] at hf
                  obtain ⟨q70, h71, hf⟩ := zbind hf
                  refine AW.callVc hZ hR hN (c_R_emit N (R_at_s v0 q65.2) (if (z4 = 0) then 2 else 1) z9 q70 h71) zMX12_emit_ok rfl rfl zK_BorrowedLivesModel_262 zV_X12_emit rfl [25] [0] [0, 1, 2, 3, 4, 5, 6, 7, 8, 9, 10, 11, 12, 13, 14, 15, 16, 17, 18, 19, 20, 21, 22, 23, 24] rfl rfl rfl (by decide) (by decide) (by omega) (by decide) (Nat.zero_le _) (Nat.zero_le _) rfl rfl rfl rfl rfl ?_
                  rintro v cc ⟨rfl, rfl⟩
                  refine ⟨_, rfl, rfl, ?_⟩
                  show AW Z 0 0 190 [some (.ref 0), none, some (.int z4), some (.int z9)] [] ([kR 0 (R_s_at_op_arg_codes v0 q65.2 q70.1 q70.2.1 q70.2.2)] : List (List zE)).flatten
                  refine AW.run hZ hRm [200] 400 ?_
                  show AW Z 0 0 200 [some (.ref 0), none, some (.int z4), some (.int z9)] [] ([kR 0 (R_s_at_op_arg_codes v0 (q65.2 + 1) q70.1 q70.2.1 q70.2.2)] : List (List zE)).flatten
                  cases hf
                  exact AW.vret hZ hE rfl rfl rfl (Nat.le_refl 0) (Nat.le_refl 0) rfl ⟨rfl, rfl⟩
                · rw [if_neg c69] at hf
                  obtain ⟨b74, hf⟩ := zneed hf
                  refine ⟨b74, ?_⟩
                  obtain ⟨q72, h73, hf⟩ := zbind hf
                  refine AW.callVc hZ hR hN (c_R_emit N (R_at_s v0 q65.2) (if (z4 = 0) then 2 else 1) (Int64.toInt32 ((R_value v0) (Int32.toNatClampNeg q65.2))) q72 h73) zMX12_emit_ok rfl rfl zK_BorrowedLivesModel_262 zV_X12_emit rfl [25] [0] [0, 1, 2, 3, 4, 5, 6, 7, 8, 9, 10, 11, 12, 13, 14, 15, 16, 17, 18, 19, 20, 21, 22, 23, 24] rfl rfl rfl (by decide) (by decide) (by omega) (by decide) (Nat.zero_le _) (Nat.zero_le _) rfl rfl rfl rfl rfl ?_
                  rintro v cc ⟨rfl, rfl⟩
                  refine ⟨_, rfl, rfl, ?_⟩
                  show AW Z 0 0 190 [some (.ref 0), none, some (.int z4), some (.int z9)] [] ([kR 0 (R_s_at_op_arg_codes v0 q65.2 q72.1 q72.2.1 q72.2.2)] : List (List zE)).flatten
                  refine AW.run hZ hRm [200] 400 ?_
                  show AW Z 0 0 200 [some (.ref 0), none, some (.int z4), some (.int z9)] [] ([kR 0 (R_s_at_op_arg_codes v0 (q65.2 + 1) q72.1 q72.2.1 q72.2.2)] : List (List zE)).flatten
                  cases hf
                  exact AW.vret hZ hE rfl rfl rfl (Nat.le_refl 0) (Nat.le_refl 0) rfl ⟨rfl, rfl⟩
              · rw [if_neg c66] at hf
                obtain ⟨q75, h78, hf⟩ := zbind hf
                refine AW.callVc hZ hR hN (hr_f_R_all (R_at_s v0 q65.2) (a1 + 1) q75 h78) zMX12_all_ok rfl rfl zK_BorrowedLivesModel_259 zV_X12_all rfl [25] [0] [0, 1, 2, 3, 4, 5, 6, 7, 8, 9, 10, 11, 12, 13, 14, 15, 16, 17, 18, 19, 20, 21, 22, 23, 24] rfl rfl rfl (by decide) (by decide) (by omega) (by decide) (Nat.zero_le _) (Nat.zero_le _) rfl rfl rfl rfl rfl ?_
                rintro v cc ⟨rfl, rfl⟩
                refine ⟨_, rfl, rfl, ?_⟩
                show AW Z 0 0 150 [some (.ref 0), some (.int a1), some (.int z4), some (.int z9)] [] ([kR 0 (R_s_at_fault_op_arg_codes v0 q75.1 q75.2.1 q75.2.2.1 q75.2.2.2.1 q75.2.2.2.2)] : List (List zE)).flatten
                refine AW.run hZ hRm [153] 400 ?_
                show AW Z 0 0 153 [some (.ref 0), some (.int a1), some (.int z4), some (.int z9)] [.int 41, .ref 0] ([kR 0 (R_s_at_fault_op_arg_codes v0 q75.1 q75.2.1 q75.2.2.1 q75.2.2.2.1 q75.2.2.2.2)] : List (List zE)).flatten
                obtain ⟨q76, h77, hf⟩ := zbind hf
                refine AW.callVc hZ hR hN (c_R_takeSign N (R_s_at_fault_op_arg_codes v0 q75.1 q75.2.1 q75.2.2.1 q75.2.2.2.1 q75.2.2.2.2) 41 q76 h77) zMX12_takeSign_ok rfl rfl zK_BorrowedLivesModel_243 zV_X12_takeSign rfl [25] [0] [0, 1, 2, 3, 4, 5, 6, 7, 8, 9, 10, 11, 12, 13, 14, 15, 16, 17, 18, 19, 20, 21, 22, 23, 24] rfl rfl rfl (by decide) (by decide) (by omega) (by decide) (Nat.zero_le _) (Nat.zero_le _) rfl rfl rfl rfl rfl ?_
                rintro v cc ⟨rfl, rfl⟩
                refine ⟨_, rfl, rfl, ?_⟩
                show AW Z 0 0 156 [some (.ref 0), some (.int a1), some (.int z4), some (.int z9)] [] ([kR 0 (R_s_at_fault_op_arg_codes v0 q76.1 q76.2 q75.2.2.1 q75.2.2.2.1 q75.2.2.2.2)] : List (List zE)).flatten
                refine AW.run hZ hRm [200] 400 ?_
                show AW Z 0 0 200 [some (.ref 0), some (.int a1), some (.int z4), some (.int z9)] [] ([kR 0 (R_s_at_fault_op_arg_codes v0 q76.1 q76.2 q75.2.2.1 q75.2.2.2.1 q75.2.2.2.2)] : List (List zE)).flatten
                cases hf
                exact AW.vret hZ hE rfl rfl rfl (Nat.le_refl 0) (Nat.le_refl 0) rfl ⟨rfl, rfl⟩
            · rw [if_neg c64] at hf
              obtain ⟨q80, h83, hf⟩ := zbind hf
              refine AW.callVc hZ hR hN (hr_f_R_takePart (R_at_s v0 q63.2) (a1 + 1) q80 h83) zMX12_takePart_ok rfl rfl zK_BorrowedLivesModel_285 zV_X12_takePart rfl [25] [0] [0, 1, 2, 3, 4, 5, 6, 7, 8, 9, 10, 11, 12, 13, 14, 15, 16, 17, 18, 19, 20, 21, 22, 23, 24] rfl rfl rfl (by decide) (by decide) (by omega) (by decide) (Nat.zero_le _) (Nat.zero_le _) rfl rfl rfl rfl rfl ?_
              rintro v cc ⟨rfl, rfl⟩
              refine ⟨_, rfl, rfl, ?_⟩
              show AW Z 0 0 125 [some (.ref 0), some (.int a1), some (.int z4), some (.int z9)] [] ([kR 0 (R_s_at_fault_op_arg_codes v0 q80.1 q80.2.1 q80.2.2.1 q80.2.2.2.1 q80.2.2.2.2)] : List (List zE)).flatten
              refine AW.run hZ hRm [128] 400 ?_
              show AW Z 0 0 128 [some (.ref 0), some (.int a1), some (.int z4), some (.int z9)] [.int 0, .int 3, .ref 0] ([kR 0 (R_s_at_fault_op_arg_codes v0 q80.1 q80.2.1 q80.2.2.1 q80.2.2.2.1 q80.2.2.2.2)] : List (List zE)).flatten
              obtain ⟨q81, h82, hf⟩ := zbind hf
              refine AW.callVc hZ hR hN (c_R_emit N (R_s_at_fault_op_arg_codes v0 q80.1 q80.2.1 q80.2.2.1 q80.2.2.2.1 q80.2.2.2.2) 3 0 q81 h82) zMX12_emit_ok rfl rfl zK_BorrowedLivesModel_262 zV_X12_emit rfl [25] [0] [0, 1, 2, 3, 4, 5, 6, 7, 8, 9, 10, 11, 12, 13, 14, 15, 16, 17, 18, 19, 20, 21, 22, 23, 24] rfl rfl rfl (by decide) (by decide) (by omega) (by decide) (Nat.zero_le _) (Nat.zero_le _) rfl rfl rfl rfl rfl ?_
              rintro v cc ⟨rfl, rfl⟩
              refine ⟨_, rfl, rfl, ?_⟩
              show AW Z 0 0 131 [some (.ref 0), some (.int a1), some (.int z4), some (.int z9)] [] ([kR 0 (R_s_at_fault_op_arg_codes v0 q80.1 q80.2.1 q81.1 q81.2.1 q81.2.2)] : List (List zE)).flatten
              refine AW.run hZ hRm [200] 400 ?_
              show AW Z 0 0 200 [some (.ref 0), some (.int a1), some (.int z4), some (.int z9)] [] ([kR 0 (R_s_at_fault_op_arg_codes v0 q80.1 q80.2.1 q81.1 q81.2.1 q81.2.2)] : List (List zE)).flatten
              cases hf
              exact AW.vret hZ hE rfl rfl rfl (Nat.le_refl 0) (Nat.le_refl 0) rfl ⟨rfl, rfl⟩
          · rw [if_neg c62] at hf
            cases hf
            exact AW.vret hZ hE rfl rfl rfl (Nat.le_refl 0) (Nat.le_refl 0) rfl ⟨rfl, rfl⟩
        · rw [if_pos c61] at hf
          obtain ⟨q85, h109, hf⟩ := zbind hf
          refine AW.callVc hZ hR hN (c_R_wrong N v0 5 q85 h109) zMX12_wrong_ok rfl rfl zK_BorrowedLivesModel_188 zV_X12_wrong rfl [25] [0] [0, 1, 2, 3, 4, 5, 6, 7, 8, 9, 10, 11, 12, 13, 14, 15, 16, 17, 18, 19, 20, 21, 22, 23, 24] rfl rfl rfl (by decide) (by decide) (by omega) (by decide) (Nat.zero_le _) (Nat.zero_le _) rfl rfl rfl rfl rfl ?_
          rintro v cc ⟨rfl, rfl⟩
          refine ⟨_, rfl, rfl, ?_⟩
          show AW Z 0 0 101 [some (.ref 0), some (.int a1), some (.int z4), some (.int z9)] [] ([kR 0 (R_fault_s v0 q85)] : List (List zE)).flatten
          refine AW.run hZ hRm [108, 112] 400 ?_
          show (((q85 ≤ 0) → AW Z 0 0 112 [some (.ref 0), some (.int a1), some (.int z4), some (.int z9)] [.int 19, .ref 0] ([kR 0 (R_fault_s v0 q85)] : List (List zE)).flatten) ∧ (¬ (q85 ≤ 0) → AW Z 0 0 108 [some (.ref 0), some (.int a1), some (.int z4), some (.int z9)] [] ([kR 0 (R_fault_s v0 q85)] : List (List zE)).flatten))
          refine ⟨fun c86 => ?_, fun c86 => ?_⟩
          · rw [if_pos c86] at hf
            obtain ⟨q87, h108, hf⟩ := zbind hf
            refine AW.callVc hZ hR hN (c_R_hasWord N (R_fault_s v0 q85) 19 q87 h108) zMX12_hasWord_ok rfl rfl zK_BorrowedLivesModel_194 zV_X12_hasWord rfl [25] [0] [0, 1, 2, 3, 4, 5, 6, 7, 8, 9, 10, 11, 12, 13, 14, 15, 16, 17, 18, 19, 20, 21, 22, 23, 24] rfl rfl rfl (by decide) (by decide) (by omega) (by decide) (Nat.zero_le _) (Nat.zero_le _) rfl rfl rfl rfl rfl ?_
            rintro v cc ⟨rfl, rfl⟩
            refine ⟨_, rfl, rfl, ?_⟩
            show AW Z 0 0 115 [some (.ref 0), some (.int a1), some (.int z4), some (.int z9)] [.int q87.1] ([kR 0 (R_s_at_fault v0 q87.2 q85)] : List (List zE)).flatten
            refine AW.run hZ hRm [122, 137] 400 ?_
            show (((q87.1 = 0) → AW Z 0 0 137 [some (.ref 0), some (.int a1), some (.int z4), some (.int z9)] [.int 40, .ref 0] ([kR 0 (R_s_at_fault v0 q87.2 q85)] : List (List zE)).flatten) ∧ (¬ (q87.1 = 0) → AW Z 0 0 122 [some (.ref 0), some (.int a1), some (.int z4), some (.int z9)] [.int (a1 + 1), .ref 0] ([kR 0 (R_s_at_fault v0 q87.2 q85)] : List (List zE)).flatten))
            refine ⟨fun c88 => ?_, fun c88 => ?_⟩
            · rw [if_pos c88] at hf
              obtain ⟨q89, h103, hf⟩ := zbind hf
              refine AW.callVc hZ hR hN (c_R_hasSign N (R_s_at_fault v0 q87.2 q85) 40 q89 h103) zMX12_hasSign_ok rfl rfl zK_BorrowedLivesModel_279 zV_X12_hasSign rfl [25] [0] [0, 1, 2, 3, 4, 5, 6, 7, 8, 9, 10, 11, 12, 13, 14, 15, 16, 17, 18, 19, 20, 21, 22, 23, 24] rfl rfl rfl (by decide) (by decide) (by omega) (by decide) (Nat.zero_le _) (Nat.zero_le _) rfl rfl rfl rfl rfl ?_
              rintro v cc ⟨rfl, rfl⟩
              refine ⟨_, rfl, rfl, ?_⟩
              show AW Z 0 0 140 [some (.ref 0), some (.int a1), some (.int z4), some (.int z9)] [.int q89.1] ([kR 0 (R_s_at_fault v0 q89.2 q85)] : List (List zE)).flatten
              refine AW.run hZ hRm [147, 161] 400 ?_
              show (((q89.1 = 0) → AW Z 0 0 161 [some (.ref 0), some (.int a1), some (.int z4), some (.int z9)] [.int z4, .ref 0] ([kR 0 (R_s_at_fault v0 q89.2 q85)] : List (List zE)).flatten) ∧ (¬ (q89.1 = 0) → AW Z 0 0 147 [some (.ref 0), some (.int a1), some (.int z4), some (.int z9)] [.int (a1 + 1), .ref 0] ([kR 0 (R_s_at_fault v0 q89.2 q85)] : List (List zE)).flatten))
              refine ⟨fun c90 => ?_, fun c90 => ?_⟩
              · rw [if_pos c90] at hf
                suffices H91 : AW Z 0 0 169 [some (.ref 0), none, some (.int z4), some (.int z9)] [.int (if (z4 = 0) then 2 else 1), .ref 0] ([kR 0 (R_s_at_fault v0 q89.2 q85)] : List (List zE)).flatten from by
                  refine AW.run hZ hRm [169] 400 ?_
                  show (((z4 = 0) → AW Z 0 0 169 [some (.ref 0), some (.int a1), some (.int z4), some (.int z9)] [.int 2, .ref 0] ([kR 0 (R_s_at_fault v0 q89.2 q85)] : List (List zE)).flatten) ∧ (¬ (z4 = 0) → AW Z 0 0 169 [some (.ref 0), some (.int a1), some (.int z4), some (.int z9)] [.int 1, .ref 0] ([kR 0 (R_s_at_fault v0 q89.2 q85)] : List (List zE)).flatten))
                  refine ⟨fun c92 => ?_, fun c92 => ?_⟩
                  · refine AW.forget [true, false, true, true] ?_
                    show AW Z 0 0 169 [some (.ref 0), none, some (.int z4), some (.int z9)] [.int 2, .ref 0] ([kR 0 (R_s_at_fault v0 q89.2 q85)] : List (List zE)).flatten
                    simpa only [if_pos c92] using H91
                  · refine AW.forget [true, false, true, true] ?_
                    show AW Z 0 0 169 [some (.ref 0), none, some (.int z4), some (.int z9)] [.int 1, .ref 0] ([kR 0 (R_s_at_fault v0 q89.2 q85)] : List (List zE)).flatten
                    simpa only [if_neg c92] using H91
                refine AW.run hZ hRm [187] 400 ?_
                show (((z4 = 0) → AW Z 0 0 187 [some (.ref 0), none, some (.int z4), some (.int z9)] [.int z9, .int (if (z4 = 0) then 2 else 1), .ref 0] ([kR 0 (R_s_at_fault v0 q89.2 q85)] : List (List zE)).flatten) ∧ (¬ (z4 = 0) → (¬ (q89.2 < 0 ∨ 1002 ≤ Int32.toNatClampNeg q89.2) ∧ AW Z 0 0 187 [some (.ref 0), none, some (.int z4), some (.int z9)] [.int (Int64.toInt32 ((R_value v0) (Int32.toNatClampNeg q89.2))), .int (if (z4 = 0) then 2 else 1), .ref 0] ([kR 0 (R_s_at_fault v0 q89.2 q85)] : List (List zE)).flatten)))
                refine ⟨fun c93 => ?_, fun c93 => ?_⟩
                · rw [if_pos c93] at hf
                  obtain ⟨q94, h95, hf⟩ := zbind hf
                  refine AW.callVc hZ hR hN (c_R_emit N (R_s_at_fault v0 q89.2 q85) (if (z4 = 0) then 2 else 1) z9 q94 h95) zMX12_emit_ok rfl rfl zK_BorrowedLivesModel_262 zV_X12_emit rfl [25] [0] [0, 1, 2, 3, 4, 5, 6, 7, 8, 9, 10, 11, 12, 13, 14, 15, 16, 17, 18, 19, 20, 21, 22, 23, 24] rfl rfl rfl (by decide) (by decide) (by omega) (by decide) (Nat.zero_le _) (Nat.zero_le _) rfl rfl rfl rfl rfl ?_
                  rintro v cc ⟨rfl, rfl⟩
                  refine ⟨_, rfl, rfl, ?_⟩
                  show AW Z 0 0 190 [some (.ref 0), none, some (.int z4), some (.int z9)] [] ([kR 0 (R_s_at_fault_op_arg_codes v0 q89.2 q85 q94.1 q94.2.1 q94.2.2)] : List (List zE)).flatten
                  refine AW.run hZ hRm [200] 400 ?_
                  show AW Z 0 0 200 [some (.ref 0), none, some (.int z4), some (.int z9)] [] ([kR 0 (R_s_at_fault_op_arg_codes v0 (q89.2 + 1) q85 q94.1 q94.2.1 q94.2.2)] : List (List zE)).flatten
                  cases hf
                  exact AW.vret hZ hE rfl rfl rfl (Nat.le_refl 0) (Nat.le_refl 0) rfl ⟨rfl, rfl⟩
                · rw [if_neg c93] at hf
                  obtain ⟨b98, hf⟩ := zneed hf
                  refine ⟨b98, ?_⟩
                  obtain ⟨q96, h97, hf⟩ := zbind hf
                  refine AW.callVc hZ hR hN (c_R_emit N (R_s_at_fault v0 q89.2 q85) (if (z4 = 0) then 2 else 1) (Int64.toInt32 ((R_value v0) (Int32.toNatClampNeg q89.2))) q96 h97) zMX12_emit_ok rfl rfl zK_BorrowedLivesModel_262 zV_X12_emit rfl [25] [0] [0, 1, 2, 3, 4, 5, 6, 7, 8, 9, 10, 11, 12, 13, 14, 15, 16, 17, 18, 19, 20, 21, 22, 23, 24] rfl rfl rfl (by decide) (by decide) (by omega) (by decide) (Nat.zero_le _) (Nat.zero_le _) rfl rfl rfl rfl rfl ?_
                  rintro v cc ⟨rfl, rfl⟩
                  refine ⟨_, rfl, rfl, ?_⟩
                  show AW Z 0 0 190 [some (.ref 0), none, some (.int z4), some (.int z9)] [] ([kR 0 (R_s_at_fault_op_arg_codes v0 q89.2 q85 q96.1 q96.2.1 q96.2.2)] : List (List zE)).flatten
                  refine AW.run hZ hRm [200] 400 ?_
                  show AW Z 0 0 200 [some (.ref 0), none, some (.int z4), some (.int z9)] [] ([kR 0 (R_s_at_fault_op_arg_codes v0 (q89.2 + 1) q85 q96.1 q96.2.1 q96.2.2)] : List (List zE)).flatten
                  cases hf
                  exact AW.vret hZ hE rfl rfl rfl (Nat.le_refl 0) (Nat.le_refl 0) rfl ⟨rfl, rfl⟩
              · rw [if_neg c90] at hf
                obtain ⟨q99, h102, hf⟩ := zbind hf
                refine AW.callVc hZ hR hN (hr_f_R_all (R_s_at_fault v0 q89.2 q85) (a1 + 1) q99 h102) zMX12_all_ok rfl rfl zK_BorrowedLivesModel_259 zV_X12_all rfl [25] [0] [0, 1, 2, 3, 4, 5, 6, 7, 8, 9, 10, 11, 12, 13, 14, 15, 16, 17, 18, 19, 20, 21, 22, 23, 24] rfl rfl rfl (by decide) (by decide) (by omega) (by decide) (Nat.zero_le _) (Nat.zero_le _) rfl rfl rfl rfl rfl ?_
                rintro v cc ⟨rfl, rfl⟩
                refine ⟨_, rfl, rfl, ?_⟩
                show AW Z 0 0 150 [some (.ref 0), some (.int a1), some (.int z4), some (.int z9)] [] ([kR 0 (R_s_at_fault_op_arg_codes v0 q99.1 q99.2.1 q99.2.2.1 q99.2.2.2.1 q99.2.2.2.2)] : List (List zE)).flatten
                refine AW.run hZ hRm [153] 400 ?_
                show AW Z 0 0 153 [some (.ref 0), some (.int a1), some (.int z4), some (.int z9)] [.int 41, .ref 0] ([kR 0 (R_s_at_fault_op_arg_codes v0 q99.1 q99.2.1 q99.2.2.1 q99.2.2.2.1 q99.2.2.2.2)] : List (List zE)).flatten
                obtain ⟨q100, h101, hf⟩ := zbind hf
                refine AW.callVc hZ hR hN (c_R_takeSign N (R_s_at_fault_op_arg_codes v0 q99.1 q99.2.1 q99.2.2.1 q99.2.2.2.1 q99.2.2.2.2) 41 q100 h101) zMX12_takeSign_ok rfl rfl zK_BorrowedLivesModel_243 zV_X12_takeSign rfl [25] [0] [0, 1, 2, 3, 4, 5, 6, 7, 8, 9, 10, 11, 12, 13, 14, 15, 16, 17, 18, 19, 20, 21, 22, 23, 24] rfl rfl rfl (by decide) (by decide) (by omega) (by decide) (Nat.zero_le _) (Nat.zero_le _) rfl rfl rfl rfl rfl ?_
                rintro v cc ⟨rfl, rfl⟩
                refine ⟨_, rfl, rfl, ?_⟩
                show AW Z 0 0 156 [some (.ref 0), some (.int a1), some (.int z4), some (.int z9)] [] ([kR 0 (R_s_at_fault_op_arg_codes v0 q100.1 q100.2 q99.2.2.1 q99.2.2.2.1 q99.2.2.2.2)] : List (List zE)).flatten
                refine AW.run hZ hRm [200] 400 ?_
                show AW Z 0 0 200 [some (.ref 0), some (.int a1), some (.int z4), some (.int z9)] [] ([kR 0 (R_s_at_fault_op_arg_codes v0 q100.1 q100.2 q99.2.2.1 q99.2.2.2.1 q99.2.2.2.2)] : List (List zE)).flatten
                cases hf
                exact AW.vret hZ hE rfl rfl rfl (Nat.le_refl 0) (Nat.le_refl 0) rfl ⟨rfl, rfl⟩
            · rw [if_neg c88] at hf
              obtain ⟨q104, h107, hf⟩ := zbind hf
              refine AW.callVc hZ hR hN (hr_f_R_takePart (R_s_at_fault v0 q87.2 q85) (a1 + 1) q104 h107) zMX12_takePart_ok rfl rfl zK_BorrowedLivesModel_285 zV_X12_takePart rfl [25] [0] [0, 1, 2, 3, 4, 5, 6, 7, 8, 9, 10, 11, 12, 13, 14, 15, 16, 17, 18, 19, 20, 21, 22, 23, 24] rfl rfl rfl (by decide) (by decide) (by omega) (by decide) (Nat.zero_le _) (Nat.zero_le _) rfl rfl rfl rfl rfl ?_
              rintro v cc ⟨rfl, rfl⟩
              refine ⟨_, rfl, rfl, ?_⟩
              show AW Z 0 0 125 [some (.ref 0), some (.int a1), some (.int z4), some (.int z9)] [] ([kR 0 (R_s_at_fault_op_arg_codes v0 q104.1 q104.2.1 q104.2.2.1 q104.2.2.2.1 q104.2.2.2.2)] : List (List zE)).flatten
              refine AW.run hZ hRm [128] 400 ?_
              show AW Z 0 0 128 [some (.ref 0), some (.int a1), some (.int z4), some (.int z9)] [.int 0, .int 3, .ref 0] ([kR 0 (R_s_at_fault_op_arg_codes v0 q104.1 q104.2.1 q104.2.2.1 q104.2.2.2.1 q104.2.2.2.2)] : List (List zE)).flatten
              obtain ⟨q105, h106, hf⟩ := zbind hf
              refine AW.callVc hZ hR hN (c_R_emit N (R_s_at_fault_op_arg_codes v0 q104.1 q104.2.1 q104.2.2.1 q104.2.2.2.1 q104.2.2.2.2) 3 0 q105 h106) zMX12_emit_ok rfl rfl zK_BorrowedLivesModel_262 zV_X12_emit rfl [25] [0] [0, 1, 2, 3, 4, 5, 6, 7, 8, 9, 10, 11, 12, 13, 14, 15, 16, 17, 18, 19, 20, 21, 22, 23, 24] rfl rfl rfl (by decide) (by decide) (by omega) (by decide) (Nat.zero_le _) (Nat.zero_le _) rfl rfl rfl rfl rfl ?_
              rintro v cc ⟨rfl, rfl⟩
              refine ⟨_, rfl, rfl, ?_⟩
              show AW Z 0 0 131 [some (.ref 0), some (.int a1), some (.int z4), some (.int z9)] [] ([kR 0 (R_s_at_fault_op_arg_codes v0 q104.1 q104.2.1 q105.1 q105.2.1 q105.2.2)] : List (List zE)).flatten
              refine AW.run hZ hRm [200] 400 ?_
              show AW Z 0 0 200 [some (.ref 0), some (.int a1), some (.int z4), some (.int z9)] [] ([kR 0 (R_s_at_fault_op_arg_codes v0 q104.1 q104.2.1 q105.1 q105.2.1 q105.2.2)] : List (List zE)).flatten
              cases hf
              exact AW.vret hZ hE rfl rfl rfl (Nat.le_refl 0) (Nat.le_refl 0) rfl ⟨rfl, rfl⟩
          · rw [if_neg c86] at hf
            cases hf
            exact AW.vret hZ hE rfl rfl rfl (Nat.le_refl 0) (Nat.le_refl 0) rfl ⟨rfl, rfl⟩
      · rw [if_pos c60] at hf
        obtain ⟨q110, h238, hf⟩ := zbind hf
        refine AW.callVc hZ hR hN (c_R_isSign N v0 40 q110 h238) zMX12_isSign_ok rfl rfl zK_BorrowedLivesModel_185 zV_X12_isSign rfl [25] [0] [0, 1, 2, 3, 4, 5, 6, 7, 8, 9, 10, 11, 12, 13, 14, 15, 16, 17, 18, 19, 20, 21, 22, 23, 24] rfl rfl rfl (by decide) (by decide) (by omega) (by decide) (Nat.zero_le _) (Nat.zero_le _) rfl rfl rfl rfl rfl ?_
        rintro v cc ⟨rfl, rfl⟩
        refine ⟨_, rfl, rfl, ?_⟩
        show AW Z 0 0 71 [some (.ref 0), some (.int a1), some (.int z4), some (.int z9)] [.int q110] ([kR 0 v0] : List (List zE)).flatten
        refine AW.run hZ hRm [77, 98, 108, 112] 400 ?_
        show ((¬ (q110 = 0) → ((¬ (a1 = 5) → ((((R_fault v0) ≤ 0) → AW Z 0 0 112 [some (.ref 0), some (.int a1), some (.int z4), some (.int z9)] [.int 19, .ref 0] ([kR 0 v0] : List (List zE)).flatten) ∧ (¬ ((R_fault v0) ≤ 0) → AW Z 0 0 108 [some (.ref 0), some (.int a1), some (.int z4), some (.int z9)] [] ([kR 0 v0] : List (List zE)).flatten))) ∧ ((a1 = 5) → AW Z 0 0 98 [some (.ref 0), some (.int a1), some (.int z4), some (.int z9)] [.int 5, .ref 0] ([kR 0 v0] : List (List zE)).flatten))) ∧ ((q110 = 0) → AW Z 0 0 77 [some (.ref 0), some (.int a1), some (.int z4), some (.int z9)] [.int 19, .ref 0] ([kR 0 v0] : List (List zE)).flatten))
        refine ⟨fun c111 => ?_, fun c111 => ?_⟩
        · rw [if_neg c111] at hf
          refine ⟨fun c112 => ?_, fun c112 => ?_⟩
          · rw [if_neg c112] at hf
            refine ⟨fun c113 => ?_, fun c113 => ?_⟩
            · rw [if_pos c113] at hf
              obtain ⟨q114, h135, hf⟩ := zbind hf
              refine AW.callVc hZ hR hN (c_R_hasWord N v0 19 q114 h135) zMX12_hasWord_ok rfl rfl zK_BorrowedLivesModel_194 zV_X12_hasWord rfl [25] [0] [0, 1, 2, 3, 4, 5, 6, 7, 8, 9, 10, 11, 12, 13, 14, 15, 16, 17, 18, 19, 20, 21, 22, 23, 24] rfl rfl rfl (by decide) (by decide) (by omega) (by decide) (Nat.zero_le _) (Nat.zero_le _) rfl rfl rfl rfl rfl ?_
              rintro v cc ⟨rfl, rfl⟩
              refine ⟨_, rfl, rfl, ?_⟩
              show AW Z 0 0 115 [some (.ref 0), some (.int a1), some (.int z4), some (.int z9)] [.int q114.1] ([kR 0 (R_at_s v0 q114.2)] : List (List zE)).flatten
              refine AW.run hZ hRm [122, 137] 400 ?_
              show (((q114.1 = 0) → AW Z 0 0 137 [some (.ref 0), some (.int a1), some (.int z4), some (.int z9)] [.int 40, .ref 0] ([kR 0 (R_at_s v0 q114.2)] : List (List zE)).flatten) ∧ (¬ (q114.1 = 0) → AW Z 0 0 122 [some (.ref 0), some (.int a1), some (.int z4), some (.int z9)] [.int (a1 + 1), .ref 0] ([kR 0 (R_at_s v0 q114.2)] : List (List zE)).flatten))
              refine ⟨fun c115 => ?_, fun c115 => ?_⟩
              · rw [if_pos c115] at hf
                obtain ⟨q116, h130, hf⟩ := zbind hf
                refine AW.callVc hZ hR hN (c_R_hasSign N (R_at_s v0 q114.2) 40 q116 h130) zMX12_hasSign_ok rfl rfl zK_BorrowedLivesModel_279 zV_X12_hasSign rfl [25] [0] [0, 1, 2, 3, 4, 5, 6, 7, 8, 9, 10, 11, 12, 13, 14, 15, 16, 17, 18, 19, 20, 21, 22, 23, 24] rfl rfl rfl (by decide) (by decide) (by omega) (by decide) (Nat.zero_le _) (Nat.zero_le _) rfl rfl rfl rfl rfl ?_
                rintro v cc ⟨rfl, rfl⟩
                refine ⟨_, rfl, rfl, ?_⟩
                show AW Z 0 0 140 [some (.ref 0), some (.int a1), some (.int z4), some (.int z9)] [.int q116.1] ([kR 0 (R_at_s v0 q116.2)] : List (List zE)).flatten
                refine AW.run hZ hRm [147, 161] 400 ?_
                show (((q116.1 = 0) → AW Z 0 0 161 [some (.ref 0), some (.int a1), some (.int z4), some (.int z9)] [.int z4, .ref 0] ([kR 0 (R_at_s v0 q116.2)] : List (List zE)).flatten) ∧ (¬ (q116.1 = 0) → AW Z 0 0 147 [some (.ref 0), some (.int a1), some (.int z4), some (.int z9)] [.int (a1 + 1), .ref 0] ([kR 0 (R_at_s v0 q116.2)] : List (List zE)).flatten))
                refine ⟨fun c117 => ?_, fun c117 => ?_⟩
                · rw [if_pos c117] at hf
                  suffices H118 : AW Z 0 0 169 [some (.ref 0), none, some (.int z4), some (.int z9)] [.int (if (z4 = 0) then 2 else 1), .ref 0] ([kR 0 (R_at_s v0 q116.2)] : List (List zE)).flatten from by
                    refine AW.run hZ hRm [169] 400 ?_
                    show (((z4 = 0) → AW Z 0 0 169 [some (.ref 0), some (.int a1), some (.int z4), some (.int z9)] [.int 2, .ref 0] ([kR 0 (R_at_s v0 q116.2)] : List (List zE)).flatten) ∧ (¬ (z4 = 0) → AW Z 0 0 169 [some (.ref 0), some (.int a1), some (.int z4), some (.int z9)] [.int 1, .ref 0] ([kR 0 (R_at_s v0 q116.2)] : List (List zE)).flatten))
                    refine ⟨fun c119 => ?_, fun c119 => ?_⟩
                    · refine AW.forget [true, false, true, true] ?_
                      show AW Z 0 0 169 [some (.ref 0), none, some (.int z4), some (.int z9)] [.int 2, .ref 0] ([kR 0 (R_at_s v0 q116.2)] : List (List zE)).flatten
                      simpa only [if_pos c119] using H118
                    · refine AW.forget [true, false, true, true] ?_
                      show AW Z 0 0 169 [some (.ref 0), none, some (.int z4), some (.int z9)] [.int 1, .ref 0] ([kR 0 (R_at_s v0 q116.2)] : List (List zE)).flatten
                      simpa only [if_neg c119] using H118
                  refine AW.run hZ hRm [187] 400 ?_
                  show (((z4 = 0) → AW Z 0 0 187 [some (.ref 0), none, some (.int z4), some (.int z9)] [.int z9, .int (if (z4 = 0) then 2 else 1), .ref 0] ([kR 0 (R_at_s v0 q116.2)] : List (List zE)).flatten) ∧ (¬ (z4 = 0) → (¬ (q116.2 < 0 ∨ 1002 ≤ Int32.toNatClampNeg q116.2) ∧ AW Z 0 0 187 [some (.ref 0), none, some (.int z4), some (.int z9)] [.int (Int64.toInt32 ((R_value v0) (Int32.toNatClampNeg q116.2))), .int (if (z4 = 0) then 2 else 1), .ref 0] ([kR 0 (R_at_s v0 q116.2)] : List (List zE)).flatten)))
                  refine ⟨fun c120 => ?_, fun c120 => ?_⟩
                  · rw [if_pos c120] at hf
                    obtain ⟨q121, h122, hf⟩ := zbind hf
                    refine AW.callVc hZ hR hN (c_R_emit N (R_at_s v0 q116.2) (if (z4 = 0) then 2 else 1) z9 q121 h122) zMX12_emit_ok rfl rfl zK_BorrowedLivesModel_262 zV_X12_emit rfl [25] [0] [0, 1, 2, 3, 4, 5, 6, 7, 8, 9, 10, 11, 12, 13, 14, 15, 16, 17, 18, 19, 20, 21, 22, 23, 24] rfl rfl rfl (by decide) (by decide) (by omega) (by decide) (Nat.zero_le _) (Nat.zero_le _) rfl rfl rfl rfl rfl ?_
                    rintro v cc ⟨rfl, rfl⟩
                    refine ⟨_, rfl, rfl, ?_⟩
                    show AW Z 0 0 190 [some (.ref 0), none, some (.int z4), some (.int z9)] [] ([kR 0 (R_s_at_op_arg_codes v0 q116.2 q121.1 q121.2.1 q121.2.2)] : List (List zE)).flatten
                    refine AW.run hZ hRm [200] 400 ?_
                    show AW Z 0 0 200 [some (.ref 0), none, some (.int z4), some (.int z9)] [] ([kR 0 (R_s_at_op_arg_codes v0 (q116.2 + 1) q121.1 q121.2.1 q121.2.2)] : List (List zE)).flatten
                    cases hf
                    exact AW.vret hZ hE rfl rfl rfl (Nat.le_refl 0) (Nat.le_refl 0) rfl ⟨rfl, rfl⟩
                  · rw [if_neg c120] at hf
                    obtain ⟨b125, hf⟩ := zneed hf
                    refine ⟨b125, ?_⟩
                    obtain ⟨q123, h124, hf⟩ := zbind hf
                    refine AW.callVc hZ hR hN (c_R_emit N (R_at_s v0 q116.2) (if (z4 = 0) then 2 else 1) (Int64.toInt32 ((R_value v0) (Int32.toNatClampNeg q116.2))) q123 h124) zMX12_emit_ok rfl rfl zK_BorrowedLivesModel_262 zV_X12_emit rfl [25] [0] [0, 1, 2, 3, 4, 5, 6, 7, 8, 9, 10, 11, 12, 13, 14, 15, 16, 17, 18, 19, 20, 21, 22, 23, 24] rfl rfl rfl (by decide) (by decide) (by omega) (by decide) (Nat.zero_le _) (Nat.zero_le _) rfl rfl rfl rfl rfl ?_
                    rintro v cc ⟨rfl, rfl⟩
                    refine ⟨_, rfl, rfl, ?_⟩
                    show AW Z 0 0 190 [some (.ref 0), none, some (.int z4), some (.int z9)] [] ([kR 0 (R_s_at_op_arg_codes v0 q116.2 q123.1 q123.2.1 q123.2.2)] : List (List zE)).flatten
                    refine AW.run hZ hRm [200] 400 ?_
                    show AW Z 0 0 200 [some (.ref 0), none, some (.int z4), some (.int z9)] [] ([kR 0 (R_s_at_op_arg_codes v0 (q116.2 + 1) q123.1 q123.2.1 q123.2.2)] : List (List zE)).flatten
                    cases hf
                    exact AW.vret hZ hE rfl rfl rfl (Nat.le_refl 0) (Nat.le_refl 0) rfl ⟨rfl, rfl⟩
                · rw [if_neg c117] at hf
                  obtain ⟨q126, h129, hf⟩ := zbind hf
                  refine AW.callVc hZ hR hN (hr_f_R_all (R_at_s v0 q116.2) (a1 + 1) q126 h129) zMX12_all_ok rfl rfl zK_BorrowedLivesModel_259 zV_X12_all rfl [25] [0] [0, 1, 2, 3, 4, 5, 6, 7, 8, 9, 10, 11, 12, 13, 14, 15, 16, 17, 18, 19, 20, 21, 22, 23, 24] rfl rfl rfl (by decide) (by decide) (by omega) (by decide) (Nat.zero_le _) (Nat.zero_le _) rfl rfl rfl rfl rfl ?_
                  rintro v cc ⟨rfl, rfl⟩
                  refine ⟨_, rfl, rfl, ?_⟩
                  show AW Z 0 0 150 [some (.ref 0), some (.int a1), some (.int z4), some (.int z9)] [] ([kR 0 (R_s_at_fault_op_arg_codes v0 q126.1 q126.2.1 q126.2.2.1 q126.2.2.2.1 q126.2.2.2.2)] : List (List zE)).flatten
                  refine AW.run hZ hRm [153] 400 ?_
                  show AW Z 0 0 153 [some (.ref 0), some (.int a1), some (.int z4), some (.int z9)] [.int 41, .ref 0] ([kR 0 (R_s_at_fault_op_arg_codes v0 q126.1 q126.2.1 q126.2.2.1 q126.2.2.2.1 q126.2.2.2.2)] : List (List zE)).flatten
                  obtain ⟨q127, h128, hf⟩ := zbind hf
                  refine AW.callVc hZ hR hN (c_R_takeSign N (R_s_at_fault_op_arg_codes v0 q126.1 q126.2.1 q126.2.2.1 q126.2.2.2.1 q126.2.2.2.2) 41 q127 h128) zMX12_takeSign_ok rfl rfl zK_BorrowedLivesModel_243 zV_X12_takeSign rfl [25] [0] [0, 1, 2, 3, 4, 5, 6, 7, 8, 9, 10, 11, 12, 13, 14, 15, 16, 17, 18, 19, 20, 21, 22, 23, 24] rfl rfl rfl (by decide) (by decide) (by omega) (by decide) (Nat.zero_le _) (Nat.zero_le _) rfl rfl rfl rfl rfl ?_
                  rintro v cc ⟨rfl, rfl⟩
                  refine ⟨_, rfl, rfl, ?_⟩
                  show AW Z 0 0 156 [some (.ref 0), some (.int a1), some (.int z4), some (.int z9)] [] ([kR 0 (R_s_at_fault_op_arg_codes v0 q127.1 q127.2 q126.2.2.1 q126.2.2.2.1 q126.2.2.2.2)] : List (List zE)).flatten
                  refine AW.run hZ hRm [200] 400 ?_
                  show AW Z 0 0 200 [some (.ref 0), some (.int a1), some (.int z4), some (.int z9)] [] ([kR 0 (R_s_at_fault_op_arg_codes v0 q127.1 q127.2 q126.2.2.1 q126.2.2.2.1 q126.2.2.2.2)] : List (List zE)).flatten
                  cases hf
                  exact AW.vret hZ hE rfl rfl rfl (Nat.le_refl 0) (Nat.le_refl 0) rfl ⟨rfl, rfl⟩
              · rw [if_neg c115] at hf
                obtain ⟨q131, h134, hf⟩ := zbind hf
                refine AW.callVc hZ hR hN (hr_f_R_takePart (R_at_s v0 q114.2) (a1 + 1) q131 h134) zMX12_takePart_ok rfl rfl zK_BorrowedLivesModel_285 zV_X12_takePart rfl [25] [0] [0, 1, 2, 3, 4, 5, 6, 7, 8, 9, 10, 11, 12, 13, 14, 15, 16, 17, 18, 19, 20, 21, 22, 23, 24] rfl rfl rfl (by decide) (by decide) (by omega) (by decide) (Nat.zero_le _) (Nat.zero_le _) rfl rfl rfl rfl rfl ?_
                rintro v cc ⟨rfl, rfl⟩
                refine ⟨_, rfl, rfl, ?_⟩
                show AW Z 0 0 125 [some (.ref 0), some (.int a1), some (.int z4), some (.int z9)] [] ([kR 0 (R_s_at_fault_op_arg_codes v0 q131.1 q131.2.1 q131.2.2.1 q131.2.2.2.1 q131.2.2.2.2)] : List (List zE)).flatten
                refine AW.run hZ hRm [128] 400 ?_
                show AW Z 0 0 128 [some (.ref 0), some (.int a1), some (.int z4), some (.int z9)] [.int 0, .int 3, .ref 0] ([kR 0 (R_s_at_fault_op_arg_codes v0 q131.1 q131.2.1 q131.2.2.1 q131.2.2.2.1 q131.2.2.2.2)] : List (List zE)).flatten
                obtain ⟨q132, h133, hf⟩ := zbind hf
                refine AW.callVc hZ hR hN (c_R_emit N (R_s_at_fault_op_arg_codes v0 q131.1 q131.2.1 q131.2.2.1 q131.2.2.2.1 q131.2.2.2.2) 3 0 q132 h133) zMX12_emit_ok rfl rfl zK_BorrowedLivesModel_262 zV_X12_emit rfl [25] [0] [0, 1, 2, 3, 4, 5, 6, 7, 8, 9, 10, 11, 12, 13, 14, 15, 16, 17, 18, 19, 20, 21, 22, 23, 24] rfl rfl rfl (by decide) (by decide) (by omega) (by decide) (Nat.zero_le _) (Nat.zero_le _) rfl rfl rfl rfl rfl ?_
                rintro v cc ⟨rfl, rfl⟩
                refine ⟨_, rfl, rfl, ?_⟩
                show AW Z 0 0 131 [some (.ref 0), some (.int a1), some (.int z4), some (.int z9)] [] ([kR 0 (R_s_at_fault_op_arg_codes v0 q131.1 q131.2.1 q132.1 q132.2.1 q132.2.2)] : List (List zE)).flatten
                refine AW.run hZ hRm [200] 400 ?_
                show AW Z 0 0 200 [some (.ref 0), some (.int a1), some (.int z4), some (.int z9)] [] ([kR 0 (R_s_at_fault_op_arg_codes v0 q131.1 q131.2.1 q132.1 q132.2.1 q132.2.2)] : List (List zE)).flatten
                cases hf
                exact AW.vret hZ hE rfl rfl rfl (Nat.le_refl 0) (Nat.le_refl 0) rfl ⟨rfl, rfl⟩
            · rw [if_neg c113] at hf
              cases hf
              exact AW.vret hZ hE rfl rfl rfl (Nat.le_refl 0) (Nat.le_refl 0) rfl ⟨rfl, rfl⟩
          · rw [if_pos c112] at hf
            obtain ⟨q136, h160, hf⟩ := zbind hf
            refine AW.callVc hZ hR hN (c_R_wrong N v0 5 q136 h160) zMX12_wrong_ok rfl rfl zK_BorrowedLivesModel_188 zV_X12_wrong rfl [25] [0] [0, 1, 2, 3, 4, 5, 6, 7, 8, 9, 10, 11, 12, 13, 14, 15, 16, 17, 18, 19, 20, 21, 22, 23, 24] rfl rfl rfl (by decide) (by decide) (by omega) (by decide) (Nat.zero_le _) (Nat.zero_le _) rfl rfl rfl rfl rfl ?_
            rintro v cc ⟨rfl, rfl⟩
            refine ⟨_, rfl, rfl, ?_⟩
            show AW Z 0 0 101 [some (.ref 0), some (.int a1), some (.int z4), some (.int z9)] [] ([kR 0 (R_fault_s v0 q136)] : List (List zE)).flatten
            refine AW.run hZ hRm [108, 112] 400 ?_
            show (((q136 ≤ 0) → AW Z 0 0 112 [some (.ref 0), some (.int a1), some (.int z4), some (.int z9)] [.int 19, .ref 0] ([kR 0 (R_fault_s v0 q136)] : List (List zE)).flatten) ∧ (¬ (q136 ≤ 0) → AW Z 0 0 108 [some (.ref 0), some (.int a1), some (.int z4), some (.int z9)] [] ([kR 0 (R_fault_s v0 q136)] : List (List zE)).flatten))
            refine ⟨fun c137 => ?_, fun c137 => ?_⟩
            · rw [if_pos c137] at hf
              obtain ⟨q138, h159, hf⟩ := zbind hf
              refine AW.callVc hZ hR hN (c_R_hasWord N (R_fault_s v0 q136) 19 q138 h159) zMX12_hasWord_ok rfl rfl zK_BorrowedLivesModel_194 zV_X12_hasWord rfl [25] [0] [0, 1, 2, 3, 4, 5, 6, 7, 8, 9, 10, 11, 12, 13, 14, 15, 16, 17, 18, 19, 20, 21, 22, 23, 24] rfl rfl rfl (by decide) (by decide) (by omega) (by decide) (Nat.zero_le _) (Nat.zero_le _) rfl rfl rfl rfl rfl ?_
              rintro v cc ⟨rfl, rfl⟩
              refine ⟨_, rfl, rfl, ?_⟩
              show AW Z 0 0 115 [some (.ref 0), some (.int a1), some (.int z4), some (.int z9)] [.int q138.1] ([kR 0 (R_s_at_fault v0 q138.2 q136)] : List (List zE)).flatten
              refine AW.run hZ hRm [122, 137] 400 ?_
              show (((q138.1 = 0) → AW Z 0 0 137 [some (.ref 0), some (.int a1), some (.int z4), some (.int z9)] [.int 40, .ref 0] ([kR 0 (R_s_at_fault v0 q138.2 q136)] : List (List zE)).flatten) ∧ (¬ (q138.1 = 0) → AW Z 0 0 122 [some (.ref 0), some (.int a1), some (.int z4), some (.int z9)] [.int (a1 + 1), .ref 0] ([kR 0 (R_s_at_fault v0 q138.2 q136)] : List (List zE)).flatten))
              refine ⟨fun c139 => ?_, fun c139 => ?_⟩
              · rw [if_pos c139] at hf
                obtain ⟨q140, h154, hf⟩ := zbind hf
                refine AW.callVc hZ hR hN (c_R_hasSign N (R_s_at_fault v0 q138.2 q136) 40 q140 h154) zMX12_hasSign_ok rfl rfl zK_BorrowedLivesModel_279 zV_X12_hasSign rfl [25] [0] [0, 1, 2, 3, 4, 5, 6, 7, 8, 9, 10, 11, 12, 13, 14, 15, 16, 17, 18, 19, 20, 21, 22, 23, 24] rfl rfl rfl (by decide) (by decide) (by omega) (by decide) (Nat.zero_le _) (Nat.zero_le _) rfl rfl rfl rfl rfl ?_
                rintro v cc ⟨rfl, rfl⟩
                refine ⟨_, rfl, rfl, ?_⟩
                show AW Z 0 0 140 [some (.ref 0), some (.int a1), some (.int z4), some (.int z9)] [.int q140.1] ([kR 0 (R_s_at_fault v0 q140.2 q136)] : List (List zE)).flatten
                refine AW.run hZ hRm [147, 161] 400 ?_
                show (((q140.1 = 0) → AW Z 0 0 161 [some (.ref 0), some (.int a1), some (.int z4), some (.int z9)] [.int z4, .ref 0] ([kR 0 (R_s_at_fault v0 q140.2 q136)] : List (List zE)).flatten) ∧ (¬ (q140.1 = 0) → AW Z 0 0 147 [some (.ref 0), some (.int a1), some (.int z4), some (.int z9)] [.int (a1 + 1), .ref 0] ([kR 0 (R_s_at_fault v0 q140.2 q136)] : List (List zE)).flatten))
                refine ⟨fun c141 => ?_, fun c141 => ?_⟩
                · rw [if_pos c141] at hf
                  suffices H142 : AW Z 0 0 169 [some (.ref 0), none, some (.int z4), some (.int z9)] [.int (if (z4 = 0) then 2 else 1), .ref 0] ([kR 0 (R_s_at_fault v0 q140.2 q136)] : List (List zE)).flatten from by
                    refine AW.run hZ hRm [169] 400 ?_
                    show (((z4 = 0) → AW Z 0 0 169 [some (.ref 0), some (.int a1), some (.int z4), some (.int z9)] [.int 2, .ref 0] ([kR 0 (R_s_at_fault v0 q140.2 q136)] : List (List zE)).flatten) ∧ (¬ (z4 = 0) → AW Z 0 0 169 [some (.ref 0), some (.int a1), some (.int z4), some (.int z9)] [.int 1, .ref 0] ([kR 0 (R_s_at_fault v0 q140.2 q136)] : List (List zE)).flatten))
                    refine ⟨fun c143 => ?_, fun c143 => ?_⟩
                    · refine AW.forget [true, false, true, true] ?_
                      show AW Z 0 0 169 [some (.ref 0), none, some (.int z4), some (.int z9)] [.int 2, .ref 0] ([kR 0 (R_s_at_fault v0 q140.2 q136)] : List (List zE)).flatten
                      simpa only [if_pos c143] using H142
                    · refine AW.forget [true, false, true, true] ?_
                      show AW Z 0 0 169 [some (.ref 0), none, some (.int z4), some (.int z9)] [.int 1, .ref 0] ([kR 0 (R_s_at_fault v0 q140.2 q136)] : List (List zE)).flatten
                      simpa only [if_neg c143] using H142
                  refine AW.run hZ hRm [187] 400 ?_
                  show (((z4 = 0) → AW Z 0 0 187 [some (.ref 0), none, some (.int z4), some (.int z9)] [.int z9, .int (if (z4 = 0) then 2 else 1), .ref 0] ([kR 0 (R_s_at_fault v0 q140.2 q136)] : List (List zE)).flatten) ∧ (¬ (z4 = 0) → (¬ (q140.2 < 0 ∨ 1002 ≤ Int32.toNatClampNeg q140.2) ∧ AW Z 0 0 187 [some (.ref 0), none, some (.int z4), some (.int z9)] [.int (Int64.toInt32 ((R_value v0) (Int32.toNatClampNeg q140.2))), .int (if (z4 = 0) then 2 else 1), .ref 0] ([kR 0 (R_s_at_fault v0 q140.2 q136)] : List (List zE)).flatten)))
                  refine ⟨fun c144 => ?_, fun c144 => ?_⟩
                  · rw [if_pos c144] at hf
                    obtain ⟨q145, h146, hf⟩ := zbind hf
                    refine AW.callVc hZ hR hN (c_R_emit N (R_s_at_fault v0 q140.2 q136) (if (z4 = 0) then 2 else 1) z9 q145 h146) zMX12_emit_ok rfl rfl zK_BorrowedLivesModel_262 zV_X12_emit rfl [25] [0] [0, 1, 2, 3, 4, 5, 6, 7, 8, 9, 10, 11, 12, 13, 14, 15, 16, 17, 18, 19, 20, 21, 22, 23, 24] rfl rfl rfl (by decide) (by decide) (by omega) (by decide) (Nat.zero_le _) (Nat.zero_le _) rfl rfl rfl rfl rfl ?_
                    rintro v cc ⟨rfl, rfl⟩
                    refine ⟨_, rfl, rfl, ?_⟩
                    show AW Z 0 0 190 [some (.ref 0), none, some (.int z4), some (.int z9)] [] ([kR 0 (R_s_at_fault_op_arg_codes v0 q140.2 q136 q145.1 q145.2.1 q145.2.2)] : List (List zE)).flatten
                    refine AW.run hZ hRm [200] 400 ?_
                    show AW Z 0 0 200 [some (.ref 0), none, some (.int z4), some (.int z9)] [] ([kR 0 (R_s_at_fault_op_arg_codes v0 (q140.2 + 1) q136 q145.1 q145.2.1 q145.2.2)] : List (List zE)).flatten
                    cases hf
                    exact AW.vret hZ hE rfl rfl rfl (Nat.le_refl 0) (Nat.le_refl 0) rfl ⟨rfl, rfl⟩
                  · rw [if_neg c144] at hf
                    obtain ⟨b149, hf⟩ := zneed hf
                    refine ⟨b149, ?_⟩
                    obtain ⟨q147, h148, hf⟩ := zbind hf
                    refine AW.callVc hZ hR hN (c_R_emit N (R_s_at_fault v0 q140.2 q136) (if (z4 = 0) then 2 else 1) (Int64.toInt32 ((R_value v0) (Int32.toNatClampNeg q140.2))) q147 h148) zMX12_emit_ok rfl rfl zK_BorrowedLivesModel_262 zV_X12_emit rfl [25] [0] [0, 1, 2, 3, 4, 5, 6, 7, 8, 9, 10, 11, 12, 13, 14, 15, 16, 17, 18, 19, 20, 21, 22, 23, 24] rfl rfl rfl (by decide) (by decide) (by omega) (by decide) (Nat.zero_le _) (Nat.zero_le _) rfl rfl rfl rfl rfl ?_
                    rintro v cc ⟨rfl, rfl⟩
                    refine ⟨_, rfl, rfl, ?_⟩
                    show AW Z 0 0 190 [some (.ref 0), none, some (.int z4), some (.int z9)] [] ([kR 0 (R_s_at_fault_op_arg_codes v0 q140.2 q136 q147.1 q147.2.1 q147.2.2)] : List (List zE)).flatten
                    refine AW.run hZ hRm [200] 400 ?_
                    show AW Z 0 0 200 [some (.ref 0), none, some (.int z4), some (.int z9)] [] ([kR 0 (R_s_at_fault_op_arg_codes v0 (q140.2 + 1) q136 q147.1 q147.2.1 q147.2.2)] : List (List zE)).flatten
                    cases hf
                    exact AW.vret hZ hE rfl rfl rfl (Nat.le_refl 0) (Nat.le_refl 0) rfl ⟨rfl, rfl⟩
                · rw [if_neg c141] at hf
                  obtain ⟨q150, h153, hf⟩ := zbind hf
                  refine AW.callVc hZ hR hN (hr_f_R_all (R_s_at_fault v0 q140.2 q136) (a1 + 1) q150 h153) zMX12_all_ok rfl rfl zK_BorrowedLivesModel_259 zV_X12_all rfl [25] [0] [0, 1, 2, 3, 4, 5, 6, 7, 8, 9, 10, 11, 12, 13, 14, 15, 16, 17, 18, 19, 20, 21, 22, 23, 24] rfl rfl rfl (by decide) (by decide) (by omega) (by decide) (Nat.zero_le _) (Nat.zero_le _) rfl rfl rfl rfl rfl ?_
                  rintro v cc ⟨rfl, rfl⟩
                  refine ⟨_, rfl, rfl, ?_⟩
                  show AW Z 0 0 150 [some (.ref 0), some (.int a1), some (.int z4), some (.int z9)] [] ([kR 0 (R_s_at_fault_op_arg_codes v0 q150.1 q150.2.1 q150.2.2.1 q150.2.2.2.1 q150.2.2.2.2)] : List (List zE)).flatten
                  refine AW.run hZ hRm [153] 400 ?_
                  show AW Z 0 0 153 [some (.ref 0), some (.int a1), some (.int z4), some (.int z9)] [.int 41, .ref 0] ([kR 0 (R_s_at_fault_op_arg_codes v0 q150.1 q150.2.1 q150.2.2.1 q150.2.2.2.1 q150.2.2.2.2)] : List (List zE)).flatten
                  obtain ⟨q151, h152, hf⟩ := zbind hf
                  refine AW.callVc hZ hR hN (c_R_takeSign N (R_s_at_fault_op_arg_codes v0 q150.1 q150.2.1 q150.2.2.1 q150.2.2.2.1 q150.2.2.2.2) 41 q151 h152) zMX12_takeSign_ok rfl rfl zK_BorrowedLivesModel_243 zV_X12_takeSign rfl [25] [0] [0, 1, 2, 3, 4, 5, 6, 7, 8, 9, 10, 11, 12, 13, 14, 15, 16, 17, 18, 19, 20, 21, 22, 23, 24] rfl rfl rfl (by decide) (by decide) (by omega) (by decide) (Nat.zero_le _) (Nat.zero_le _) rfl rfl rfl rfl rfl ?_
                  rintro v cc ⟨rfl, rfl⟩
                  refine ⟨_, rfl, rfl, ?_⟩
                  show AW Z 0 0 156 [some (.ref 0), some (.int a1), some (.int z4), some (.int z9)] [] ([kR 0 (R_s_at_fault_op_arg_codes v0 q151.1 q151.2 q150.2.2.1 q150.2.2.2.1 q150.2.2.2.2)] : List (List zE)).flatten
                  refine AW.run hZ hRm [200] 400 ?_
                  show AW Z 0 0 200 [some (.ref 0), some (.int a1), some (.int z4), some (.int z9)] [] ([kR 0 (R_s_at_fault_op_arg_codes v0 q151.1 q151.2 q150.2.2.1 q150.2.2.2.1 q150.2.2.2.2)] : List (List zE)).flatten
                  cases hf
                  exact AW.vret hZ hE rfl rfl rfl (Nat.le_refl 0) (Nat.le_refl 0) rfl ⟨rfl, rfl⟩
              · rw [if_neg c139] at hf
                obtain ⟨q155, h158, hf⟩ := zbind hf
                refine AW.callVc hZ hR hN (hr_f_R_takePart (R_s_at_fault v0 q138.2 q136) (a1 + 1) q155 h158) zMX12_takePart_ok rfl rfl zK_BorrowedLivesModel_285 zV_X12_takePart rfl [25] [0] [0, 1, 2, 3, 4, 5, 6, 7, 8, 9, 10, 11, 12, 13, 14, 15, 16, 17, 18, 19, 20, 21, 22, 23, 24] rfl rfl rfl (by decide) (by decide) (by omega) (by decide) (Nat.zero_le _) (Nat.zero_le _) rfl rfl rfl rfl rfl ?_
                rintro v cc ⟨rfl, rfl⟩
                refine ⟨_, rfl, rfl, ?_⟩
                show AW Z 0 0 125 [some (.ref 0), some (.int a1), some (.int z4), some (.int z9)] [] ([kR 0 (R_s_at_fault_op_arg_codes v0 q155.1 q155.2.1 q155.2.2.1 q155.2.2.2.1 q155.2.2.2.2)] : List (List zE)).flatten
                refine AW.run hZ hRm [128] 400 ?_
                show AW Z 0 0 128 [some (.ref 0), some (.int a1), some (.int z4), some (.int z9)] [.int 0, .int 3, .ref 0] ([kR 0 (R_s_at_fault_op_arg_codes v0 q155.1 q155.2.1 q155.2.2.1 q155.2.2.2.1 q155.2.2.2.2)] : List (List zE)).flatten
                obtain ⟨q156, h157, hf⟩ := zbind hf
                refine AW.callVc hZ hR hN (c_R_emit N (R_s_at_fault_op_arg_codes v0 q155.1 q155.2.1 q155.2.2.1 q155.2.2.2.1 q155.2.2.2.2) 3 0 q156 h157) zMX12_emit_ok rfl rfl zK_BorrowedLivesModel_262 zV_X12_emit rfl [25] [0] [0, 1, 2, 3, 4, 5, 6, 7, 8, 9, 10, 11, 12, 13, 14, 15, 16, 17, 18, 19, 20, 21, 22, 23, 24] rfl rfl rfl (by decide) (by decide) (by omega) (by decide) (Nat.zero_le _) (Nat.zero_le _) rfl rfl rfl rfl rfl ?_
                rintro v cc ⟨rfl, rfl⟩
                refine ⟨_, rfl, rfl, ?_⟩
                show AW Z 0 0 131 [some (.ref 0), some (.int a1), some (.int z4), some (.int z9)] [] ([kR 0 (R_s_at_fault_op_arg_codes v0 q155.1 q155.2.1 q156.1 q156.2.1 q156.2.2)] : List (List zE)).flatten
                refine AW.run hZ hRm [200] 400 ?_
                show AW Z 0 0 200 [some (.ref 0), some (.int a1), some (.int z4), some (.int z9)] [] ([kR 0 (R_s_at_fault_op_arg_codes v0 q155.1 q155.2.1 q156.1 q156.2.1 q156.2.2)] : List (List zE)).flatten
                cases hf
                exact AW.vret hZ hE rfl rfl rfl (Nat.le_refl 0) (Nat.le_refl 0) rfl ⟨rfl, rfl⟩
            · rw [if_neg c137] at hf
              cases hf
              exact AW.vret hZ hE rfl rfl rfl (Nat.le_refl 0) (Nat.le_refl 0) rfl ⟨rfl, rfl⟩
        · rw [if_pos c111] at hf
          obtain ⟨q161, h237, hf⟩ := zbind hf
          refine AW.callVc hZ hR hN (c_R_isWord N v0 19 q161 h237) zMX12_isWord_ok rfl rfl zK_BorrowedLivesModel_191 zV_X12_isWord rfl [25] [0] [0, 1, 2, 3, 4, 5, 6, 7, 8, 9, 10, 11, 12, 13, 14, 15, 16, 17, 18, 19, 20, 21, 22, 23, 24] rfl rfl rfl (by decide) (by decide) (by omega) (by decide) (Nat.zero_le _) (Nat.zero_le _) rfl rfl rfl rfl rfl ?_
          rintro v cc ⟨rfl, rfl⟩
          refine ⟨_, rfl, rfl, ?_⟩
          show AW Z 0 0 80 [some (.ref 0), some (.int a1), some (.int z4), some (.int z9)] [.int q161] ([kR 0 v0] : List (List zE)).flatten
          refine AW.run hZ hRm [85, 98, 108, 112] 400 ?_
          show ((¬ (q161 = 0) → ((¬ (a1 = 5) → ((((R_fault v0) ≤ 0) → AW Z 0 0 112 [some (.ref 0), some (.int a1), some (.int z4), some (.int z9)] [.int 19, .ref 0] ([kR 0 v0] : List (List zE)).flatten) ∧ (¬ ((R_fault v0) ≤ 0) → AW Z 0 0 108 [some (.ref 0), some (.int a1), some (.int z4), some (.int z9)] [] ([kR 0 v0] : List (List zE)).flatten))) ∧ ((a1 = 5) → AW Z 0 0 98 [some (.ref 0), some (.int a1), some (.int z4), some (.int z9)] [.int 5, .ref 0] ([kR 0 v0] : List (List zE)).flatten))) ∧ ((q161 = 0) → AW Z 0 0 85 [some (.ref 0), some (.int a1), some (.int z4), some (.int z9)] [.int 1, .ref 0] ([kR 0 v0] : List (List zE)).flatten))
          refine ⟨fun c162 => ?_, fun c162 => ?_⟩
          · rw [if_neg c162] at hf
            refine ⟨fun c163 => ?_, fun c163 => ?_⟩
            · rw [if_neg c163] at hf
              refine ⟨fun c164 => ?_, fun c164 => ?_⟩
              · rw [if_pos c164] at hf
                obtain ⟨q165, h186, hf⟩ := zbind hf
                refine AW.callVc hZ hR hN (c_R_hasWord N v0 19 q165 h186) zMX12_hasWord_ok rfl rfl zK_BorrowedLivesModel_194 zV_X12_hasWord rfl [25] [0] [0, 1, 2, 3, 4, 5, 6, 7, 8, 9, 10, 11, 12, 13, 14, 15, 16, 17, 18, 19, 20, 21, 22, 23, 24] rfl rfl rfl (by decide) (by decide) (by omega) (by decide) (Nat.zero_le _) (Nat.zero_le _) rfl rfl rfl rfl rfl ?_
                rintro v cc ⟨rfl, rfl⟩
                refine ⟨_, rfl, rfl, ?_⟩
                show AW Z 0 0 115 [some (.ref 0), some (.int a1), some (.int z4), some (.int z9)] [.int q165.1] ([kR 0 (R_at_s v0 q165.2)] : List (List zE)).flatten
                refine AW.run hZ hRm [122, 137] 400 ?_
                show (((q165.1 = 0) → AW Z 0 0 137 [some (.ref 0), some (.int a1), some (.int z4), some (.int z9)] [.int 40, .ref 0] ([kR 0 (R_at_s v0 q165.2)] : List (List zE)).flatten) ∧ (¬ (q165.1 = 0) → AW Z 0 0 122 [some (.ref 0), some (.int a1), some (.int z4), some (.int z9)] [.int (a1 + 1), .ref 0] ([kR 0 (R_at_s v0 q165.2)] : List (List zE)).flatten))
                refine ⟨fun c166 => ?_, fun c166 => ?_⟩
                · rw [if_pos c166] at hf
                  obtain ⟨q167, h181, hf⟩ := zbind hf
                  refine AW.callVc hZ hR hN (c_R_hasSign N (R_at_s v0 q165.2) 40 q167 h181) zMX12_hasSign_ok rfl rfl zK_BorrowedLivesModel_279 zV_X12_hasSign rfl [25] [0] [0, 1, 2, 3, 4, 5, 6, 7, 8, 9, 10, 11, 12, 13, 14, 15, 16, 17, 18, 19, 20, 21, 22, 23, 24] rfl rfl rfl (by decide) (by decide) (by omega) (by decide) (Nat.zero_le _) (Nat.zero_le _) rfl rfl rfl rfl rfl ?_
                  rintro v cc ⟨rfl, rfl⟩
                  refine ⟨_, rfl, rfl, ?_⟩
                  show AW Z 0 0 140 [some (.ref 0), some (.int a1), some (.int z4), some (.int z9)] [.int q167.1] ([kR 0 (R_at_s v0 q167.2)] : List (List zE)).flatten
                  refine AW.run hZ hRm [147, 161] 400 ?_
                  show (((q167.1 = 0) → AW Z 0 0 161 [some (.ref 0), some (.int a1), some (.int z4), some (.int z9)] [.int z4, .ref 0] ([kR 0 (R_at_s v0 q167.2)] : List (List zE)).flatten) ∧ (¬ (q167.1 = 0) → AW Z 0 0 147 [some (.ref 0), some (.int a1), some (.int z4), some (.int z9)] [.int (a1 + 1), .ref 0] ([kR 0 (R_at_s v0 q167.2)] : List (List zE)).flatten))
                  refine ⟨fun c168 => ?_, fun c168 => ?_⟩
                  · rw [if_pos c168] at hf
                    suffices H169 : AW Z 0 0 169 [some (.ref 0), none, some (.int z4), some (.int z9)] [.int (if (z4 = 0) then 2 else 1), .ref 0] ([kR 0 (R_at_s v0 q167.2)] : List (List zE)).flatten from by
                      refine AW.run hZ hRm [169] 400 ?_
                      show (((z4 = 0) → AW Z 0 0 169 [some (.ref 0), some (.int a1), some (.int z4), some (.int z9)] [.int 2, .ref 0] ([kR 0 (R_at_s v0 q167.2)] : List (List zE)).flatten) ∧ (¬ (z4 = 0) → AW Z 0 0 169 [some (.ref 0), some (.int a1), some (.int z4), some (.int z9)] [.int 1, .ref 0] ([kR 0 (R_at_s v0 q167.2)] : List (List zE)).flatten))
                      refine ⟨fun c170 => ?_, fun c170 => ?_⟩
                      · refine AW.forget [true, false, true, true] ?_
                        show AW Z 0 0 169 [some (.ref 0), none, some (.int z4), some (.int z9)] [.int 2, .ref 0] ([kR 0 (R_at_s v0 q167.2)] : List (List zE)).flatten
                        simpa only [if_pos c170] using H169
                      · refine AW.forget [true, false, true, true] ?_
                        show AW Z 0 0 169 [some (.ref 0), none, some (.int z4), some (.int z9)] [.int 1, .ref 0] ([kR 0 (R_at_s v0 q167.2)] : List (List zE)).flatten
                        simpa only [if_neg c170] using H169
                    refine AW.run hZ hRm [187] 400 ?_
                    show (((z4 = 0) → AW Z 0 0 187 [some (.ref 0), none, some (.int z4), some (.int z9)] [.int z9, .int (if (z4 = 0) then 2 else 1), .ref 0] ([kR 0 (R_at_s v0 q167.2)] : List (List zE)).flatten) ∧ (¬ (z4 = 0) → (¬ (q167.2 < 0 ∨ 1002 ≤ Int32.toNatClampNeg q167.2) ∧ AW Z 0 0 187 [some (.ref 0), none, some (.int z4), some (.int z9)] [.int (Int64.toInt32 ((R_value v0) (Int32.toNatClampNeg q167.2))), .int (if (z4 = 0) then 2 else 1), .ref 0] ([kR 0 (R_at_s v0 q167.2)] : List (List zE)).flatten)))
                    refine ⟨fun c171 => ?_, fun c171 => ?_⟩
                    · rw [if_pos c171] at hf
                      obtain ⟨q172, h173, hf⟩ := zbind hf
                      refine AW.callVc hZ hR hN (c_R_emit N (R_at_s v0 q167.2) (if (z4 = 0) then 2 else 1) z9 q172 h173) zMX12_emit_ok rfl rfl zK_BorrowedLivesModel_262 zV_X12_emit rfl [25] [0] [0, 1, 2, 3, 4, 5, 6, 7, 8, 9, 10, 11, 12, 13, 14, 15, 16, 17, 18, 19, 20, 21, 22, 23, 24] rfl rfl rfl (by decide) (by decide) (by omega) (by decide) (Nat.zero_le _) (Nat.zero_le _) rfl rfl rfl rfl rfl ?_
                      rintro v cc ⟨rfl, rfl⟩
                      refine ⟨_, rfl, rfl, ?_⟩
                      show AW Z 0 0 190 [some (.ref 0), none, some (.int z4), some (.int z9)] [] ([kR 0 (R_s_at_op_arg_codes v0 q167.2 q172.1 q172.2.1 q172.2.2)] : List (List zE)).flatten
                      refine AW.run hZ hRm [200] 400 ?_
                      show AW Z 0 0 200 [some (.ref 0), none, some (.int z4), some (.int z9)] [] ([kR 0 (R_s_at_op_arg_codes v0 (q167.2 + 1) q172.1 q172.2.1 q172.2.2)] : List (List zE)).flatten
                      cases hf
                      exact AW.vret hZ hE rfl rfl rfl (Nat.le_refl 0) (Nat.le_refl 0) rfl ⟨rfl, rfl⟩
                    · rw [if_neg c171] at hf
                      obtain ⟨b176, hf⟩ := zneed hf
                      refine ⟨b176, ?_⟩
                      obtain ⟨q174, h175, hf⟩ := zbind hf
                      refine AW.callVc hZ hR hN (c_R_emit N (R_at_s v0 q167.2) (if (z4 = 0) then 2 else 1) (Int64.toInt32 ((R_value v0) (Int32.toNatClampNeg q167.2))) q174 h175) zMX12_emit_ok rfl rfl zK_BorrowedLivesModel_262 zV_X12_emit rfl [25] [0] [0, 1, 2, 3, 4, 5, 6, 7, 8, 9, 10, 11, 12, 13, 14, 15, 16, 17, 18, 19, 20, 21, 22, 23, 24] rfl rfl rfl (by decide) (by decide) (by omega) (by decide) (Nat.zero_le _) (Nat.zero_le _) rfl rfl rfl rfl rfl ?_
                      rintro v cc ⟨rfl, rfl⟩
                      refine ⟨_, rfl, rfl, ?_⟩
                      show AW Z 0 0 190 [some (.ref 0), none, some (.int z4), some (.int z9)] [] ([kR 0 (R_s_at_op_arg_codes v0 q167.2 q174.1 q174.2.1 q174.2.2)] : List (List zE)).flatten
                      refine AW.run hZ hRm [200] 400 ?_
                      show AW Z 0 0 200 [some (.ref 0), none, some (.int z4), some (.int z9)] [] ([kR 0 (R_s_at_op_arg_codes v0 (q167.2 + 1) q174.1 q174.2.1 q174.2.2)] : List (List zE)).flatten
                      cases hf
                      exact AW.vret hZ hE rfl rfl rfl (Nat.le_refl 0) (Nat.le_refl 0) rfl ⟨rfl, rfl⟩
                  · rw [if_neg c168] at hf
                    obtain ⟨q177, h180, hf⟩ := zbind hf
                    refine AW.callVc hZ hR hN (hr_f_R_all (R_at_s v0 q167.2) (a1 + 1) q177 h180) zMX12_all_ok rfl rfl zK_BorrowedLivesModel_259 zV_X12_all rfl [25] [0] [0, 1, 2, 3, 4, 5, 6, 7, 8, 9, 10, 11, 12, 13, 14, 15, 16, 17, 18, 19, 20, 21, 22, 23, 24] rfl rfl rfl (by decide) (by decide) (by omega) (by decide) (Nat.zero_le _) (Nat.zero_le _) rfl rfl rfl rfl rfl ?_
                    rintro v cc ⟨rfl, rfl⟩
                    refine ⟨_, rfl, rfl, ?_⟩
                    show AW Z 0 0 150 [some (.ref 0), some (.int a1), some (.int z4), some (.int z9)] [] ([kR 0 (R_s_at_fault_op_arg_codes v0 q177.1 q177.2.1 q177.2.2.1 q177.2.2.2.1 q177.2.2.2.2)] : List (List zE)).flatten
                    refine AW.run hZ hRm [153] 400 ?_
                    show AW Z 0 0 153 [some (.ref 0), some (.int a1), some (.int z4), some (.int z9)] [.int 41, .ref 0] ([kR 0 (R_s_at_fault_op_arg_codes v0 q177.1 q177.2.1 q177.2.2.1 q177.2.2.2.1 q177.2.2.2.2)] : List (List zE)).flatten
                    obtain ⟨q178, h179, hf⟩ := zbind hf
                    refine AW.callVc hZ hR hN (c_R_takeSign N (R_s_at_fault_op_arg_codes v0 q177.1 q177.2.1 q177.2.2.1 q177.2.2.2.1 q177.2.2.2.2) 41 q178 h179) zMX12_takeSign_ok rfl rfl zK_BorrowedLivesModel_243 zV_X12_takeSign rfl [25] [0] [0, 1, 2, 3, 4, 5, 6, 7, 8, 9, 10, 11, 12, 13, 14, 15, 16, 17, 18, 19, 20, 21, 22, 23, 24] rfl rfl rfl (by decide) (by decide) (by omega) (by decide) (Nat.zero_le _) (Nat.zero_le _) rfl rfl rfl rfl rfl ?_
                    rintro v cc ⟨rfl, rfl⟩
                    refine ⟨_, rfl, rfl, ?_⟩
                    show AW Z 0 0 156 [some (.ref 0), some (.int a1), some (.int z4), some (.int z9)] [] ([kR 0 (R_s_at_fault_op_arg_codes v0 q178.1 q178.2 q177.2.2.1 q177.2.2.2.1 q177.2.2.2.2)] : List (List zE)).flatten
                    refine AW.run hZ hRm [200] 400 ?_
                    show AW Z 0 0 200 [some (.ref 0), some (.int a1), some (.int z4), some (.int z9)] [] ([kR 0 (R_s_at_fault_op_arg_codes v0 q178.1 q178.2 q177.2.2.1 q177.2.2.2.1 q177.2.2.2.2)] : List (List zE)).flatten
                    cases hf
                    exact AW.vret hZ hE rfl rfl rfl (Nat.le_refl 0) (Nat.le_refl 0) rfl ⟨rfl, rfl⟩
                · rw [if_neg c166] at hf
                  obtain ⟨q182, h185, hf⟩ := zbind hf
                  refine AW.callVc hZ hR hN (hr_f_R_takePart (R_at_s v0 q165.2) (a1 + 1) q182 h185) zMX12_takePart_ok rfl rfl zK_BorrowedLivesModel_285 zV_X12_takePart rfl [25] [0] [0, 1, 2, 3, 4, 5, 6, 7, 8, 9, 10, 11, 12, 13, 14, 15, 16, 17, 18, 19, 20, 21, 22, 23, 24] rfl rfl rfl (by decide) (by decide) (by omega) (by decide) (Nat.zero_le _) (Nat.zero_le _) rfl rfl rfl rfl rfl ?_
                  rintro v cc ⟨rfl, rfl⟩
                  refine ⟨_, rfl, rfl, ?_⟩
                  show AW Z 0 0 125 [some (.ref 0), some (.int a1), some (.int z4), some (.int z9)] [] ([kR 0 (R_s_at_fault_op_arg_codes v0 q182.1 q182.2.1 q182.2.2.1 q182.2.2.2.1 q182.2.2.2.2)] : List (List zE)).flatten
                  refine AW.run hZ hRm [128] 400 ?_
                  show AW Z 0 0 128 [some (.ref 0), some (.int a1), some (.int z4), some (.int z9)] [.int 0, .int 3, .ref 0] ([kR 0 (R_s_at_fault_op_arg_codes v0 q182.1 q182.2.1 q182.2.2.1 q182.2.2.2.1 q182.2.2.2.2)] : List (List zE)).flatten
                  obtain ⟨q183, h184, hf⟩ := zbind hf
                  refine AW.callVc hZ hR hN (c_R_emit N (R_s_at_fault_op_arg_codes v0 q182.1 q182.2.1 q182.2.2.1 q182.2.2.2.1 q182.2.2.2.2) 3 0 q183 h184) zMX12_emit_ok rfl rfl zK_BorrowedLivesModel_262 zV_X12_emit rfl [25] [0] [0, 1, 2, 3, 4, 5, 6, 7, 8, 9, 10, 11, 12, 13, 14, 15, 16, 17, 18, 19, 20, 21, 22, 23, 24] rfl rfl rfl (by decide) (by decide) (by omega) (by decide) (Nat.zero_le _) (Nat.zero_le _) rfl rfl rfl rfl rfl ?_
                  rintro v cc ⟨rfl, rfl⟩
                  refine ⟨_, rfl, rfl, ?_⟩
                  show AW Z 0 0 131 [some (.ref 0), some (.int a1), some (.int z4), some (.int z9)] [] ([kR 0 (R_s_at_fault_op_arg_codes v0 q182.1 q182.2.1 q183.1 q183.2.1 q183.2.2)] : List (List zE)).flatten
                  refine AW.run hZ hRm [200] 400 ?_
                  show AW Z 0 0 200 [some (.ref 0), some (.int a1), some (.int z4), some (.int z9)] [] ([kR 0 (R_s_at_fault_op_arg_codes v0 q182.1 q182.2.1 q183.1 q183.2.1 q183.2.2)] : List (List zE)).flatten
                  cases hf
                  exact AW.vret hZ hE rfl rfl rfl (Nat.le_refl 0) (Nat.le_refl 0) rfl ⟨rfl, rfl⟩
              · rw [if_neg c164] at hf
                cases hf
                exact AW.vret hZ hE rfl rfl rfl (Nat.le_refl 0) (Nat.le_refl 0) rfl ⟨rfl, rfl⟩
            · rw [if_pos c163] at hf
              obtain ⟨q187, h211, hf⟩ := zbind hf
              refine AW.callVc hZ hR hN (c_R_wrong N v0 5 q187 h211) zMX12_wrong_ok rfl rfl zK_BorrowedLivesModel_188 zV_X12_wrong rfl [25] [0] [0, 1, 2, 3, 4, 5, 6, 7, 8, 9, 10, 11, 12, 13, 14, 15, 16, 17, 18, 19, 20, 21, 22, 23, 24] rfl rfl rfl (by decide) (by decide) (by omega) (by decide) (Nat.zero_le _) (Nat.zero_le _) rfl rfl rfl rfl rfl ?_
              rintro v cc ⟨rfl, rfl⟩
              refine ⟨_, rfl, rfl, ?_⟩
              show AW Z 0 0 101 [some (.ref 0), some (.int a1), some (.int z4), some (.int z9)] [] ([kR 0 (R_fault_s v0 q187)] : List (List zE)).flatten
              refine AW.run hZ hRm [108, 112] 400 ?_
              show (((q187 ≤ 0) → AW Z 0 0 112 [some (.ref 0), some (.int a1), some (.int z4), some (.int z9)] [.int 19, .ref 0] ([kR 0 (R_fault_s v0 q187)] : List (List zE)).flatten) ∧ (¬ (q187 ≤ 0) → AW Z 0 0 108 [some (.ref 0), some (.int a1), some (.int z4), some (.int z9)] [] ([kR 0 (R_fault_s v0 q187)] : List (List zE)).flatten))
              refine ⟨fun c188 => ?_, fun c188 => ?_⟩
              · rw [if_pos c188] at hf
                obtain ⟨q189, h210, hf⟩ := zbind hf
                refine AW.callVc hZ hR hN (c_R_hasWord N (R_fault_s v0 q187) 19 q189 h210) zMX12_hasWord_ok rfl rfl zK_BorrowedLivesModel_194 zV_X12_hasWord rfl [25] [0] [0, 1, 2, 3, 4, 5, 6, 7, 8, 9, 10, 11, 12, 13, 14, 15, 16, 17, 18, 19, 20, 21, 22, 23, 24] rfl rfl rfl (by decide) (by decide) (by omega) (by decide) (Nat.zero_le _) (Nat.zero_le _) rfl rfl rfl rfl rfl ?_
                rintro v cc ⟨rfl, rfl⟩
                refine ⟨_, rfl, rfl, ?_⟩
                show AW Z 0 0 115 [some (.ref 0), some (.int a1), some (.int z4), some (.int z9)] [.int q189.1] ([kR 0 (R_s_at_fault v0 q189.2 q187)] : List (List zE)).flatten
                refine AW.run hZ hRm [122, 137] 400 ?_
                show (((q189.1 = 0) → AW Z 0 0 137 [some (.ref 0), some (.int a1), some (.int z4), some (.int z9)] [.int 40, .ref 0] ([kR 0 (R_s_at_fault v0 q189.2 q187)] : List (List zE)).flatten) ∧ (¬ (q189.1 = 0) → AW Z 0 0 122 [some (.ref 0), some (.int a1), some (.int z4), some (.int z9)] [.int (a1 + 1), .ref 0] ([kR 0 (R_s_at_fault v0 q189.2 q187)] : List (List zE)).flatten))
                refine ⟨fun c190 => ?_, fun c190 => ?_⟩
                · rw [if_pos c190] at hf
                  obtain ⟨q191, h205, hf⟩ := zbind hf
                  refine AW.callVc hZ hR hN (c_R_hasSign N (R_s_at_fault v0 q189.2 q187) 40 q191 h205) zMX12_hasSign_ok rfl rfl zK_BorrowedLivesModel_279 zV_X12_hasSign rfl [25] [0] [0, 1, 2, 3, 4, 5, 6, 7, 8, 9, 10, 11, 12, 13, 14, 15, 16, 17, 18, 19, 20, 21, 22, 23, 24] rfl rfl rfl (by decide) (by decide) (by omega) (by decide) (Nat.zero_le _) (Nat.zero_le _) rfl rfl rfl rfl rfl ?_
                  rintro v cc ⟨rfl, rfl⟩
                  refine ⟨_, rfl, rfl, ?_⟩
                  show AW Z 0 0 140 [some (.ref 0), some (.int a1), some (.int z4), some (.int z9)] [.int q191.1] ([kR 0 (R_s_at_fault v0 q191.2 q187)] : List (List zE)).flatten
                  refine AW.run hZ hRm [147, 161] 400 ?_
                  show (((q191.1 = 0) → AW Z 0 0 161 [some (.ref 0), some (.int a1), some (.int z4), some (.int z9)] [.int z4, .ref 0] ([kR 0 (R_s_at_fault v0 q191.2 q187)] : List (List zE)).flatten) ∧ (¬ (q191.1 = 0) → AW Z 0 0 147 [some (.ref 0), some (.int a1), some (.int z4), some (.int z9)] [.int (a1 + 1), .ref 0] ([kR 0 (R_s_at_fault v0 q191.2 q187)] : List (List zE)).flatten))
                  refine ⟨fun c192 => ?_, fun c192 => ?_⟩
                  · rw [if_pos c192] at hf
                    suffices H193 : AW Z 0 0 169 [some (.ref 0), none, some (.int z4), some (.int z9)] [.int (if (z4 = 0) then 2 else 1), .ref 0] ([kR 0 (R_s_at_fault v0 q191.2 q187)] : List (List zE)).flatten from by
                      refine AW.run hZ hRm [169] 400 ?_
                      show (((z4 = 0) → AW Z 0 0 169 [some (.ref 0), some (.int a1), some (.int z4), some (.int z9)] [.int 2, .ref 0] ([kR 0 (R_s_at_fault v0 q191.2 q187)] : List (List zE)).flatten) ∧ (¬ (z4 = 0) → AW Z 0 0 169 [some (.ref 0), some (.int a1), some (.int z4), some (.int z9)] [.int 1, .ref 0] ([kR 0 (R_s_at_fault v0 q191.2 q187)] : List (List zE)).flatten))
                      refine ⟨fun c194 => ?_, fun c194 => ?_⟩
                      · refine AW.forget [true, false, true, true] ?_
                        show AW Z 0 0 169 [some (.ref 0), none, some (.int z4), some (.int z9)] [.int 2, .ref 0] ([kR 0 (R_s_at_fault v0 q191.2 q187)] : List (List zE)).flatten
                        simpa only [if_pos c194] using H193
                      · refine AW.forget [true, false, true, true] ?_
                        show AW Z 0 0 169 [some (.ref 0), none, some (.int z4), some (.int z9)] [.int 1, .ref 0] ([kR 0 (R_s_at_fault v0 q191.2 q187)] : List (List zE)).flatten
                        simpa only [if_neg c194] using H193
                    refine AW.run hZ hRm [187] 400 ?_
                    show (((z4 = 0) → AW Z 0 0 187 [some (.ref 0), none, some (.int z4), some (.int z9)] [.int z9, .int (if (z4 = 0) then 2 else 1), .ref 0] ([kR 0 (R_s_at_fault v0 q191.2 q187)] : List (List zE)).flatten) ∧ (¬ (z4 = 0) → (¬ (q191.2 < 0 ∨ 1002 ≤ Int32.toNatClampNeg q191.2) ∧ AW Z 0 0 187 [some (.ref 0), none, some (.int z4), some (.int z9)] [.int (Int64.toInt32 ((R_value v0) (Int32.toNatClampNeg q191.2))), .int (if (z4 = 0) then 2 else 1), .ref 0] ([kR 0 (R_s_at_fault v0 q191.2 q187)] : List (List zE)).flatten)))
                    refine ⟨fun c195 => ?_, fun c195 => ?_⟩
                    · rw [if_pos c195] at hf
                      obtain ⟨q196, h197, hf⟩ := zbind hf
                      refine AW.callVc hZ hR hN (c_R_emit N (R_s_at_fault v0 q191.2 q187) (if (z4 = 0) then 2 else 1) z9 q196 h197) zMX12_emit_ok rfl rfl zK_BorrowedLivesModel_262 zV_X12_emit rfl [25] [0] [0, 1, 2, 3, 4, 5, 6, 7, 8, 9, 10, 11, 12, 13, 14, 15, 16, 17, 18, 19, 20, 21, 22, 23, 24] rfl rfl rfl (by decide) (by decide) (by omega) (by decide) (Nat.zero_le _) (Nat.zero_le _) rfl rfl rfl rfl rfl ?_
                      rintro v cc ⟨rfl, rfl⟩
                      refine ⟨_, rfl, rfl, ?_⟩
                      show AW Z 0 0 190 [some (.ref 0), none, some (.int z4), some (.int z9)] [] ([kR 0 (R_s_at_fault_op_arg_codes v0 q191.2 q187 q196.1 q196.2.1 q196.2.2)] : List (List zE)).flatten
                      refine AW.run hZ hRm [200] 400 ?_
                      show AW Z 0 0 200 [some (.ref 0), none, some (.int z4), some (.int z9)] [] ([kR 0 (R_s_at_fault_op_arg_codes v0 (q191.2 + 1) q187 q196.1 q196.2.1 q196.2.2)] : List (List zE)).flatten
                      cases hf
                      exact AW.vret hZ hE rfl rfl rfl (Nat.le_refl 0) (Nat.le_refl 0) rfl ⟨rfl, rfl⟩
                    · rw [if_neg c195] at hf
                      obtain ⟨b200, hf⟩ := zneed hf
                      refine ⟨b200, ?_⟩
                      obtain ⟨q198, h199, hf⟩ := zbind hf
                      refine AW.callVc hZ hR hN (c_R_emit N (R_s_at_fault v0 q191.2 q187) (if (z4 = 0) then 2 else 1) (Int64.toInt32 ((R_value v0) (Int32.toNatClampNeg q191.2))) q198 h199) zMX12_emit_ok rfl rfl zK_BorrowedLivesModel_262 zV_X12_emit rfl [25] [0] [0, 1, 2, 3, 4, 5, 6, 7, 8, 9, 10, 11, 12, 13, 14, 15, 16, 17, 18, 19, 20, 21, 22, 23, 24] rfl rfl rfl (by decide) (by decide) (by omega) (by decide) (Nat.zero_le _) (Nat.zero_le _) rfl rfl rfl rfl rfl ?_
                      rintro v cc ⟨rfl, rfl⟩
                      refine ⟨_, rfl, rfl, ?_⟩
                      show AW Z 0 0 190 [some (.ref 0), none, some (.int z4), some (.int z9)] [] ([kR 0 (R_s_at_fault_op_arg_codes v0 q191.2 q187 q198.1 q198.2.1 q198.2.2)] : List (List zE)).flatten
                      refine AW.run hZ hRm [200] 400 ?_
                      show AW Z 0 0 200 [some (.ref 0), none, some (.int z4), some (.int z9)] [] ([kR 0 (R_s_at_fault_op_arg_codes v0 (q191.2 + 1) q187 q198.1 q198.2.1 q198.2.2)] : List (List zE)).flatten
                      cases hf
                      exact AW.vret hZ hE rfl rfl rfl (Nat.le_refl 0) (Nat.le_refl 0) rfl ⟨rfl, rfl⟩
                  · rw [if_neg c192] at hf
                    obtain ⟨q201, h204, hf⟩ := zbind hf
                    refine AW.callVc hZ hR hN (hr_f_R_all (R_s_at_fault v0 q191.2 q187) (a1 + 1) q201 h204) zMX12_all_ok rfl rfl zK_BorrowedLivesModel_259 zV_X12_all rfl [25] [0] [0, 1, 2, 3, 4, 5, 6, 7, 8, 9, 10, 11, 12, 13, 14, 15, 16, 17, 18, 19, 20, 21, 22, 23, 24] rfl rfl rfl (by decide) (by decide) (by omega) (by decide) (Nat.zero_le _) (Nat.zero_le _) rfl rfl rfl rfl rfl ?_
                    rintro v cc ⟨rfl, rfl⟩
                    refine ⟨_, rfl, rfl, ?_⟩
                    show AW Z 0 0 150 [some (.ref 0), some (.int a1), some (.int z4), some (.int z9)] [] ([kR 0 (R_s_at_fault_op_arg_codes v0 q201.1 q201.2.1 q201.2.2.1 q201.2.2.2.1 q201.2.2.2.2)] : List (List zE)).flatten
                    refine AW.run hZ hRm [153] 400 ?_
                    show AW Z 0 0 153 [some (.ref 0), some (.int a1), some (.int z4), some (.int z9)] [.int 41, .ref 0] ([kR 0 (R_s_at_fault_op_arg_codes v0 q201.1 q201.2.1 q201.2.2.1 q201.2.2.2.1 q201.2.2.2.2)] : List (List zE)).flatten
                    obtain ⟨q202, h203, hf⟩ := zbind hf
                    refine AW.callVc hZ hR hN (c_R_takeSign N (R_s_at_fault_op_arg_codes v0 q201.1 q201.2.1 q201.2.2.1 q201.2.2.2.1 q201.2.2.2.2) 41 q202 h203) zMX12_takeSign_ok rfl rfl zK_BorrowedLivesModel_243 zV_X12_takeSign rfl [25] [0] [0, 1, 2, 3, 4, 5, 6, 7, 8, 9, 10, 11, 12, 13, 14, 15, 16, 17, 18, 19, 20, 21, 22, 23, 24] rfl rfl rfl (by decide) (by decide) (by omega) (by decide) (Nat.zero_le _) (Nat.zero_le _) rfl rfl rfl rfl rfl ?_
                    rintro v cc ⟨rfl, rfl⟩
                    refine ⟨_, rfl, rfl, ?_⟩
                    show AW Z 0 0 156 [some (.ref 0), some (.int a1), some (.int z4), some (.int z9)] [] ([kR 0 (R_s_at_fault_op_arg_codes v0 q202.1 q202.2 q201.2.2.1 q201.2.2.2.1 q201.2.2.2.2)] : List (List zE)).flatten
                    refine AW.run hZ hRm [200] 400 ?_
                    show AW Z 0 0 200 [some (.ref 0), some (.int a1), some (.int z4), some (.int z9)] [] ([kR 0 (R_s_at_fault_op_arg_codes v0 q202.1 q202.2 q201.2.2.1 q201.2.2.2.1 q201.2.2.2.2)] : List (List zE)).flatten
                    cases hf
                    exact AW.vret hZ hE rfl rfl rfl (Nat.le_refl 0) (Nat.le_refl 0) rfl ⟨rfl, rfl⟩
                · rw [if_neg c190] at hf
                  obtain ⟨q206, h209, hf⟩ := zbind hf
                  refine AW.callVc hZ hR hN (hr_f_R_takePart (R_s_at_fault v0 q189.2 q187) (a1 + 1) q206 h209) zMX12_takePart_ok rfl rfl zK_BorrowedLivesModel_285 zV_X12_takePart rfl [25] [0] [0, 1, 2, 3, 4, 5, 6, 7, 8, 9, 10, 11, 12, 13, 14, 15, 16, 17, 18, 19, 20, 21, 22, 23, 24] rfl rfl rfl (by decide) (by decide) (by omega) (by decide) (Nat.zero_le _) (Nat.zero_le _) rfl rfl rfl rfl rfl ?_
                  rintro v cc ⟨rfl, rfl⟩
                  refine ⟨_, rfl, rfl, ?_⟩
                  show AW Z 0 0 125 [some (.ref 0), some (.int a1), some (.int z4), some (.int z9)] [] ([kR 0 (R_s_at_fault_op_arg_codes v0 q206.1 q206.2.1 q206.2.2.1 q206.2.2.2.1 q206.2.2.2.2)] : List (List zE)).flatten
                  refine AW.run hZ hRm [128] 400 ?_
                  show AW Z 0 0 128 [some (.ref 0), some (.int a1), some (.int z4), some (.int z9)] [.int 0, .int 3, .ref 0] ([kR 0 (R_s_at_fault_op_arg_codes v0 q206.1 q206.2.1 q206.2.2.1 q206.2.2.2.1 q206.2.2.2.2)] : List (List zE)).flatten
                  obtain ⟨q207, h208, hf⟩ := zbind hf
                  refine AW.callVc hZ hR hN (c_R_emit N (R_s_at_fault_op_arg_codes v0 q206.1 q206.2.1 q206.2.2.1 q206.2.2.2.1 q206.2.2.2.2) 3 0 q207 h208) zMX12_emit_ok rfl rfl zK_BorrowedLivesModel_262 zV_X12_emit rfl [25] [0] [0, 1, 2, 3, 4, 5, 6, 7, 8, 9, 10, 11, 12, 13, 14, 15, 16, 17, 18, 19, 20, 21, 22, 23, 24] rfl rfl rfl (by decide) (by decide) (by omega) (by decide) (Nat.zero_le _) (Nat.zero_le _) rfl rfl rfl rfl rfl ?_
                  rintro v cc ⟨rfl, rfl⟩
                  refine ⟨_, rfl, rfl, ?_⟩
                  show AW Z 0 0 131 [some (.ref 0), some (.int a1), some (.int z4), some (.int z9)] [] ([kR 0 (R_s_at_fault_op_arg_codes v0 q206.1 q206.2.1 q207.1 q207.2.1 q207.2.2)] : List (List zE)).flatten
                  refine AW.run hZ hRm [200] 400 ?_
                  show AW Z 0 0 200 [some (.ref 0), some (.int a1), some (.int z4), some (.int z9)] [] ([kR 0 (R_s_at_fault_op_arg_codes v0 q206.1 q206.2.1 q207.1 q207.2.1 q207.2.2)] : List (List zE)).flatten
                  cases hf
                  exact AW.vret hZ hE rfl rfl rfl (Nat.le_refl 0) (Nat.le_refl 0) rfl ⟨rfl, rfl⟩
              · rw [if_neg c188] at hf
                cases hf
                exact AW.vret hZ hE rfl rfl rfl (Nat.le_refl 0) (Nat.le_refl 0) rfl ⟨rfl, rfl⟩
          · rw [if_pos c162] at hf
            obtain ⟨q212, h236, hf⟩ := zbind hf
            refine AW.callVc hZ hR hN (c_R_wrong N v0 1 q212 h236) zMX12_wrong_ok rfl rfl zK_BorrowedLivesModel_188 zV_X12_wrong rfl [25] [0] [0, 1, 2, 3, 4, 5, 6, 7, 8, 9, 10, 11, 12, 13, 14, 15, 16, 17, 18, 19, 20, 21, 22, 23, 24] rfl rfl rfl (by decide) (by decide) (by omega) (by decide) (Nat.zero_le _) (Nat.zero_le _) rfl rfl rfl rfl rfl ?_
            rintro v cc ⟨rfl, rfl⟩
            refine ⟨_, rfl, rfl, ?_⟩
            show AW Z 0 0 88 [some (.ref 0), some (.int a1), some (.int z4), some (.int z9)] [] ([kR 0 (R_fault_s v0 q212)] : List (List zE)).flatten
            refine AW.run hZ hRm [108, 112] 400 ?_
            show (((q212 ≤ 0) → AW Z 0 0 112 [some (.ref 0), some (.int a1), some (.int z4), some (.int z9)] [.int 19, .ref 0] ([kR 0 (R_fault_s v0 q212)] : List (List zE)).flatten) ∧ (¬ (q212 ≤ 0) → AW Z 0 0 108 [some (.ref 0), some (.int a1), some (.int z4), some (.int z9)] [] ([kR 0 (R_fault_s v0 q212)] : List (List zE)).flatten))
            refine ⟨fun c213 => ?_, fun c213 => ?_⟩
            · rw [if_pos c213] at hf
              obtain ⟨q214, h235, hf⟩ := zbind hf
              refine AW.callVc hZ hR hN (c_R_hasWord N (R_fault_s v0 q212) 19 q214 h235) zMX12_hasWord_ok rfl rfl zK_BorrowedLivesModel_194 zV_X12_hasWord rfl [25] [0] [0, 1, 2, 3, 4, 5, 6, 7, 8, 9, 10, 11, 12, 13, 14, 15, 16, 17, 18, 19, 20, 21, 22, 23, 24] rfl rfl rfl (by decide) (by decide) (by omega) (by decide) (Nat.zero_le _) (Nat.zero_le _) rfl rfl rfl rfl rfl ?_
              rintro v cc ⟨rfl, rfl⟩
              refine ⟨_, rfl, rfl, ?_⟩
              show AW Z 0 0 115 [some (.ref 0), some (.int a1), some (.int z4), some (.int z9)] [.int q214.1] ([kR 0 (R_s_at_fault v0 q214.2 q212)] : List (List zE)).flatten
              refine AW.run hZ hRm [122, 137] 400 ?_
              show (((q214.1 = 0) → AW Z 0 0 137 [some (.ref 0), some (.int a1), some (.int z4), some (.int z9)] [.int 40, .ref 0] ([kR 0 (R_s_at_fault v0 q214.2 q212)] : List (List zE)).flatten) ∧ (¬ (q214.1 = 0) → AW Z 0 0 122 [some (.ref 0), some (.int a1), some (.int z4), some (.int z9)] [.int (a1 + 1), .ref 0] ([kR 0 (R_s_at_fault v0 q214.2 q212)] : List (List zE)).flatten))
              refine ⟨fun c215 => ?_, fun c215 => ?_⟩
              · rw [if_pos c215] at hf
                obtain ⟨q216, h230, hf⟩ := zbind hf
                refine AW.callVc hZ hR hN (c_R_hasSign N (R_s_at_fault v0 q214.2 q212) 40 q216 h230) zMX12_hasSign_ok rfl rfl zK_BorrowedLivesModel_279 zV_X12_hasSign rfl [25] [0] [0, 1, 2, 3, 4, 5, 6, 7, 8, 9, 10, 11, 12, 13, 14, 15, 16, 17, 18, 19, 20, 21, 22, 23, 24] rfl rfl rfl (by decide) (by decide) (by omega) (by decide) (Nat.zero_le _) (Nat.zero_le _) rfl rfl rfl rfl rfl ?_
                rintro v cc ⟨rfl, rfl⟩
                refine ⟨_, rfl, rfl, ?_⟩
                show AW Z 0 0 140 [some (.ref 0), some (.int a1), some (.int z4), some (.int z9)] [.int q216.1] ([kR 0 (R_s_at_fault v0 q216.2 q212)] : List (List zE)).flatten
                refine AW.run hZ hRm [147, 161] 400 ?_
                show (((q216.1 = 0) → AW Z 0 0 161 [some (.ref 0), some (.int a1), some (.int z4), some (.int z9)] [.int z4, .ref 0] ([kR 0 (R_s_at_fault v0 q216.2 q212)] : List (List zE)).flatten) ∧ (¬ (q216.1 = 0) → AW Z 0 0 147 [some (.ref 0), some (.int a1), some (.int z4), some (.int z9)] [.int (a1 + 1), .ref 0] ([kR 0 (R_s_at_fault v0 q216.2 q212)] : List (List zE)).flatten))
                refine ⟨fun c217 => ?_, fun c217 => ?_⟩
                · rw [if_pos c217] at hf
                  suffices H218 : AW Z 0 0 169 [some (.ref 0), none, some (.int z4), some (.int z9)] [.int (if (z4 = 0) then 2 else 1), .ref 0] ([kR 0 (R_s_at_fault v0 q216.2 q212)] : List (List zE)).flatten from by
                    refine AW.run hZ hRm [169] 400 ?_
                    show (((z4 = 0) → AW Z 0 0 169 [some (.ref 0), some (.int a1), some (.int z4), some (.int z9)] [.int 2, .ref 0] ([kR 0 (R_s_at_fault v0 q216.2 q212)] : List (List zE)).flatten) ∧ (¬ (z4 = 0) → AW Z 0 0 169 [some (.ref 0), some (.int a1), some (.int z4), some (.int z9)] [.int 1, .ref 0] ([kR 0 (R_s_at_fault v0 q216.2 q212)] : List (List zE)).flatten))
                    refine ⟨fun c219 => ?_, fun c219 => ?_⟩
                    · refine AW.forget [true, false, true, true] ?_
                      show AW Z 0 0 169 [some (.ref 0), none, some (.int z4), some (.int z9)] [.int 2, .ref 0] ([kR 0 (R_s_at_fault v0 q216.2 q212)] : List (List zE)).flatten
                      simpa only [if_pos c219] using H218
                    · refine AW.forget [true, false, true, true] ?_
                      show AW Z 0 0 169 [some (.ref 0), none, some (.int z4), some (.int z9)] [.int 1, .ref 0] ([kR 0 (R_s_at_fault v0 q216.2 q212)] : List (List zE)).flatten
                      simpa only [if_neg c219] using H218
                  refine AW.run hZ hRm [187] 400 ?_
                  show (((z4 = 0) → AW Z 0 0 187 [some (.ref 0), none, some (.int z4), some (.int z9)] [.int z9, .int (if (z4 = 0) then 2 else 1), .ref 0] ([kR 0 (R_s_at_fault v0 q216.2 q212)] : List (List zE)).flatten) ∧ (¬ (z4 = 0) → (¬ (q216.2 < 0 ∨ 1002 ≤ Int32.toNatClampNeg q216.2) ∧ AW Z 0 0 187 [some (.ref 0), none, some (.int z4), some (.int z9)] [.int (Int64.toInt32 ((R_value v0) (Int32.toNatClampNeg q216.2))), .int (if (z4 = 0) then 2 else 1), .ref 0] ([kR 0 (R_s_at_fault v0 q216.2 q212)] : List (List zE)).flatten)))
                  refine ⟨fun c220 => ?_, fun c220 => ?_⟩
                  · rw [if_pos c220] at hf
                    obtain ⟨q221, h222, hf⟩ := zbind hf
                    refine AW.callVc hZ hR hN (c_R_emit N (R_s_at_fault v0 q216.2 q212) (if (z4 = 0) then 2 else 1) z9 q221 h222) zMX12_emit_ok rfl rfl zK_BorrowedLivesModel_262 zV_X12_emit rfl [25] [0] [0, 1, 2, 3, 4, 5, 6, 7, 8, 9, 10, 11, 12, 13, 14, 15, 16, 17, 18, 19, 20, 21, 22, 23, 24] rfl rfl rfl (by decide) (by decide) (by omega) (by decide) (Nat.zero_le _) (Nat.zero_le _) rfl rfl rfl rfl rfl ?_
                    rintro v cc ⟨rfl, rfl⟩
                    refine ⟨_, rfl, rfl, ?_⟩
                    show AW Z 0 0 190 [some (.ref 0), none, some (.int z4), some (.int z9)] [] ([kR 0 (R_s_at_fault_op_arg_codes v0 q216.2 q212 q221.1 q221.2.1 q221.2.2)] : List (List zE)).flatten
                    refine AW.run hZ hRm [200] 400 ?_
                    show AW Z 0 0 200 [some (.ref 0), none, some (.int z4), some (.int z9)] [] ([kR 0 (R_s_at_fault_op_arg_codes v0 (q216.2 + 1) q212 q221.1 q221.2.1 q221.2.2)] : List (List zE)).flatten
                    cases hf
                    exact AW.vret hZ hE rfl rfl rfl (Nat.le_refl 0) (Nat.le_refl 0) rfl ⟨rfl, rfl⟩
                  · rw [if_neg c220] at hf
                    obtain ⟨b225, hf⟩ := zneed hf
                    refine ⟨b225, ?_⟩
                    obtain ⟨q223, h224, hf⟩ := zbind hf
                    refine AW.callVc hZ hR hN (c_R_emit N (R_s_at_fault v0 q216.2 q212) (if (z4 = 0) then 2 else 1) (Int64.toInt32 ((R_value v0) (Int32.toNatClampNeg q216.2))) q223 h224) zMX12_emit_ok rfl rfl zK_BorrowedLivesModel_262 zV_X12_emit rfl [25] [0] [0, 1, 2, 3, 4, 5, 6, 7, 8, 9, 10, 11, 12, 13, 14, 15, 16, 17, 18, 19, 20, 21, 22, 23, 24] rfl rfl rfl (by decide) (by decide) (by omega) (by decide) (Nat.zero_le _) (Nat.zero_le _) rfl rfl rfl rfl rfl ?_
                    rintro v cc ⟨rfl, rfl⟩
                    refine ⟨_, rfl, rfl, ?_⟩
                    show AW Z 0 0 190 [some (.ref 0), none, some (.int z4), some (.int z9)] [] ([kR 0 (R_s_at_fault_op_arg_codes v0 q216.2 q212 q223.1 q223.2.1 q223.2.2)] : List (List zE)).flatten
                    refine AW.run hZ hRm [200] 400 ?_
                    show AW Z 0 0 200 [some (.ref 0), none, some (.int z4), some (.int z9)] [] ([kR 0 (R_s_at_fault_op_arg_codes v0 (q216.2 + 1) q212 q223.1 q223.2.1 q223.2.2)] : List (List zE)).flatten
                    cases hf
                    exact AW.vret hZ hE rfl rfl rfl (Nat.le_refl 0) (Nat.le_refl 0) rfl ⟨rfl, rfl⟩
                · rw [if_neg c217] at hf
                  obtain ⟨q226, h229, hf⟩ := zbind hf
                  refine AW.callVc hZ hR hN (hr_f_R_all (R_s_at_fault v0 q216.2 q212) (a1 + 1) q226 h229) zMX12_all_ok rfl rfl zK_BorrowedLivesModel_259 zV_X12_all rfl [25] [0] [0, 1, 2, 3, 4, 5, 6, 7, 8, 9, 10, 11, 12, 13, 14, 15, 16, 17, 18, 19, 20, 21, 22, 23, 24] rfl rfl rfl (by decide) (by decide) (by omega) (by decide) (Nat.zero_le _) (Nat.zero_le _) rfl rfl rfl rfl rfl ?_
                  rintro v cc ⟨rfl, rfl⟩
                  refine ⟨_, rfl, rfl, ?_⟩
                  show AW Z 0 0 150 [some (.ref 0), some (.int a1), some (.int z4), some (.int z9)] [] ([kR 0 (R_s_at_fault_op_arg_codes v0 q226.1 q226.2.1 q226.2.2.1 q226.2.2.2.1 q226.2.2.2.2)] : List (List zE)).flatten
                  refine AW.run hZ hRm [153] 400 ?_
                  show AW Z 0 0 153 [some (.ref 0), some (.int a1), some (.int z4), some (.int z9)] [.int 41, .ref 0] ([kR 0 (R_s_at_fault_op_arg_codes v0 q226.1 q226.2.1 q226.2.2.1 q226.2.2.2.1 q226.2.2.2.2)] : List (List zE)).flatten
                  obtain ⟨q227, h228, hf⟩ := zbind hf
                  refine AW.callVc hZ hR hN (c_R_takeSign N (R_s_at_fault_op_arg_codes v0 q226.1 q226.2.1 q226.2.2.1 q226.2.2.2.1 q226.2.2.2.2) 41 q227 h228) zMX12_takeSign_ok rfl rfl zK_BorrowedLivesModel_243 zV_X12_takeSign rfl [25] [0] [0, 1, 2, 3, 4, 5, 6, 7, 8, 9, 10, 11, 12, 13, 14, 15, 16, 17, 18, 19, 20, 21, 22, 23, 24] rfl rfl rfl (by decide) (by decide) (by omega) (by decide) (Nat.zero_le _) (Nat.zero_le _) rfl rfl rfl rfl rfl ?_
                  rintro v cc ⟨rfl, rfl⟩
                  refine ⟨_, rfl, rfl, ?_⟩
                  show AW Z 0 0 156 [some (.ref 0), some (.int a1), some (.int z4), some (.int z9)] [] ([kR 0 (R_s_at_fault_op_arg_codes v0 q227.1 q227.2 q226.2.2.1 q226.2.2.2.1 q226.2.2.2.2)] : List (List zE)).flatten
                  refine AW.run hZ hRm [200] 400 ?_
                  show AW Z 0 0 200 [some (.ref 0), some (.int a1), some (.int z4), some (.int z9)] [] ([kR 0 (R_s_at_fault_op_arg_codes v0 q227.1 q227.2 q226.2.2.1 q226.2.2.2.1 q226.2.2.2.2)] : List (List zE)).flatten
                  cases hf
                  exact AW.vret hZ hE rfl rfl rfl (Nat.le_refl 0) (Nat.le_refl 0) rfl ⟨rfl, rfl⟩
              · rw [if_neg c215] at hf
                obtain ⟨q231, h234, hf⟩ := zbind hf
                refine AW.callVc hZ hR hN (hr_f_R_takePart (R_s_at_fault v0 q214.2 q212) (a1 + 1) q231 h234) zMX12_takePart_ok rfl rfl zK_BorrowedLivesModel_285 zV_X12_takePart rfl [25] [0] [0, 1, 2, 3, 4, 5, 6, 7, 8, 9, 10, 11, 12, 13, 14, 15, 16, 17, 18, 19, 20, 21, 22, 23, 24] rfl rfl rfl (by decide) (by decide) (by omega) (by decide) (Nat.zero_le _) (Nat.zero_le _) rfl rfl rfl rfl rfl ?_
                rintro v cc ⟨rfl, rfl⟩
                refine ⟨_, rfl, rfl, ?_⟩
                show AW Z 0 0 125 [some (.ref 0), some (.int a1), some (.int z4), some (.int z9)] [] ([kR 0 (R_s_at_fault_op_arg_codes v0 q231.1 q231.2.1 q231.2.2.1 q231.2.2.2.1 q231.2.2.2.2)] : List (List zE)).flatten
                refine AW.run hZ hRm [128] 400 ?_
                show AW Z 0 0 128 [some (.ref 0), some (.int a1), some (.int z4), some (.int z9)] [.int 0, .int 3, .ref 0] ([kR 0 (R_s_at_fault_op_arg_codes v0 q231.1 q231.2.1 q231.2.2.1 q231.2.2.2.1 q231.2.2.2.2)] : List (List zE)).flatten
                obtain ⟨q232, h233, hf⟩ := zbind hf
                refine AW.callVc hZ hR hN (c_R_emit N (R_s_at_fault_op_arg_codes v0 q231.1 q231.2.1 q231.2.2.1 q231.2.2.2.1 q231.2.2.2.2) 3 0 q232 h233) zMX12_emit_ok rfl rfl zK_BorrowedLivesModel_262 zV_X12_emit rfl [25] [0] [0, 1, 2, 3, 4, 5, 6, 7, 8, 9, 10, 11, 12, 13, 14, 15, 16, 17, 18, 19, 20, 21, 22, 23, 24] rfl rfl rfl (by decide) (by decide) (by omega) (by decide) (Nat.zero_le _) (Nat.zero_le _) rfl rfl rfl rfl rfl ?_
                rintro v cc ⟨rfl, rfl⟩
                refine ⟨_, rfl, rfl, ?_⟩
                show AW Z 0 0 131 [some (.ref 0), some (.int a1), some (.int z4), some (.int z9)] [] ([kR 0 (R_s_at_fault_op_arg_codes v0 q231.1 q231.2.1 q232.1 q232.2.1 q232.2.2)] : List (List zE)).flatten
                refine AW.run hZ hRm [200] 400 ?_
                show AW Z 0 0 200 [some (.ref 0), some (.int a1), some (.int z4), some (.int z9)] [] ([kR 0 (R_s_at_fault_op_arg_codes v0 q231.1 q231.2.1 q232.1 q232.2.1 q232.2.2)] : List (List zE)).flatten
                cases hf
                exact AW.vret hZ hE rfl rfl rfl (Nat.le_refl 0) (Nat.le_refl 0) rfl ⟨rfl, rfl⟩
            · rw [if_neg c213] at hf
              cases hf
              exact AW.vret hZ hE rfl rfl rfl (Nat.le_refl 0) (Nat.le_refl 0) rfl ⟨rfl, rfl⟩
  · rw [if_neg c1] at hf
    cases hf
    exact AW.vret hZ hE rfl rfl rfl (Nat.le_refl 0) (Nat.le_refl 0) rfl ⟨rfl, rfl⟩
set_option maxRecDepth 20000 in
set_option maxHeartbeats 4000000 in
theorem c_R_products_L5 {r_f_R_takePart : (VR → Int32 → Option (Int32 × Int32 × (Nat → Int32) × (Nat → Int32) × Int32))} {r_f_R_products : (VR → Int32 → Option (Int32 × Int32 × (Nat → Int32) × (Nat → Int32) × Int32))} {r_f_R_sums : (VR → Int32 → Option (Int32 × Int32 × (Nat → Int32) × (Nat → Int32) × Int32))} {r_f_R_test : (VR → Int32 → Option (Int32 × Int32 × (Nat → Int32) × (Nat → Int32) × Int32))} {r_f_R_all : (VR → Int32 → Option (Int32 × Int32 × (Nat → Int32) × (Nat → Int32) × Int32))} {e : Nat} {Z : zCtx} {D n0w nf mcw msw : Nat} (hZ : zOk Z zMX12_products) (hR : zCan Z D mcw msw) (hDd : e + 3 ≤ D) (hN : zNew Z n0w nf) (hRm : zRoom Z 0 0) (hr_f_R_takePart : ∀ (v0 : VR) (a1 : Int32) (R : Int32 × Int32 × (Nat → Int32) × (Nat → Int32) × Int32), r_f_R_takePart v0 a1 = some R → Ct zMX12_takePart (e + 2) 0 0 0 [.ref 0, .int a1] ([kR 0 v0] : List (List zE)).flatten (fun v cc => v = none ∧ cc = ([kR 0 (R_s_at_fault_op_arg_codes v0 R.1 R.2.1 R.2.2.1 R.2.2.2.1 R.2.2.2.2)] : List (List zE)).flatten)) (hr_f_R_products : ∀ (v0 : VR) (a1 : Int32) (R : Int32 × Int32 × (Nat → Int32) × (Nat → Int32) × Int32), r_f_R_products v0 a1 = some R → Ct zMX12_products (e + 2) 0 0 0 [.ref 0, .int a1] ([kR 0 v0] : List (List zE)).flatten (fun v cc => v = none ∧ cc = ([kR 0 (R_s_at_fault_op_arg_codes v0 R.1 R.2.1 R.2.2.1 R.2.2.2.1 R.2.2.2.2)] : List (List zE)).flatten)) (hr_f_R_sums : ∀ (v0 : VR) (a1 : Int32) (R : Int32 × Int32 × (Nat → Int32) × (Nat → Int32) × Int32), r_f_R_sums v0 a1 = some R → Ct zMX12_sums (e + 2) 0 0 0 [.ref 0, .int a1] ([kR 0 v0] : List (List zE)).flatten (fun v cc => v = none ∧ cc = ([kR 0 (R_s_at_fault_op_arg_codes v0 R.1 R.2.1 R.2.2.1 R.2.2.2.1 R.2.2.2.2)] : List (List zE)).flatten)) (hr_f_R_test : ∀ (v0 : VR) (a1 : Int32) (R : Int32 × Int32 × (Nat → Int32) × (Nat → Int32) × Int32), r_f_R_test v0 a1 = some R → Ct zMX12_test (e + 2) 0 0 0 [.ref 0, .int a1] ([kR 0 v0] : List (List zE)).flatten (fun v cc => v = none ∧ cc = ([kR 0 (R_s_at_fault_op_arg_codes v0 R.1 R.2.1 R.2.2.1 R.2.2.2.1 R.2.2.2.2)] : List (List zE)).flatten)) (hr_f_R_all : ∀ (v0 : VR) (a1 : Int32) (R : Int32 × Int32 × (Nat → Int32) × (Nat → Int32) × Int32), r_f_R_all v0 a1 = some R → Ct zMX12_all (e + 2) 0 0 0 [.ref 0, .int a1] ([kR 0 v0] : List (List zE)).flatten (fun v cc => v = none ∧ cc = ([kR 0 (R_s_at_fault_op_arg_codes v0 R.1 R.2.1 R.2.2.1 R.2.2.2.1 R.2.2.2.2)] : List (List zE)).flatten)) (N : Nat) : ∀ (fuel : Nat) (v0 : VR) (y1 : Int32) (m_at0 : Int32) (m_fault1 : Int32) (m_op2 : (Nat → Int32)) (m_arg3 : (Nat → Int32)) (m_codes4 : Int32) (q : (Int32 × Int32 × (Nat → Int32) × (Nat → Int32) × Int32)), f_R_products_L5 r_f_R_takePart r_f_R_products r_f_R_sums r_f_R_test r_f_R_all N fuel v0 y1 m_at0 m_fault1 m_op2 m_arg3 m_codes4 = some q → (AW Z 0 0 29 [none, none] [] ([kR 0 (R_s_at_fault_op_arg_codes v0 q.1 q.2.1 q.2.2.1 q.2.2.2.1 q.2.2.2.2)] : List (List zE)).flatten) → AW Z 0 0 5 [some (.ref 0), some (.int y1)] [] ([kR 0 (R_s_at_fault_op_arg_codes v0 m_at0 m_fault1 m_op2 m_arg3 m_codes4)] : List (List zE)).flatten := by
  intro fuel
  induction fuel with
  | zero =>
    intro v0 y1 m_at0 m_fault1 m_op2 m_arg3 m_codes4 q hf hk0
    simp [f_R_products_L5] at hf
  | succ fuel ih =>
    intro v0 y1 m_at0 m_fault1 m_op2 m_arg3 m_codes4 q hf hk0
    rw [f_R_products_L5] at hf
    refine AW.run hZ hRm [8] 400 ?_
    show AW Z 0 0 8 [some (.ref 0), some (.int y1)] [.int 42, .ref 0] ([kR 0 (R_s_at_fault_op_arg_codes v0 m_at0 m_fault1 m_op2 m_arg3 m_codes4)] : List (List zE)).flatten
    obtain ⟨q2, h8, hf⟩ := zbind hf
    refine AW.callVc hZ hR hN (c_R_hasSign N (R_s_at_fault_op_arg_codes v0 m_at0 m_fault1 m_op2 m_arg3 m_codes4) 42 q2 h8) zMX12_hasSign_ok rfl rfl zK_BorrowedLivesModel_279 zV_X12_hasSign rfl [25] [0] [0, 1, 2, 3, 4, 5, 6, 7, 8, 9, 10, 11, 12, 13, 14, 15, 16, 17, 18, 19, 20, 21, 22, 23, 24] rfl rfl rfl (by decide) (by decide) (by omega) (by decide) (Nat.zero_le _) (Nat.zero_le _) rfl rfl rfl rfl rfl ?_
    rintro v cc ⟨rfl, rfl⟩
    refine ⟨_, rfl, rfl, ?_⟩
    show AW Z 0 0 11 [some (.ref 0), some (.int y1)] [.int q2.1] ([kR 0 (R_s_at_fault_op_arg_codes v0 q2.2 m_fault1 m_op2 m_arg3 m_codes4)] : List (List zE)).flatten
    refine AW.run hZ hRm [16, 29] 400 ?_
    show (((q2.1 = 0) → AW Z 0 0 29 [some (.ref 0), some (.int y1)] [] ([kR 0 (R_s_at_fault_op_arg_codes v0 q2.2 m_fault1 m_op2 m_arg3 m_codes4)] : List (List zE)).flatten) ∧ (¬ (q2.1 = 0) → AW Z 0 0 16 [some (.ref 0), some (.int y1)] [.int y1, .ref 0] ([kR 0 (R_s_at_fault_op_arg_codes v0 q2.2 m_fault1 m_op2 m_arg3 m_codes4)] : List (List zE)).flatten))
    refine ⟨fun c3 => ?_, fun c3 => ?_⟩
    · rw [if_pos c3] at hf
      cases hf
      refine AW.forget [false, false] ?_
      show AW Z 0 0 29 [none, none] [] ([kR 0 (R_s_at_fault_op_arg_codes v0 q2.2 m_fault1 m_op2 m_arg3 m_codes4)] : List (List zE)).flatten
      exact hk0
    · rw [if_neg c3] at hf
      obtain ⟨q4, h7, hf⟩ := zbind hf
      refine AW.callVc hZ hR hN (hr_f_R_takePart (R_s_at_fault_op_arg_codes v0 q2.2 m_fault1 m_op2 m_arg3 m_codes4) y1 q4 h7) zMX12_takePart_ok rfl rfl zK_BorrowedLivesModel_285 zV_X12_takePart rfl [25] [0] [0, 1, 2, 3, 4, 5, 6, 7, 8, 9, 10, 11, 12, 13, 14, 15, 16, 17, 18, 19, 20, 21, 22, 23, 24] rfl rfl rfl (by decide) (by decide) (by omega) (by decide) (Nat.zero_le _) (Nat.zero_le _) rfl rfl rfl rfl rfl ?_
      rintro v cc ⟨rfl, rfl⟩
      refine ⟨_, rfl, rfl, ?_⟩
      show AW Z 0 0 19 [some (.ref 0), some (.int y1)] [] ([kR 0 (R_s_at_fault_op_arg_codes v0 q4.1 q4.2.1 q4.2.2.1 q4.2.2.2.1 q4.2.2.2.2)] : List (List zE)).flatten
      refine AW.run hZ hRm [23] 400 ?_
      show AW Z 0 0 23 [some (.ref 0), some (.int y1)] [.int 0, .int 6, .ref 0] ([kR 0 (R_s_at_fault_op_arg_codes v0 q4.1 q4.2.1 q4.2.2.1 q4.2.2.2.1 q4.2.2.2.2)] : List (List zE)).flatten
      obtain ⟨q5, h6, hf⟩ := zbind hf
      refine AW.callVc hZ hR hN (c_R_emit N (R_s_at_fault_op_arg_codes v0 q4.1 q4.2.1 q4.2.2.1 q4.2.2.2.1 q4.2.2.2.2) 6 0 q5 h6) zMX12_emit_ok rfl rfl zK_BorrowedLivesModel_262 zV_X12_emit rfl [25] [0] [0, 1, 2, 3, 4, 5, 6, 7, 8, 9, 10, 11, 12, 13, 14, 15, 16, 17, 18, 19, 20, 21, 22, 23, 24] rfl rfl rfl (by decide) (by decide) (by omega) (by decide) (Nat.zero_le _) (Nat.zero_le _) rfl rfl rfl rfl rfl ?_
      rintro v cc ⟨rfl, rfl⟩
      refine ⟨_, rfl, rfl, ?_⟩
      show AW Z 0 0 26 [some (.ref 0), some (.int y1)] [] ([kR 0 (R_s_at_fault_op_arg_codes v0 q4.1 q4.2.1 q5.1 q5.2.1 q5.2.2)] : List (List zE)).flatten
      refine AW.run hZ hRm [5] 400 ?_
      show AW Z 0 0 5 [some (.ref 0), some (.int y1)] [] ([kR 0 (R_s_at_fault_op_arg_codes v0 q4.1 q4.2.1 q5.1 q5.2.1 q5.2.2)] : List (List zE)).flatten
      exact ih v0 y1 q4.1 q4.2.1 q5.1 q5.2.1 q5.2.2 q hf hk0
set_option maxRecDepth 20000 in
set_option maxHeartbeats 4000000 in
theorem c_R_products_b {r_f_R_takePart : (VR → Int32 → Option (Int32 × Int32 × (Nat → Int32) × (Nat → Int32) × Int32))} {r_f_R_products : (VR → Int32 → Option (Int32 × Int32 × (Nat → Int32) × (Nat → Int32) × Int32))} {r_f_R_sums : (VR → Int32 → Option (Int32 × Int32 × (Nat → Int32) × (Nat → Int32) × Int32))} {r_f_R_test : (VR → Int32 → Option (Int32 × Int32 × (Nat → Int32) × (Nat → Int32) × Int32))} {r_f_R_all : (VR → Int32 → Option (Int32 × Int32 × (Nat → Int32) × (Nat → Int32) × Int32))} {e : Nat} (hr_f_R_takePart : ∀ (v0 : VR) (a1 : Int32) (R : Int32 × Int32 × (Nat → Int32) × (Nat → Int32) × Int32), r_f_R_takePart v0 a1 = some R → Ct zMX12_takePart (e + 2) 0 0 0 [.ref 0, .int a1] ([kR 0 v0] : List (List zE)).flatten (fun v cc => v = none ∧ cc = ([kR 0 (R_s_at_fault_op_arg_codes v0 R.1 R.2.1 R.2.2.1 R.2.2.2.1 R.2.2.2.2)] : List (List zE)).flatten)) (hr_f_R_products : ∀ (v0 : VR) (a1 : Int32) (R : Int32 × Int32 × (Nat → Int32) × (Nat → Int32) × Int32), r_f_R_products v0 a1 = some R → Ct zMX12_products (e + 2) 0 0 0 [.ref 0, .int a1] ([kR 0 v0] : List (List zE)).flatten (fun v cc => v = none ∧ cc = ([kR 0 (R_s_at_fault_op_arg_codes v0 R.1 R.2.1 R.2.2.1 R.2.2.2.1 R.2.2.2.2)] : List (List zE)).flatten)) (hr_f_R_sums : ∀ (v0 : VR) (a1 : Int32) (R : Int32 × Int32 × (Nat → Int32) × (Nat → Int32) × Int32), r_f_R_sums v0 a1 = some R → Ct zMX12_sums (e + 2) 0 0 0 [.ref 0, .int a1] ([kR 0 v0] : List (List zE)).flatten (fun v cc => v = none ∧ cc = ([kR 0 (R_s_at_fault_op_arg_codes v0 R.1 R.2.1 R.2.2.1 R.2.2.2.1 R.2.2.2.2)] : List (List zE)).flatten)) (hr_f_R_test : ∀ (v0 : VR) (a1 : Int32) (R : Int32 × Int32 × (Nat → Int32) × (Nat → Int32) × Int32), r_f_R_test v0 a1 = some R → Ct zMX12_test (e + 2) 0 0 0 [.ref 0, .int a1] ([kR 0 v0] : List (List zE)).flatten (fun v cc => v = none ∧ cc = ([kR 0 (R_s_at_fault_op_arg_codes v0 R.1 R.2.1 R.2.2.1 R.2.2.2.1 R.2.2.2.2)] : List (List zE)).flatten)) (hr_f_R_all : ∀ (v0 : VR) (a1 : Int32) (R : Int32 × Int32 × (Nat → Int32) × (Nat → Int32) × Int32), r_f_R_all v0 a1 = some R → Ct zMX12_all (e + 2) 0 0 0 [.ref 0, .int a1] ([kR 0 v0] : List (List zE)).flatten (fun v cc => v = none ∧ cc = ([kR 0 (R_s_at_fault_op_arg_codes v0 R.1 R.2.1 R.2.2.1 R.2.2.2.1 R.2.2.2.2)] : List (List zE)).flatten)) (N : Nat) (v0 : VR) (a1 : Int32) (R : Int32 × Int32 × (Nat → Int32) × (Nat → Int32) × Int32) (hf : f_R_products_b r_f_R_takePart r_f_R_products r_f_R_sums r_f_R_test r_f_R_all N v0 a1 = some R) : Ct zMX12_products (e + 3) 0 0 0 [.ref 0, .int a1] ([kR 0 v0] : List (List zE)).flatten (fun v cc => v = none ∧ cc = ([kR 0 (R_s_at_fault_op_arg_codes v0 R.1 R.2.1 R.2.2.1 R.2.2.2.1 R.2.2.2.2)] : List (List zE)).flatten) := by
  refine Ct.of zMX12_products_ok (by omega) (Nat.le_of_ble_eq_true rfl) ?_
  intro Z hZ hR hN hE
  have hRm : zRoom Z 0 0 := zRoom0 Z
  unfold f_R_products_b at hf
  show AW Z 0 0 0 [some (.ref 0), some (.int a1)] [] ([kR 0 v0] : List (List zE)).flatten
  refine AW.run hZ hRm [2] 400 ?_
  show AW Z 0 0 2 [some (.ref 0), some (.int a1)] [.int a1, .ref 0] ([kR 0 v0] : List (List zE)).flatten
  obtain ⟨q1, h11, hf⟩ := zbind hf
  refine AW.callVc hZ hR hN (hr_f_R_takePart v0 a1 q1 h11) zMX12_takePart_ok rfl rfl zK_BorrowedLivesModel_285 zV_X12_takePart rfl [25] [0] [0, 1, 2, 3, 4, 5, 6, 7, 8, 9, 10, 11, 12, 13, 14, 15, 16, 17, 18, 19, 20, 21, 22, 23, 24] rfl rfl rfl (by decide) (by decide) (by omega) (by decide) (Nat.zero_le _) (Nat.zero_le _) rfl rfl rfl rfl rfl ?_
  rintro v cc ⟨rfl, rfl⟩
  refine ⟨_, rfl, rfl, ?_⟩
  show AW Z 0 0 5 [some (.ref 0), some (.int a1)] [] ([kR 0 (R_s_at_fault_op_arg_codes v0 q1.1 q1.2.1 q1.2.2.1 q1.2.2.2.1 q1.2.2.2.2)] : List (List zE)).flatten
  obtain ⟨q9, h10, hf⟩ := zbind hf
  refine c_R_products_L5 hZ hR (by omega) hN hRm hr_f_R_takePart hr_f_R_products hr_f_R_sums hr_f_R_test hr_f_R_all N N (R_s_at_fault_op_arg_codes v0 q1.1 q1.2.1 q1.2.2.1 q1.2.2.2.1 q1.2.2.2.2) a1 q1.1 q1.2.1 q1.2.2.1 q1.2.2.2.1 q1.2.2.2.2 q9 h10 ?_
  show AW Z 0 0 29 [none, none] [] ([kR 0 (R_s_at_fault_op_arg_codes v0 q9.1 q9.2.1 q9.2.2.1 q9.2.2.2.1 q9.2.2.2.2)] : List (List zE)).flatten
  cases hf
  exact AW.vret hZ hE rfl rfl rfl (Nat.le_refl 0) (Nat.le_refl 0) rfl ⟨rfl, rfl⟩
set_option maxRecDepth 20000 in
set_option maxHeartbeats 4000000 in
theorem c_R_sums_L5 {r_f_R_takePart : (VR → Int32 → Option (Int32 × Int32 × (Nat → Int32) × (Nat → Int32) × Int32))} {r_f_R_products : (VR → Int32 → Option (Int32 × Int32 × (Nat → Int32) × (Nat → Int32) × Int32))} {r_f_R_sums : (VR → Int32 → Option (Int32 × Int32 × (Nat → Int32) × (Nat → Int32) × Int32))} {r_f_R_test : (VR → Int32 → Option (Int32 × Int32 × (Nat → Int32) × (Nat → Int32) × Int32))} {r_f_R_all : (VR → Int32 → Option (Int32 × Int32 × (Nat → Int32) × (Nat → Int32) × Int32))} {e : Nat} {Z : zCtx} {D n0w nf mcw msw : Nat} (hZ : zOk Z zMX12_sums) (hR : zCan Z D mcw msw) (hDd : e + 3 ≤ D) (hN : zNew Z n0w nf) (hRm : zRoom Z 0 0) (hr_f_R_takePart : ∀ (v0 : VR) (a1 : Int32) (R : Int32 × Int32 × (Nat → Int32) × (Nat → Int32) × Int32), r_f_R_takePart v0 a1 = some R → Ct zMX12_takePart (e + 2) 0 0 0 [.ref 0, .int a1] ([kR 0 v0] : List (List zE)).flatten (fun v cc => v = none ∧ cc = ([kR 0 (R_s_at_fault_op_arg_codes v0 R.1 R.2.1 R.2.2.1 R.2.2.2.1 R.2.2.2.2)] : List (List zE)).flatten)) (hr_f_R_products : ∀ (v0 : VR) (a1 : Int32) (R : Int32 × Int32 × (Nat → Int32) × (Nat → Int32) × Int32), r_f_R_products v0 a1 = some R → Ct zMX12_products (e + 2) 0 0 0 [.ref 0, .int a1] ([kR 0 v0] : List (List zE)).flatten (fun v cc => v = none ∧ cc = ([kR 0 (R_s_at_fault_op_arg_codes v0 R.1 R.2.1 R.2.2.1 R.2.2.2.1 R.2.2.2.2)] : List (List zE)).flatten)) (hr_f_R_sums : ∀ (v0 : VR) (a1 : Int32) (R : Int32 × Int32 × (Nat → Int32) × (Nat → Int32) × Int32), r_f_R_sums v0 a1 = some R → Ct zMX12_sums (e + 2) 0 0 0 [.ref 0, .int a1] ([kR 0 v0] : List (List zE)).flatten (fun v cc => v = none ∧ cc = ([kR 0 (R_s_at_fault_op_arg_codes v0 R.1 R.2.1 R.2.2.1 R.2.2.2.1 R.2.2.2.2)] : List (List zE)).flatten)) (hr_f_R_test : ∀ (v0 : VR) (a1 : Int32) (R : Int32 × Int32 × (Nat → Int32) × (Nat → Int32) × Int32), r_f_R_test v0 a1 = some R → Ct zMX12_test (e + 2) 0 0 0 [.ref 0, .int a1] ([kR 0 v0] : List (List zE)).flatten (fun v cc => v = none ∧ cc = ([kR 0 (R_s_at_fault_op_arg_codes v0 R.1 R.2.1 R.2.2.1 R.2.2.2.1 R.2.2.2.2)] : List (List zE)).flatten)) (hr_f_R_all : ∀ (v0 : VR) (a1 : Int32) (R : Int32 × Int32 × (Nat → Int32) × (Nat → Int32) × Int32), r_f_R_all v0 a1 = some R → Ct zMX12_all (e + 2) 0 0 0 [.ref 0, .int a1] ([kR 0 v0] : List (List zE)).flatten (fun v cc => v = none ∧ cc = ([kR 0 (R_s_at_fault_op_arg_codes v0 R.1 R.2.1 R.2.2.1 R.2.2.2.1 R.2.2.2.2)] : List (List zE)).flatten)) (N : Nat) : ∀ (fuel : Nat) (v0 : VR) (y1 : Int32) (m_at0 : Int32) (m_fault1 : Int32) (m_op2 : (Nat → Int32)) (m_arg3 : (Nat → Int32)) (m_codes4 : Int32) (q : (Int32 × Int32 × (Nat → Int32) × (Nat → Int32) × Int32)), f_R_sums_L5 r_f_R_takePart r_f_R_products r_f_R_sums r_f_R_test r_f_R_all N fuel v0 y1 m_at0 m_fault1 m_op2 m_arg3 m_codes4 = some q → (AW Z 0 0 62 [none, none, none] [] ([kR 0 (R_s_at_fault_op_arg_codes v0 q.1 q.2.1 q.2.2.1 q.2.2.2.1 q.2.2.2.2)] : List (List zE)).flatten) → AW Z 0 0 5 [some (.ref 0), some (.int y1), none] [] ([kR 0 (R_s_at_fault_op_arg_codes v0 m_at0 m_fault1 m_op2 m_arg3 m_codes4)] : List (List zE)).flatten := by
  intro fuel
  induction fuel with
  | zero =>
    intro v0 y1 m_at0 m_fault1 m_op2 m_arg3 m_codes4 q hf hk0
    simp [f_R_sums_L5] at hf
  | succ fuel ih =>
    intro v0 y1 m_at0 m_fault1 m_op2 m_arg3 m_codes4 q hf hk0
    rw [f_R_sums_L5] at hf
    refine AW.run hZ hRm [8] 400 ?_
    show AW Z 0 0 8 [some (.ref 0), some (.int y1), none] [.int 43, .ref 0] ([kR 0 (R_s_at_fault_op_arg_codes v0 m_at0 m_fault1 m_op2 m_arg3 m_codes4)] : List (List zE)).flatten
    obtain ⟨q2, h23, hf⟩ := zbind hf
    refine AW.callVc hZ hR hN (c_R_isSign N (R_s_at_fault_op_arg_codes v0 m_at0 m_fault1 m_op2 m_arg3 m_codes4) 43 q2 h23) zMX12_isSign_ok rfl rfl zK_BorrowedLivesModel_185 zV_X12_isSign rfl [25] [0] [0, 1, 2, 3, 4, 5, 6, 7, 8, 9, 10, 11, 12, 13, 14, 15, 16, 17, 18, 19, 20, 21, 22, 23, 24] rfl rfl rfl (by decide) (by decide) (by omega) (by decide) (Nat.zero_le _) (Nat.zero_le _) rfl rfl rfl rfl rfl ?_
    rintro v cc ⟨rfl, rfl⟩
    refine ⟨_, rfl, rfl, ?_⟩
    show AW Z 0 0 11 [some (.ref 0), some (.int y1), none] [.int q2] ([kR 0 (R_s_at_fault_op_arg_codes v0 m_at0 m_fault1 m_op2 m_arg3 m_codes4)] : List (List zE)).flatten
    refine AW.run hZ hRm [17, 26] 400 ?_
    show ((¬ (q2 = 0) → AW Z 0 0 26 [some (.ref 0), some (.int y1), none] [.int 43, .ref 0] ([kR 0 (R_s_at_fault_op_arg_codes v0 m_at0 m_fault1 m_op2 m_arg3 m_codes4)] : List (List zE)).flatten) ∧ ((q2 = 0) → AW Z 0 0 17 [some (.ref 0), some (.int y1), none] [.int 45, .ref 0] ([kR 0 (R_s_at_fault_op_arg_codes v0 m_at0 m_fault1 m_op2 m_arg3 m_codes4)] : List (List zE)).flatten))
    refine ⟨fun c3 => ?_, fun c3 => ?_⟩
    · rw [if_neg c3] at hf
      obtain ⟨q4, h11, hf⟩ := zbind hf
      refine AW.callVc hZ hR hN (c_R_isSign N (R_s_at_fault_op_arg_codes v0 m_at0 m_fault1 m_op2 m_arg3 m_codes4) 43 q4 h11) zMX12_isSign_ok rfl rfl zK_BorrowedLivesModel_185 zV_X12_isSign rfl [25] [0] [0, 1, 2, 3, 4, 5, 6, 7, 8, 9, 10, 11, 12, 13, 14, 15, 16, 17, 18, 19, 20, 21, 22, 23, 24] rfl rfl rfl (by decide) (by decide) (by omega) (by decide) (Nat.zero_le _) (Nat.zero_le _) rfl rfl rfl rfl rfl ?_
      rintro v cc ⟨rfl, rfl⟩
      refine ⟨_, rfl, rfl, ?_⟩
      show AW Z 0 0 29 [some (.ref 0), some (.int y1), none] [.int q4] ([kR 0 (R_s_at_fault_op_arg_codes v0 m_at0 m_fault1 m_op2 m_arg3 m_codes4)] : List (List zE)).flatten
      refine AW.run hZ hRm [42] 400 ?_
      show AW Z 0 0 42 [some (.ref 0), some (.int y1), some (.int q4)] [.int y1, .ref 0] ([kR 0 (R_s_at_fault_op_arg_codes v0 (m_at0 + 1) m_fault1 m_op2 m_arg3 m_codes4)] : List (List zE)).flatten
      obtain ⟨q5, h10, hf⟩ := zbind hf
      refine AW.callVc hZ hR hN (hr_f_R_products (R_s_at_fault_op_arg_codes v0 (m_at0 + 1) m_fault1 m_op2 m_arg3 m_codes4) y1 q5 h10) zMX12_products_ok rfl rfl zK_BorrowedLivesModel_282 zV_X12_products rfl [25] [0] [0, 1, 2, 3, 4, 5, 6, 7, 8, 9, 10, 11, 12, 13, 14, 15, 16, 17, 18, 19, 20, 21, 22, 23, 24] rfl rfl rfl (by decide) (by decide) (by omega) (by decide) (Nat.zero_le _) (Nat.zero_le _) rfl rfl rfl rfl rfl ?_
      rintro v cc ⟨rfl, rfl⟩
      refine ⟨_, rfl, rfl, ?_⟩
      show AW Z 0 0 45 [some (.ref 0), some (.int y1), some (.int q4)] [] ([kR 0 (R_s_at_fault_op_arg_codes v0 q5.1 q5.2.1 q5.2.2.1 q5.2.2.2.1 q5.2.2.2.2)] : List (List zE)).flatten
      refine AW.run hZ hRm [47] 400 ?_
      show AW Z 0 0 47 [some (.ref 0), some (.int y1), some (.int q4)] [.int q4, .ref 0] ([kR 0 (R_s_at_fault_op_arg_codes v0 q5.1 q5.2.1 q5.2.2.1 q5.2.2.2.1 q5.2.2.2.2)] : List (List zE)).flatten
      suffices H6 : AW Z 0 0 55 [some (.ref 0), some (.int y1), none] [.int (if (q4 = 0) then 5 else 4), .ref 0] ([kR 0 (R_s_at_fault_op_arg_codes v0 q5.1 q5.2.1 q5.2.2.1 q5.2.2.2.1 q5.2.2.2.2)] : List (List zE)).flatten from by
        refine AW.run hZ hRm [55] 400 ?_
        show (((q4 = 0) → AW Z 0 0 55 [some (.ref 0), some (.int y1), some (.int q4)] [.int 5, .ref 0] ([kR 0 (R_s_at_fault_op_arg_codes v0 q5.1 q5.2.1 q5.2.2.1 q5.2.2.2.1 q5.2.2.2.2)] : List (List zE)).flatten) ∧ (¬ (q4 = 0) → AW Z 0 0 55 [some (.ref 0), some (.int y1), some (.int q4)] [.int 4, .ref 0] ([kR 0 (R_s_at_fault_op_arg_codes v0 q5.1 q5.2.1 q5.2.2.1 q5.2.2.2.1 q5.2.2.2.2)] : List (List zE)).flatten))
        refine ⟨fun c7 => ?_, fun c7 => ?_⟩
        · refine AW.forget [true, true, false] ?_
          show AW Z 0 0 55 [some (.ref 0), some (.int y1), none] [.int 5, .ref 0] ([kR 0 (R_s_at_fault_op_arg_codes v0 q5.1 q5.2.1 q5.2.2.1 q5.2.2.2.1 q5.2.2.2.2)] : List (List zE)).flatten
          simpa only [if_pos c7] using H6
        · refine AW.forget [true, true, false] ?_
          show AW Z 0 0 55 [some (.ref 0), some (.int y1), none] [.int 4, .ref 0] ([kR 0 (R_s_at_fault_op_arg_codes v0 q5.1 q5.2.1 q5.2.2.1 q5.2.2.2.1 q5.2.2.2.2)] : List (List zE)).flatten
          simpa only [if_neg c7] using H6
      refine AW.run hZ hRm [56] 400 ?_
      show AW Z 0 0 56 [some (.ref 0), some (.int y1), none] [.int 0, .int (if (q4 = 0) then 5 else 4), .ref 0] ([kR 0 (R_s_at_fault_op_arg_codes v0 q5.1 q5.2.1 q5.2.2.1 q5.2.2.2.1 q5.2.2.2.2)] : List (List zE)).flatten
      obtain ⟨q8, h9, hf⟩ := zbind hf
      refine AW.callVc hZ hR hN (c_R_emit N (R_s_at_fault_op_arg_codes v0 q5.1 q5.2.1 q5.2.2.1 q5.2.2.2.1 q5.2.2.2.2) (if (q4 = 0) then 5 else 4) 0 q8 h9) zMX12_emit_ok rfl rfl zK_BorrowedLivesModel_262 zV_X12_emit rfl [25] [0] [0, 1, 2, 3, 4, 5, 6, 7, 8, 9, 10, 11, 12, 13, 14, 15, 16, 17, 18, 19, 20, 21, 22, 23, 24] rfl rfl rfl (by decide) (by decide) (by omega) (by decide) (Nat.zero_le _) (Nat.zero_le _) rfl rfl rfl rfl rfl ?_
      rintro v cc ⟨rfl, rfl⟩
      refine ⟨_, rfl, rfl, ?_⟩
      show AW Z 0 0 59 [some (.ref 0), some (.int y1), none] [] ([kR 0 (R_s_at_fault_op_arg_codes v0 q5.1 q5.2.1 q8.1 q8.2.1 q8.2.2)] : List (List zE)).flatten
      refine AW.run hZ hRm [5] 400 ?_
      show AW Z 0 0 5 [some (.ref 0), some (.int y1), none] [] ([kR 0 (R_s_at_fault_op_arg_codes v0 q5.1 q5.2.1 q8.1 q8.2.1 q8.2.2)] : List (List zE)).flatten
      exact ih v0 y1 q5.1 q5.2.1 q8.1 q8.2.1 q8.2.2 q hf hk0
    · rw [if_pos c3] at hf
      obtain ⟨q12, h22, hf⟩ := zbind hf
      refine AW.callVc hZ hR hN (c_R_isSign N (R_s_at_fault_op_arg_codes v0 m_at0 m_fault1 m_op2 m_arg3 m_codes4) 45 q12 h22) zMX12_isSign_ok rfl rfl zK_BorrowedLivesModel_185 zV_X12_isSign rfl [25] [0] [0, 1, 2, 3, 4, 5, 6, 7, 8, 9, 10, 11, 12, 13, 14, 15, 16, 17, 18, 19, 20, 21, 22, 23, 24] rfl rfl rfl (by decide) (by decide) (by omega) (by decide) (Nat.zero_le _) (Nat.zero_le _) rfl rfl rfl rfl rfl ?_
      rintro v cc ⟨rfl, rfl⟩
      refine ⟨_, rfl, rfl, ?_⟩
      show AW Z 0 0 20 [some (.ref 0), some (.int y1), none] [.int q12] ([kR 0 (R_s_at_fault_op_arg_codes v0 m_at0 m_fault1 m_op2 m_arg3 m_codes4)] : List (List zE)).flatten
      refine AW.run hZ hRm [26, 62] 400 ?_
      show (((q12 = 0) → AW Z 0 0 62 [some (.ref 0), some (.int y1), none] [] ([kR 0 (R_s_at_fault_op_arg_codes v0 m_at0 m_fault1 m_op2 m_arg3 m_codes4)] : List (List zE)).flatten) ∧ (¬ (q12 = 0) → AW Z 0 0 26 [some (.ref 0), some (.int y1), none] [.int 43, .ref 0] ([kR 0 (R_s_at_fault_op_arg_codes v0 m_at0 m_fault1 m_op2 m_arg3 m_codes4)] : List (List zE)).flatten))
      refine ⟨fun c13 => ?_, fun c13 => ?_⟩
      · rw [if_pos c13] at hf
        cases hf
        refine AW.forget [false, false, false] ?_
        show AW Z 0 0 62 [none, none, none] [] ([kR 0 (R_s_at_fault_op_arg_codes v0 m_at0 m_fault1 m_op2 m_arg3 m_codes4)] : List (List zE)).flatten
        exact hk0
      · rw [if_neg c13] at hf
        obtain ⟨q14, h21, hf⟩ := zbind hf
        refine AW.callVc hZ hR hN (c_R_isSign N (R_s_at_fault_op_arg_codes v0 m_at0 m_fault1 m_op2 m_arg3 m_codes4) 43 q14 h21) zMX12_isSign_ok rfl rfl zK_BorrowedLivesModel_185 zV_X12_isSign rfl [25] [0] [0, 1, 2, 3, 4, 5, 6, 7, 8, 9, 10, 11, 12, 13, 14, 15, 16, 17, 18, 19, 20, 21, 22, 23, 24] rfl rfl rfl (by decide) (by decide) (by omega) (by decide) (Nat.zero_le _) (Nat.zero_le _) rfl rfl rfl rfl rfl ?_
        rintro v cc ⟨rfl, rfl⟩
        refine ⟨_, rfl, rfl, ?_⟩
        show AW Z 0 0 29 [some (.ref 0), some (.int y1), none] [.int q14] ([kR 0 (R_s_at_fault_op_arg_codes v0 m_at0 m_fault1 m_op2 m_arg3 m_codes4)] : List (List zE)).flatten
        refine AW.run hZ hRm [42] 400 ?_
        show AW Z 0 0 42 [some (.ref 0), some (.int y1), some (.int q14)] [.int y1, .ref 0] ([kR 0 (R_s_at_fault_op_arg_codes v0 (m_at0 + 1) m_fault1 m_op2 m_arg3 m_codes4)] : List (List zE)).flatten
        obtain ⟨q15, h20, hf⟩ := zbind hf
        refine AW.callVc hZ hR hN (hr_f_R_products (R_s_at_fault_op_arg_codes v0 (m_at0 + 1) m_fault1 m_op2 m_arg3 m_codes4) y1 q15 h20) zMX12_products_ok rfl rfl zK_BorrowedLivesModel_282 zV_X12_products rfl [25] [0] [0, 1, 2, 3, 4, 5, 6, 7, 8, 9, 10, 11, 12, 13, 14, 15, 16, 17, 18, 19, 20, 21, 22, 23, 24] rfl rfl rfl (by decide) (by decide) (by omega) (by decide) (Nat.zero_le _) (Nat.zero_le _) rfl rfl rfl rfl rfl ?_
        rintro v cc ⟨rfl, rfl⟩
        refine ⟨_, rfl, rfl, ?_⟩
        show AW Z 0 0 45 [some (.ref 0), some (.int y1), some (.int q14)] [] ([kR 0 (R_s_at_fault_op_arg_codes v0 q15.1 q15.2.1 q15.2.2.1 q15.2.2.2.1 q15.2.2.2.2)] : List (List zE)).flatten
        refine AW.run hZ hRm [47] 400 ?_
        show AW Z 0 0 47 [some (.ref 0), some (.int y1), some (.int q14)] [.int q14, .ref 0] ([kR 0 (R_s_at_fault_op_arg_codes v0 q15.1 q15.2.1 q15.2.2.1 q15.2.2.2.1 q15.2.2.2.2)] : List (List zE)).flatten
        suffices H16 : AW Z 0 0 55 [some (.ref 0), some (.int y1), none] [.int (if (q14 = 0) then 5 else 4), .ref 0] ([kR 0 (R_s_at_fault_op_arg_codes v0 q15.1 q15.2.1 q15.2.2.1 q15.2.2.2.1 q15.2.2.2.2)] : List (List zE)).flatten from by
          refine AW.run hZ hRm [55] 400 ?_
          show (((q14 = 0) → AW Z 0 0 55 [some (.ref 0), some (.int y1), some (.int q14)] [.int 5, .ref 0] ([kR 0 (R_s_at_fault_op_arg_codes v0 q15.1 q15.2.1 q15.2.2.1 q15.2.2.2.1 q15.2.2.2.2)] : List (List zE)).flatten) ∧ (¬ (q14 = 0) → AW Z 0 0 55 [some (.ref 0), some (.int y1), some (.int q14)] [.int 4, .ref 0] ([kR 0 (R_s_at_fault_op_arg_codes v0 q15.1 q15.2.1 q15.2.2.1 q15.2.2.2.1 q15.2.2.2.2)] : List (List zE)).flatten))
          refine ⟨fun c17 => ?_, fun c17 => ?_⟩
          · refine AW.forget [true, true, false] ?_
            show AW Z 0 0 55 [some (.ref 0), some (.int y1), none] [.int 5, .ref 0] ([kR 0 (R_s_at_fault_op_arg_codes v0 q15.1 q15.2.1 q15.2.2.1 q15.2.2.2.1 q15.2.2.2.2)] : List (List zE)).flatten
            simpa only [if_pos c17] using H16
          · refine AW.forget [true, true, false] ?_
            show AW Z 0 0 55 [some (.ref 0), some (.int y1), none] [.int 4, .ref 0] ([kR 0 (R_s_at_fault_op_arg_codes v0 q15.1 q15.2.1 q15.2.2.1 q15.2.2.2.1 q15.2.2.2.2)] : List (List zE)).flatten
            simpa only [if_neg c17] using H16
        refine AW.run hZ hRm [56] 400 ?_
        show AW Z 0 0 56 [some (.ref 0), some (.int y1), none] [.int 0, .int (if (q14 = 0) then 5 else 4), .ref 0] ([kR 0 (R_s_at_fault_op_arg_codes v0 q15.1 q15.2.1 q15.2.2.1 q15.2.2.2.1 q15.2.2.2.2)] : List (List zE)).flatten
        obtain ⟨q18, h19, hf⟩ := zbind hf
        refine AW.callVc hZ hR hN (c_R_emit N (R_s_at_fault_op_arg_codes v0 q15.1 q15.2.1 q15.2.2.1 q15.2.2.2.1 q15.2.2.2.2) (if (q14 = 0) then 5 else 4) 0 q18 h19) zMX12_emit_ok rfl rfl zK_BorrowedLivesModel_262 zV_X12_emit rfl [25] [0] [0, 1, 2, 3, 4, 5, 6, 7, 8, 9, 10, 11, 12, 13, 14, 15, 16, 17, 18, 19, 20, 21, 22, 23, 24] rfl rfl rfl (by decide) (by decide) (by omega) (by decide) (Nat.zero_le _) (Nat.zero_le _) rfl rfl rfl rfl rfl ?_
        rintro v cc ⟨rfl, rfl⟩
        refine ⟨_, rfl, rfl, ?_⟩
        show AW Z 0 0 59 [some (.ref 0), some (.int y1), none] [] ([kR 0 (R_s_at_fault_op_arg_codes v0 q15.1 q15.2.1 q18.1 q18.2.1 q18.2.2)] : List (List zE)).flatten
        refine AW.run hZ hRm [5] 400 ?_
        show AW Z 0 0 5 [some (.ref 0), some (.int y1), none] [] ([kR 0 (R_s_at_fault_op_arg_codes v0 q15.1 q15.2.1 q18.1 q18.2.1 q18.2.2)] : List (List zE)).flatten
        exact ih v0 y1 q15.1 q15.2.1 q18.1 q18.2.1 q18.2.2 q hf hk0
set_option maxRecDepth 20000 in
set_option maxHeartbeats 4000000 in
theorem c_R_sums_b {r_f_R_takePart : (VR → Int32 → Option (Int32 × Int32 × (Nat → Int32) × (Nat → Int32) × Int32))} {r_f_R_products : (VR → Int32 → Option (Int32 × Int32 × (Nat → Int32) × (Nat → Int32) × Int32))} {r_f_R_sums : (VR → Int32 → Option (Int32 × Int32 × (Nat → Int32) × (Nat → Int32) × Int32))} {r_f_R_test : (VR → Int32 → Option (Int32 × Int32 × (Nat → Int32) × (Nat → Int32) × Int32))} {r_f_R_all : (VR → Int32 → Option (Int32 × Int32 × (Nat → Int32) × (Nat → Int32) × Int32))} {e : Nat} (hr_f_R_takePart : ∀ (v0 : VR) (a1 : Int32) (R : Int32 × Int32 × (Nat → Int32) × (Nat → Int32) × Int32), r_f_R_takePart v0 a1 = some R → Ct zMX12_takePart (e + 2) 0 0 0 [.ref 0, .int a1] ([kR 0 v0] : List (List zE)).flatten (fun v cc => v = none ∧ cc = ([kR 0 (R_s_at_fault_op_arg_codes v0 R.1 R.2.1 R.2.2.1 R.2.2.2.1 R.2.2.2.2)] : List (List zE)).flatten)) (hr_f_R_products : ∀ (v0 : VR) (a1 : Int32) (R : Int32 × Int32 × (Nat → Int32) × (Nat → Int32) × Int32), r_f_R_products v0 a1 = some R → Ct zMX12_products (e + 2) 0 0 0 [.ref 0, .int a1] ([kR 0 v0] : List (List zE)).flatten (fun v cc => v = none ∧ cc = ([kR 0 (R_s_at_fault_op_arg_codes v0 R.1 R.2.1 R.2.2.1 R.2.2.2.1 R.2.2.2.2)] : List (List zE)).flatten)) (hr_f_R_sums : ∀ (v0 : VR) (a1 : Int32) (R : Int32 × Int32 × (Nat → Int32) × (Nat → Int32) × Int32), r_f_R_sums v0 a1 = some R → Ct zMX12_sums (e + 2) 0 0 0 [.ref 0, .int a1] ([kR 0 v0] : List (List zE)).flatten (fun v cc => v = none ∧ cc = ([kR 0 (R_s_at_fault_op_arg_codes v0 R.1 R.2.1 R.2.2.1 R.2.2.2.1 R.2.2.2.2)] : List (List zE)).flatten)) (hr_f_R_test : ∀ (v0 : VR) (a1 : Int32) (R : Int32 × Int32 × (Nat → Int32) × (Nat → Int32) × Int32), r_f_R_test v0 a1 = some R → Ct zMX12_test (e + 2) 0 0 0 [.ref 0, .int a1] ([kR 0 v0] : List (List zE)).flatten (fun v cc => v = none ∧ cc = ([kR 0 (R_s_at_fault_op_arg_codes v0 R.1 R.2.1 R.2.2.1 R.2.2.2.1 R.2.2.2.2)] : List (List zE)).flatten)) (hr_f_R_all : ∀ (v0 : VR) (a1 : Int32) (R : Int32 × Int32 × (Nat → Int32) × (Nat → Int32) × Int32), r_f_R_all v0 a1 = some R → Ct zMX12_all (e + 2) 0 0 0 [.ref 0, .int a1] ([kR 0 v0] : List (List zE)).flatten (fun v cc => v = none ∧ cc = ([kR 0 (R_s_at_fault_op_arg_codes v0 R.1 R.2.1 R.2.2.1 R.2.2.2.1 R.2.2.2.2)] : List (List zE)).flatten)) (N : Nat) (v0 : VR) (a1 : Int32) (R : Int32 × Int32 × (Nat → Int32) × (Nat → Int32) × Int32) (hf : f_R_sums_b r_f_R_takePart r_f_R_products r_f_R_sums r_f_R_test r_f_R_all N v0 a1 = some R) : Ct zMX12_sums (e + 3) 0 0 0 [.ref 0, .int a1] ([kR 0 v0] : List (List zE)).flatten (fun v cc => v = none ∧ cc = ([kR 0 (R_s_at_fault_op_arg_codes v0 R.1 R.2.1 R.2.2.1 R.2.2.2.1 R.2.2.2.2)] : List (List zE)).flatten) := by
  refine Ct.of zMX12_sums_ok (by omega) (Nat.le_of_ble_eq_true rfl) ?_
  intro Z hZ hR hN hE
  have hRm : zRoom Z 0 0 := zRoom0 Z
  unfold f_R_sums_b at hf
  show AW Z 0 0 0 [some (.ref 0), some (.int a1), none] [] ([kR 0 v0] : List (List zE)).flatten
  refine AW.run hZ hRm [2] 400 ?_
  show AW Z 0 0 2 [some (.ref 0), some (.int a1), none] [.int a1, .ref 0] ([kR 0 v0] : List (List zE)).flatten
  obtain ⟨q1, h26, hf⟩ := zbind hf
  refine AW.callVc hZ hR hN (hr_f_R_products v0 a1 q1 h26) zMX12_products_ok rfl rfl zK_BorrowedLivesModel_282 zV_X12_products rfl [25] [0] [0, 1, 2, 3, 4, 5, 6, 7, 8, 9, 10, 11, 12, 13, 14, 15, 16, 17, 18, 19, 20, 21, 22, 23, 24] rfl rfl rfl (by decide) (by decide) (by omega) (by decide) (Nat.zero_le _) (Nat.zero_le _) rfl rfl rfl rfl rfl ?_
  rintro v cc ⟨rfl, rfl⟩
  refine ⟨_, rfl, rfl, ?_⟩
  show AW Z 0 0 5 [some (.ref 0), some (.int a1), none] [] ([kR 0 (R_s_at_fault_op_arg_codes v0 q1.1 q1.2.1 q1.2.2.1 q1.2.2.2.1 q1.2.2.2.2)] : List (List zE)).flatten
  obtain ⟨q24, h25, hf⟩ := zbind hf
  refine c_R_sums_L5 hZ hR (by omega) hN hRm hr_f_R_takePart hr_f_R_products hr_f_R_sums hr_f_R_test hr_f_R_all N N (R_s_at_fault_op_arg_codes v0 q1.1 q1.2.1 q1.2.2.1 q1.2.2.2.1 q1.2.2.2.2) a1 q1.1 q1.2.1 q1.2.2.1 q1.2.2.2.1 q1.2.2.2.2 q24 h25 ?_
  show AW Z 0 0 62 [none, none, none] [] ([kR 0 (R_s_at_fault_op_arg_codes v0 q24.1 q24.2.1 q24.2.2.1 q24.2.2.2.1 q24.2.2.2.2)] : List (List zE)).flatten
  cases hf
  exact AW.vret hZ hE rfl rfl rfl (Nat.le_refl 0) (Nat.le_refl 0) rfl ⟨rfl, rfl⟩
set_option maxRecDepth 20000 in
set_option maxHeartbeats 4000000 in
theorem c_R_test_b {r_f_R_takePart : (VR → Int32 → Option (Int32 × Int32 × (Nat → Int32) × (Nat → Int32) × Int32))} {r_f_R_products : (VR → Int32 → Option (Int32 × Int32 × (Nat → Int32) × (Nat → Int32) × Int32))} {r_f_R_sums : (VR → Int32 → Option (Int32 × Int32 × (Nat → Int32) × (Nat → Int32) × Int32))} {r_f_R_test : (VR → Int32 → Option (Int32 × Int32 × (Nat → Int32) × (Nat → Int32) × Int32))} {r_f_R_all : (VR → Int32 → Option (Int32 × Int32 × (Nat → Int32) × (Nat → Int32) × Int32))} {e : Nat} (hr_f_R_takePart : ∀ (v0 : VR) (a1 : Int32) (R : Int32 × Int32 × (Nat → Int32) × (Nat → Int32) × Int32), r_f_R_takePart v0 a1 = some R → Ct zMX12_takePart (e + 2) 0 0 0 [.ref 0, .int a1] ([kR 0 v0] : List (List zE)).flatten (fun v cc => v = none ∧ cc = ([kR 0 (R_s_at_fault_op_arg_codes v0 R.1 R.2.1 R.2.2.1 R.2.2.2.1 R.2.2.2.2)] : List (List zE)).flatten)) (hr_f_R_products : ∀ (v0 : VR) (a1 : Int32) (R : Int32 × Int32 × (Nat → Int32) × (Nat → Int32) × Int32), r_f_R_products v0 a1 = some R → Ct zMX12_products (e + 2) 0 0 0 [.ref 0, .int a1] ([kR 0 v0] : List (List zE)).flatten (fun v cc => v = none ∧ cc = ([kR 0 (R_s_at_fault_op_arg_codes v0 R.1 R.2.1 R.2.2.1 R.2.2.2.1 R.2.2.2.2)] : List (List zE)).flatten)) (hr_f_R_sums : ∀ (v0 : VR) (a1 : Int32) (R : Int32 × Int32 × (Nat → Int32) × (Nat → Int32) × Int32), r_f_R_sums v0 a1 = some R → Ct zMX12_sums (e + 2) 0 0 0 [.ref 0, .int a1] ([kR 0 v0] : List (List zE)).flatten (fun v cc => v = none ∧ cc = ([kR 0 (R_s_at_fault_op_arg_codes v0 R.1 R.2.1 R.2.2.1 R.2.2.2.1 R.2.2.2.2)] : List (List zE)).flatten)) (hr_f_R_test : ∀ (v0 : VR) (a1 : Int32) (R : Int32 × Int32 × (Nat → Int32) × (Nat → Int32) × Int32), r_f_R_test v0 a1 = some R → Ct zMX12_test (e + 2) 0 0 0 [.ref 0, .int a1] ([kR 0 v0] : List (List zE)).flatten (fun v cc => v = none ∧ cc = ([kR 0 (R_s_at_fault_op_arg_codes v0 R.1 R.2.1 R.2.2.1 R.2.2.2.1 R.2.2.2.2)] : List (List zE)).flatten)) (hr_f_R_all : ∀ (v0 : VR) (a1 : Int32) (R : Int32 × Int32 × (Nat → Int32) × (Nat → Int32) × Int32), r_f_R_all v0 a1 = some R → Ct zMX12_all (e + 2) 0 0 0 [.ref 0, .int a1] ([kR 0 v0] : List (List zE)).flatten (fun v cc => v = none ∧ cc = ([kR 0 (R_s_at_fault_op_arg_codes v0 R.1 R.2.1 R.2.2.1 R.2.2.2.1 R.2.2.2.2)] : List (List zE)).flatten)) (N : Nat) (v0 : VR) (a1 : Int32) (R : Int32 × Int32 × (Nat → Int32) × (Nat → Int32) × Int32) (hf : f_R_test_b r_f_R_takePart r_f_R_products r_f_R_sums r_f_R_test r_f_R_all N v0 a1 = some R) : Ct zMX12_test (e + 3) 0 0 0 [.ref 0, .int a1] ([kR 0 v0] : List (List zE)).flatten (fun v cc => v = none ∧ cc = ([kR 0 (R_s_at_fault_op_arg_codes v0 R.1 R.2.1 R.2.2.1 R.2.2.2.1 R.2.2.2.2)] : List (List zE)).flatten) := by
  refine Ct.of zMX12_test_ok (by omega) (Nat.le_of_ble_eq_true rfl) ?_
  intro Z hZ hR hN hE
  have hRm : zRoom Z 0 0 := zRoom0 Z
  unfold f_R_test_b at hf
  show AW Z 0 0 0 [some (.ref 0), some (.int a1), none] [] ([kR 0 v0] : List (List zE)).flatten
  refine AW.run hZ hRm [2] 400 ?_
  show AW Z 0 0 2 [some (.ref 0), some (.int a1), none] [.int a1, .ref 0] ([kR 0 v0] : List (List zE)).flatten
  obtain ⟨q1, h22, hf⟩ := zbind hf
  refine AW.callVc hZ hR hN (hr_f_R_sums v0 a1 q1 h22) zMX12_sums_ok rfl rfl zK_BorrowedLivesModel_276 zV_X12_sums rfl [25] [0] [0, 1, 2, 3, 4, 5, 6, 7, 8, 9, 10, 11, 12, 13, 14, 15, 16, 17, 18, 19, 20, 21, 22, 23, 24] rfl rfl rfl (by decide) (by decide) (by omega) (by decide) (Nat.zero_le _) (Nat.zero_le _) rfl rfl rfl rfl rfl ?_
  rintro v cc ⟨rfl, rfl⟩
  refine ⟨_, rfl, rfl, ?_⟩
  show AW Z 0 0 5 [some (.ref 0), some (.int a1), none] [] ([kR 0 (R_s_at_fault_op_arg_codes v0 q1.1 q1.2.1 q1.2.2.1 q1.2.2.2.1 q1.2.2.2.2)] : List (List zE)).flatten
  refine AW.run hZ hRm [8] 400 ?_
  show AW Z 0 0 8 [some (.ref 0), some (.int a1), none] [.int 60, .ref 0] ([kR 0 (R_s_at_fault_op_arg_codes v0 q1.1 q1.2.1 q1.2.2.1 q1.2.2.2.1 q1.2.2.2.2)] : List (List zE)).flatten
  obtain ⟨q2, h21, hf⟩ := zbind hf
  refine AW.callVc hZ hR hN (c_R_isSign N (R_s_at_fault_op_arg_codes v0 q1.1 q1.2.1 q1.2.2.1 q1.2.2.2.1 q1.2.2.2.2) 60 q2 h21) zMX12_isSign_ok rfl rfl zK_BorrowedLivesModel_185 zV_X12_isSign rfl [25] [0] [0, 1, 2, 3, 4, 5, 6, 7, 8, 9, 10, 11, 12, 13, 14, 15, 16, 17, 18, 19, 20, 21, 22, 23, 24] rfl rfl rfl (by decide) (by decide) (by omega) (by decide) (Nat.zero_le _) (Nat.zero_le _) rfl rfl rfl rfl rfl ?_
  rintro v cc ⟨rfl, rfl⟩
  refine ⟨_, rfl, rfl, ?_⟩
  show AW Z 0 0 11 [some (.ref 0), some (.int a1), none] [.int q2] ([kR 0 (R_s_at_fault_op_arg_codes v0 q1.1 q1.2.1 q1.2.2.1 q1.2.2.2.1 q1.2.2.2.2)] : List (List zE)).flatten
  refine AW.run hZ hRm [15] 400 ?_
  show AW Z 0 0 15 [some (.ref 0), some (.int a1), some (.int q2)] [.int 60, .ref 0] ([kR 0 (R_s_at_fault_op_arg_codes v0 q1.1 q1.2.1 q1.2.2.1 q1.2.2.2.1 q1.2.2.2.2)] : List (List zE)).flatten
  obtain ⟨q3, h20, hf⟩ := zbind hf
  refine AW.callVc hZ hR hN (c_R_hasSign N (R_s_at_fault_op_arg_codes v0 q1.1 q1.2.1 q1.2.2.1 q1.2.2.2.1 q1.2.2.2.2) 60 q3 h20) zMX12_hasSign_ok rfl rfl zK_BorrowedLivesModel_279 zV_X12_hasSign rfl [25] [0] [0, 1, 2, 3, 4, 5, 6, 7, 8, 9, 10, 11, 12, 13, 14, 15, 16, 17, 18, 19, 20, 21, 22, 23, 24] rfl rfl rfl (by decide) (by decide) (by omega) (by decide) (Nat.zero_le _) (Nat.zero_le _) rfl rfl rfl rfl rfl ?_
  rintro v cc ⟨rfl, rfl⟩
  refine ⟨_, rfl, rfl, ?_⟩
  show AW Z 0 0 18 [some (.ref 0), some (.int a1), some (.int q2)] [.int q3.1] ([kR 0 (R_s_at_fault_op_arg_codes v0 q3.2 q1.2.1 q1.2.2.1 q1.2.2.2.1 q1.2.2.2.2)] : List (List zE)).flatten
  refine AW.run hZ hRm [24, 32] 400 ?_
  show ((¬ (q3.1 = 0) → AW Z 0 0 32 [some (.ref 0), some (.int a1), some (.int q2)] [.int a1, .ref 0] ([kR 0 (R_s_at_fault_op_arg_codes v0 q3.2 q1.2.1 q1.2.2.1 q1.2.2.2.1 q1.2.2.2.2)] : List (List zE)).flatten) ∧ ((q3.1 = 0) → AW Z 0 0 24 [some (.ref 0), some (.int a1), some (.int q2)] [.int 61, .ref 0] ([kR 0 (R_s_at_fault_op_arg_codes v0 q3.2 q1.2.1 q1.2.2.1 q1.2.2.2.1 q1.2.2.2.2)] : List (List zE)).flatten))
  refine ⟨fun c4 => ?_, fun c4 => ?_⟩
  · rw [if_neg c4] at hf
    obtain ⟨q5, h10, hf⟩ := zbind hf
    refine AW.callVc hZ hR hN (hr_f_R_sums (R_s_at_fault_op_arg_codes v0 q3.2 q1.2.1 q1.2.2.1 q1.2.2.2.1 q1.2.2.2.2) a1 q5 h10) zMX12_sums_ok rfl rfl zK_BorrowedLivesModel_276 zV_X12_sums rfl [25] [0] [0, 1, 2, 3, 4, 5, 6, 7, 8, 9, 10, 11, 12, 13, 14, 15, 16, 17, 18, 19, 20, 21, 22, 23, 24] rfl rfl rfl (by decide) (by decide) (by omega) (by decide) (Nat.zero_le _) (Nat.zero_le _) rfl rfl rfl rfl rfl ?_
    rintro v cc ⟨rfl, rfl⟩
    refine ⟨_, rfl, rfl, ?_⟩
    show AW Z 0 0 35 [some (.ref 0), some (.int a1), some (.int q2)] [] ([kR 0 (R_s_at_fault_op_arg_codes v0 q5.1 q5.2.1 q5.2.2.1 q5.2.2.2.1 q5.2.2.2.2)] : List (List zE)).flatten
    refine AW.run hZ hRm [37] 400 ?_
    show AW Z 0 0 37 [some (.ref 0), some (.int a1), some (.int q2)] [.int q2, .ref 0] ([kR 0 (R_s_at_fault_op_arg_codes v0 q5.1 q5.2.1 q5.2.2.1 q5.2.2.2.1 q5.2.2.2.2)] : List (List zE)).flatten
    suffices H6 : AW Z 0 0 47 [none, none, none] [.int (if (q2 = 0) then 8 else 7), .ref 0] ([kR 0 (R_s_at_fault_op_arg_codes v0 q5.1 q5.2.1 q5.2.2.1 q5.2.2.2.1 q5.2.2.2.2)] : List (List zE)).flatten from by
      refine AW.run hZ hRm [47] 400 ?_
      show (((q2 = 0) → AW Z 0 0 47 [some (.ref 0), some (.int a1), some (.int q2)] [.int 8, .ref 0] ([kR 0 (R_s_at_fault_op_arg_codes v0 q5.1 q5.2.1 q5.2.2.1 q5.2.2.2.1 q5.2.2.2.2)] : List (List zE)).flatten) ∧ (¬ (q2 = 0) → AW Z 0 0 47 [some (.ref 0), some (.int a1), some (.int q2)] [.int 7, .ref 0] ([kR 0 (R_s_at_fault_op_arg_codes v0 q5.1 q5.2.1 q5.2.2.1 q5.2.2.2.1 q5.2.2.2.2)] : List (List zE)).flatten))
      refine ⟨fun c7 => ?_, fun c7 => ?_⟩
      · refine AW.forget [false, false, false] ?_
        show AW Z 0 0 47 [none, none, none] [.int 8, .ref 0] ([kR 0 (R_s_at_fault_op_arg_codes v0 q5.1 q5.2.1 q5.2.2.1 q5.2.2.2.1 q5.2.2.2.2)] : List (List zE)).flatten
        simpa only [if_pos c7] using H6
      · refine AW.forget [false, false, false] ?_
        show AW Z 0 0 47 [none, none, none] [.int 7, .ref 0] ([kR 0 (R_s_at_fault_op_arg_codes v0 q5.1 q5.2.1 q5.2.2.1 q5.2.2.2.1 q5.2.2.2.2)] : List (List zE)).flatten
        simpa only [if_neg c7] using H6
    refine AW.run hZ hRm [48] 400 ?_
    show AW Z 0 0 48 [none, none, none] [.int 0, .int (if (q2 = 0) then 8 else 7), .ref 0] ([kR 0 (R_s_at_fault_op_arg_codes v0 q5.1 q5.2.1 q5.2.2.1 q5.2.2.2.1 q5.2.2.2.2)] : List (List zE)).flatten
    obtain ⟨q8, h9, hf⟩ := zbind hf
    refine AW.callVc hZ hR hN (c_R_emit N (R_s_at_fault_op_arg_codes v0 q5.1 q5.2.1 q5.2.2.1 q5.2.2.2.1 q5.2.2.2.2) (if (q2 = 0) then 8 else 7) 0 q8 h9) zMX12_emit_ok rfl rfl zK_BorrowedLivesModel_262 zV_X12_emit rfl [25] [0] [0, 1, 2, 3, 4, 5, 6, 7, 8, 9, 10, 11, 12, 13, 14, 15, 16, 17, 18, 19, 20, 21, 22, 23, 24] rfl rfl rfl (by decide) (by decide) (by omega) (by decide) (Nat.zero_le _) (Nat.zero_le _) rfl rfl rfl rfl rfl ?_
    rintro v cc ⟨rfl, rfl⟩
    refine ⟨_, rfl, rfl, ?_⟩
    show AW Z 0 0 51 [none, none, none] [] ([kR 0 (R_s_at_fault_op_arg_codes v0 q5.1 q5.2.1 q8.1 q8.2.1 q8.2.2)] : List (List zE)).flatten
    cases hf
    exact AW.vret hZ hE rfl rfl rfl (Nat.le_refl 0) (Nat.le_refl 0) rfl ⟨rfl, rfl⟩
  · rw [if_pos c4] at hf
    obtain ⟨q11, h19, hf⟩ := zbind hf
    refine AW.callVc hZ hR hN (c_R_hasSign N (R_s_at_fault_op_arg_codes v0 q3.2 q1.2.1 q1.2.2.1 q1.2.2.2.1 q1.2.2.2.2) 61 q11 h19) zMX12_hasSign_ok rfl rfl zK_BorrowedLivesModel_279 zV_X12_hasSign rfl [25] [0] [0, 1, 2, 3, 4, 5, 6, 7, 8, 9, 10, 11, 12, 13, 14, 15, 16, 17, 18, 19, 20, 21, 22, 23, 24] rfl rfl rfl (by decide) (by decide) (by omega) (by decide) (Nat.zero_le _) (Nat.zero_le _) rfl rfl rfl rfl rfl ?_
    rintro v cc ⟨rfl, rfl⟩
    refine ⟨_, rfl, rfl, ?_⟩
    show AW Z 0 0 27 [some (.ref 0), some (.int a1), some (.int q2)] [.int q11.1] ([kR 0 (R_s_at_fault_op_arg_codes v0 q11.2 q1.2.1 q1.2.2.1 q1.2.2.2.1 q1.2.2.2.2)] : List (List zE)).flatten
    refine AW.run hZ hRm [32, 51] 400 ?_
    show (((q11.1 = 0) → AW Z 0 0 51 [some (.ref 0), some (.int a1), some (.int q2)] [] ([kR 0 (R_s_at_fault_op_arg_codes v0 q11.2 q1.2.1 q1.2.2.1 q1.2.2.2.1 q1.2.2.2.2)] : List (List zE)).flatten) ∧ (¬ (q11.1 = 0) → AW Z 0 0 32 [some (.ref 0), some (.int a1), some (.int q2)] [.int a1, .ref 0] ([kR 0 (R_s_at_fault_op_arg_codes v0 q11.2 q1.2.1 q1.2.2.1 q1.2.2.2.1 q1.2.2.2.2)] : List (List zE)).flatten))
    refine ⟨fun c12 => ?_, fun c12 => ?_⟩
    · rw [if_pos c12] at hf
      cases hf
      exact AW.vret hZ hE rfl rfl rfl (Nat.le_refl 0) (Nat.le_refl 0) rfl ⟨rfl, rfl⟩
    · rw [if_neg c12] at hf
      obtain ⟨q13, h18, hf⟩ := zbind hf
      refine AW.callVc hZ hR hN (hr_f_R_sums (R_s_at_fault_op_arg_codes v0 q11.2 q1.2.1 q1.2.2.1 q1.2.2.2.1 q1.2.2.2.2) a1 q13 h18) zMX12_sums_ok rfl rfl zK_BorrowedLivesModel_276 zV_X12_sums rfl [25] [0] [0, 1, 2, 3, 4, 5, 6, 7, 8, 9, 10, 11, 12, 13, 14, 15, 16, 17, 18, 19, 20, 21, 22, 23, 24] rfl rfl rfl (by decide) (by decide) (by omega) (by decide) (Nat.zero_le _) (Nat.zero_le _) rfl rfl rfl rfl rfl ?_
      rintro v cc ⟨rfl, rfl⟩
      refine ⟨_, rfl, rfl, ?_⟩
      show AW Z 0 0 35 [some (.ref 0), some (.int a1), some (.int q2)] [] ([kR 0 (R_s_at_fault_op_arg_codes v0 q13.1 q13.2.1 q13.2.2.1 q13.2.2.2.1 q13.2.2.2.2)] : List (List zE)).flatten
      refine AW.run hZ hRm [37] 400 ?_
      show AW Z 0 0 37 [some (.ref 0), some (.int a1), some (.int q2)] [.int q2, .ref 0] ([kR 0 (R_s_at_fault_op_arg_codes v0 q13.1 q13.2.1 q13.2.2.1 q13.2.2.2.1 q13.2.2.2.2)] : List (List zE)).flatten
      suffices H14 : AW Z 0 0 47 [none, none, none] [.int (if (q2 = 0) then 8 else 7), .ref 0] ([kR 0 (R_s_at_fault_op_arg_codes v0 q13.1 q13.2.1 q13.2.2.1 q13.2.2.2.1 q13.2.2.2.2)] : List (List zE)).flatten from by
        refine AW.run hZ hRm [47] 400 ?_
        show (((q2 = 0) → AW Z 0 0 47 [some (.ref 0), some (.int a1), some (.int q2)] [.int 8, .ref 0] ([kR 0 (R_s_at_fault_op_arg_codes v0 q13.1 q13.2.1 q13.2.2.1 q13.2.2.2.1 q13.2.2.2.2)] : List (List zE)).flatten) ∧ (¬ (q2 = 0) → AW Z 0 0 47 [some (.ref 0), some (.int a1), some (.int q2)] [.int 7, .ref 0] ([kR 0 (R_s_at_fault_op_arg_codes v0 q13.1 q13.2.1 q13.2.2.1 q13.2.2.2.1 q13.2.2.2.2)] : List (List zE)).flatten))
        refine ⟨fun c15 => ?_, fun c15 => ?_⟩
        · refine AW.forget [false, false, false] ?_
          show AW Z 0 0 47 [none, none, none] [.int 8, .ref 0] ([kR 0 (R_s_at_fault_op_arg_codes v0 q13.1 q13.2.1 q13.2.2.1 q13.2.2.2.1 q13.2.2.2.2)] : List (List zE)).flatten
          simpa only [if_pos c15] using H14
        · refine AW.forget [false, false, false] ?_
          show AW Z 0 0 47 [none, none, none] [.int 7, .ref 0] ([kR 0 (R_s_at_fault_op_arg_codes v0 q13.1 q13.2.1 q13.2.2.1 q13.2.2.2.1 q13.2.2.2.2)] : List (List zE)).flatten
          simpa only [if_neg c15] using H14
      refine AW.run hZ hRm [48] 400 ?_
      show AW Z 0 0 48 [none, none, none] [.int 0, .int (if (q2 = 0) then 8 else 7), .ref 0] ([kR 0 (R_s_at_fault_op_arg_codes v0 q13.1 q13.2.1 q13.2.2.1 q13.2.2.2.1 q13.2.2.2.2)] : List (List zE)).flatten
      obtain ⟨q16, h17, hf⟩ := zbind hf
      refine AW.callVc hZ hR hN (c_R_emit N (R_s_at_fault_op_arg_codes v0 q13.1 q13.2.1 q13.2.2.1 q13.2.2.2.1 q13.2.2.2.2) (if (q2 = 0) then 8 else 7) 0 q16 h17) zMX12_emit_ok rfl rfl zK_BorrowedLivesModel_262 zV_X12_emit rfl [25] [0] [0, 1, 2, 3, 4, 5, 6, 7, 8, 9, 10, 11, 12, 13, 14, 15, 16, 17, 18, 19, 20, 21, 22, 23, 24] rfl rfl rfl (by decide) (by decide) (by omega) (by decide) (Nat.zero_le _) (Nat.zero_le _) rfl rfl rfl rfl rfl ?_
      rintro v cc ⟨rfl, rfl⟩
      refine ⟨_, rfl, rfl, ?_⟩
      show AW Z 0 0 51 [none, none, none] [] ([kR 0 (R_s_at_fault_op_arg_codes v0 q13.1 q13.2.1 q16.1 q16.2.1 q16.2.2)] : List (List zE)).flatten
      cases hf
      exact AW.vret hZ hE rfl rfl rfl (Nat.le_refl 0) (Nat.le_refl 0) rfl ⟨rfl, rfl⟩
set_option maxRecDepth 20000 in
set_option maxHeartbeats 4000000 in
theorem c_R_all_L5 {r_f_R_takePart : (VR → Int32 → Option (Int32 × Int32 × (Nat → Int32) × (Nat → Int32) × Int32))} {r_f_R_products : (VR → Int32 → Option (Int32 × Int32 × (Nat → Int32) × (Nat → Int32) × Int32))} {r_f_R_sums : (VR → Int32 → Option (Int32 × Int32 × (Nat → Int32) × (Nat → Int32) × Int32))} {r_f_R_test : (VR → Int32 → Option (Int32 × Int32 × (Nat → Int32) × (Nat → Int32) × Int32))} {r_f_R_all : (VR → Int32 → Option (Int32 × Int32 × (Nat → Int32) × (Nat → Int32) × Int32))} {e : Nat} {Z : zCtx} {D n0w nf mcw msw : Nat} (hZ : zOk Z zMX12_all) (hR : zCan Z D mcw msw) (hDd : e + 3 ≤ D) (hN : zNew Z n0w nf) (hRm : zRoom Z 0 0) (hr_f_R_takePart : ∀ (v0 : VR) (a1 : Int32) (R : Int32 × Int32 × (Nat → Int32) × (Nat → Int32) × Int32), r_f_R_takePart v0 a1 = some R → Ct zMX12_takePart (e + 2) 0 0 0 [.ref 0, .int a1] ([kR 0 v0] : List (List zE)).flatten (fun v cc => v = none ∧ cc = ([kR 0 (R_s_at_fault_op_arg_codes v0 R.1 R.2.1 R.2.2.1 R.2.2.2.1 R.2.2.2.2)] : List (List zE)).flatten)) (hr_f_R_products : ∀ (v0 : VR) (a1 : Int32) (R : Int32 × Int32 × (Nat → Int32) × (Nat → Int32) × Int32), r_f_R_products v0 a1 = some R → Ct zMX12_products (e + 2) 0 0 0 [.ref 0, .int a1] ([kR 0 v0] : List (List zE)).flatten (fun v cc => v = none ∧ cc = ([kR 0 (R_s_at_fault_op_arg_codes v0 R.1 R.2.1 R.2.2.1 R.2.2.2.1 R.2.2.2.2)] : List (List zE)).flatten)) (hr_f_R_sums : ∀ (v0 : VR) (a1 : Int32) (R : Int32 × Int32 × (Nat → Int32) × (Nat → Int32) × Int32), r_f_R_sums v0 a1 = some R → Ct zMX12_sums (e + 2) 0 0 0 [.ref 0, .int a1] ([kR 0 v0] : List (List zE)).flatten (fun v cc => v = none ∧ cc = ([kR 0 (R_s_at_fault_op_arg_codes v0 R.1 R.2.1 R.2.2.1 R.2.2.2.1 R.2.2.2.2)] : List (List zE)).flatten)) (hr_f_R_test : ∀ (v0 : VR) (a1 : Int32) (R : Int32 × Int32 × (Nat → Int32) × (Nat → Int32) × Int32), r_f_R_test v0 a1 = some R → Ct zMX12_test (e + 2) 0 0 0 [.ref 0, .int a1] ([kR 0 v0] : List (List zE)).flatten (fun v cc => v = none ∧ cc = ([kR 0 (R_s_at_fault_op_arg_codes v0 R.1 R.2.1 R.2.2.1 R.2.2.2.1 R.2.2.2.2)] : List (List zE)).flatten)) (hr_f_R_all : ∀ (v0 : VR) (a1 : Int32) (R : Int32 × Int32 × (Nat → Int32) × (Nat → Int32) × Int32), r_f_R_all v0 a1 = some R → Ct zMX12_all (e + 2) 0 0 0 [.ref 0, .int a1] ([kR 0 v0] : List (List zE)).flatten (fun v cc => v = none ∧ cc = ([kR 0 (R_s_at_fault_op_arg_codes v0 R.1 R.2.1 R.2.2.1 R.2.2.2.1 R.2.2.2.2)] : List (List zE)).flatten)) (N : Nat) : ∀ (fuel : Nat) (v0 : VR) (y1 : Int32) (m_at0 : Int32) (m_fault1 : Int32) (m_op2 : (Nat → Int32)) (m_arg3 : (Nat → Int32)) (m_codes4 : Int32) (q : (Int32 × Int32 × (Nat → Int32) × (Nat → Int32) × Int32)), f_R_all_L5 r_f_R_takePart r_f_R_products r_f_R_sums r_f_R_test r_f_R_all N fuel v0 y1 m_at0 m_fault1 m_op2 m_arg3 m_codes4 = some q → (AW Z 0 0 64 [none, none, none] [] ([kR 0 (R_s_at_fault_op_arg_codes v0 q.1 q.2.1 q.2.2.1 q.2.2.2.1 q.2.2.2.2)] : List (List zE)).flatten) → AW Z 0 0 5 [some (.ref 0), some (.int y1), none] [] ([kR 0 (R_s_at_fault_op_arg_codes v0 m_at0 m_fault1 m_op2 m_arg3 m_codes4)] : List (List zE)).flatten := by
  intro fuel
  induction fuel with
  | zero =>
    intro v0 y1 m_at0 m_fault1 m_op2 m_arg3 m_codes4 q hf hk0
    simp [f_R_all_L5] at hf
  | succ fuel ih =>
    intro v0 y1 m_at0 m_fault1 m_op2 m_arg3 m_codes4 q hf hk0
    rw [f_R_all_L5] at hf
    refine AW.run hZ hRm [8] 400 ?_
    show AW Z 0 0 8 [some (.ref 0), some (.int y1), none] [.int 20, .ref 0] ([kR 0 (R_s_at_fault_op_arg_codes v0 m_at0 m_fault1 m_op2 m_arg3 m_codes4)] : List (List zE)).flatten
    obtain ⟨q2, h23, hf⟩ := zbind hf
    refine AW.callVc hZ hR hN (c_R_isWord N (R_s_at_fault_op_arg_codes v0 m_at0 m_fault1 m_op2 m_arg3 m_codes4) 20 q2 h23) zMX12_isWord_ok rfl rfl zK_BorrowedLivesModel_191 zV_X12_isWord rfl [25] [0] [0, 1, 2, 3, 4, 5, 6, 7, 8, 9, 10, 11, 12, 13, 14, 15, 16, 17, 18, 19, 20, 21, 22, 23, 24] rfl rfl rfl (by decide) (by decide) (by omega) (by decide) (Nat.zero_le _) (Nat.zero_le _) rfl rfl rfl rfl rfl ?_
    rintro v cc ⟨rfl, rfl⟩
    refine ⟨_, rfl, rfl, ?_⟩
    show AW Z 0 0 11 [some (.ref 0), some (.int y1), none] [.int q2] ([kR 0 (R_s_at_fault_op_arg_codes v0 m_at0 m_fault1 m_op2 m_arg3 m_codes4)] : List (List zE)).flatten
    refine AW.run hZ hRm [17, 26] 400 ?_
    show ((¬ (q2 = 0) → AW Z 0 0 26 [some (.ref 0), some (.int y1), none] [.int 20, .ref 0] ([kR 0 (R_s_at_fault_op_arg_codes v0 m_at0 m_fault1 m_op2 m_arg3 m_codes4)] : List (List zE)).flatten) ∧ ((q2 = 0) → AW Z 0 0 17 [some (.ref 0), some (.int y1), none] [.int 21, .ref 0] ([kR 0 (R_s_at_fault_op_arg_codes v0 m_at0 m_fault1 m_op2 m_arg3 m_codes4)] : List (List zE)).flatten))
    refine ⟨fun c3 => ?_, fun c3 => ?_⟩
    · rw [if_neg c3] at hf
      obtain ⟨q4, h11, hf⟩ := zbind hf
      refine AW.callVc hZ hR hN (c_R_isWord N (R_s_at_fault_op_arg_codes v0 m_at0 m_fault1 m_op2 m_arg3 m_codes4) 20 q4 h11) zMX12_isWord_ok rfl rfl zK_BorrowedLivesModel_191 zV_X12_isWord rfl [25] [0] [0, 1, 2, 3, 4, 5, 6, 7, 8, 9, 10, 11, 12, 13, 14, 15, 16, 17, 18, 19, 20, 21, 22, 23, 24] rfl rfl rfl (by decide) (by decide) (by omega) (by decide) (Nat.zero_le _) (Nat.zero_le _) rfl rfl rfl rfl rfl ?_
      rintro v cc ⟨rfl, rfl⟩
      refine ⟨_, rfl, rfl, ?_⟩
      show AW Z 0 0 29 [some (.ref 0), some (.int y1), none] [.int q4] ([kR 0 (R_s_at_fault_op_arg_codes v0 m_at0 m_fault1 m_op2 m_arg3 m_codes4)] : List (List zE)).flatten
      refine AW.run hZ hRm [42] 400 ?_
      show AW Z 0 0 42 [some (.ref 0), some (.int y1), some (.int q4)] [.int y1, .ref 0] ([kR 0 (R_s_at_fault_op_arg_codes v0 (m_at0 + 1) m_fault1 m_op2 m_arg3 m_codes4)] : List (List zE)).flatten
      obtain ⟨q5, h10, hf⟩ := zbind hf
      refine AW.callVc hZ hR hN (hr_f_R_test (R_s_at_fault_op_arg_codes v0 (m_at0 + 1) m_fault1 m_op2 m_arg3 m_codes4) y1 q5 h10) zMX12_test_ok rfl rfl zK_BorrowedLivesModel_273 zV_X12_test rfl [25] [0] [0, 1, 2, 3, 4, 5, 6, 7, 8, 9, 10, 11, 12, 13, 14, 15, 16, 17, 18, 19, 20, 21, 22, 23, 24] rfl rfl rfl (by decide) (by decide) (by omega) (by decide) (Nat.zero_le _) (Nat.zero_le _) rfl rfl rfl rfl rfl ?_
      rintro v cc ⟨rfl, rfl⟩
      refine ⟨_, rfl, rfl, ?_⟩
      show AW Z 0 0 45 [some (.ref 0), some (.int y1), some (.int q4)] [] ([kR 0 (R_s_at_fault_op_arg_codes v0 q5.1 q5.2.1 q5.2.2.1 q5.2.2.2.1 q5.2.2.2.2)] : List (List zE)).flatten
      refine AW.run hZ hRm [47] 400 ?_
      show AW Z 0 0 47 [some (.ref 0), some (.int y1), some (.int q4)] [.int q4, .ref 0] ([kR 0 (R_s_at_fault_op_arg_codes v0 q5.1 q5.2.1 q5.2.2.1 q5.2.2.2.1 q5.2.2.2.2)] : List (List zE)).flatten
      suffices H6 : AW Z 0 0 57 [some (.ref 0), some (.int y1), none] [.int (if (q4 = 0) then 10 else 9), .ref 0] ([kR 0 (R_s_at_fault_op_arg_codes v0 q5.1 q5.2.1 q5.2.2.1 q5.2.2.2.1 q5.2.2.2.2)] : List (List zE)).flatten from by
        refine AW.run hZ hRm [57] 400 ?_
        show (((q4 = 0) → AW Z 0 0 57 [some (.ref 0), some (.int y1), some (.int q4)] [.int 10, .ref 0] ([kR 0 (R_s_at_fault_op_arg_codes v0 q5.1 q5.2.1 q5.2.2.1 q5.2.2.2.1 q5.2.2.2.2)] : List (List zE)).flatten) ∧ (¬ (q4 = 0) → AW Z 0 0 57 [some (.ref 0), some (.int y1), some (.int q4)] [.int 9, .ref 0] ([kR 0 (R_s_at_fault_op_arg_codes v0 q5.1 q5.2.1 q5.2.2.1 q5.2.2.2.1 q5.2.2.2.2)] : List (List zE)).flatten))
        refine ⟨fun c7 => ?_, fun c7 => ?_⟩
        · refine AW.forget [true, true, false] ?_
          show AW Z 0 0 57 [some (.ref 0), some (.int y1), none] [.int 10, .ref 0] ([kR 0 (R_s_at_fault_op_arg_codes v0 q5.1 q5.2.1 q5.2.2.1 q5.2.2.2.1 q5.2.2.2.2)] : List (List zE)).flatten
          simpa only [if_pos c7] using H6
        · refine AW.forget [true, true, false] ?_
          show AW Z 0 0 57 [some (.ref 0), some (.int y1), none] [.int 9, .ref 0] ([kR 0 (R_s_at_fault_op_arg_codes v0 q5.1 q5.2.1 q5.2.2.1 q5.2.2.2.1 q5.2.2.2.2)] : List (List zE)).flatten
          simpa only [if_neg c7] using H6
      refine AW.run hZ hRm [58] 400 ?_
      show AW Z 0 0 58 [some (.ref 0), some (.int y1), none] [.int 0, .int (if (q4 = 0) then 10 else 9), .ref 0] ([kR 0 (R_s_at_fault_op_arg_codes v0 q5.1 q5.2.1 q5.2.2.1 q5.2.2.2.1 q5.2.2.2.2)] : List (List zE)).flatten
      obtain ⟨q8, h9, hf⟩ := zbind hf
      refine AW.callVc hZ hR hN (c_R_emit N (R_s_at_fault_op_arg_codes v0 q5.1 q5.2.1 q5.2.2.1 q5.2.2.2.1 q5.2.2.2.2) (if (q4 = 0) then 10 else 9) 0 q8 h9) zMX12_emit_ok rfl rfl zK_BorrowedLivesModel_262 zV_X12_emit rfl [25] [0] [0, 1, 2, 3, 4, 5, 6, 7, 8, 9, 10, 11, 12, 13, 14, 15, 16, 17, 18, 19, 20, 21, 22, 23, 24] rfl rfl rfl (by decide) (by decide) (by omega) (by decide) (Nat.zero_le _) (Nat.zero_le _) rfl rfl rfl rfl rfl ?_
      rintro v cc ⟨rfl, rfl⟩
      refine ⟨_, rfl, rfl, ?_⟩
      show AW Z 0 0 61 [some (.ref 0), some (.int y1), none] [] ([kR 0 (R_s_at_fault_op_arg_codes v0 q5.1 q5.2.1 q8.1 q8.2.1 q8.2.2)] : List (List zE)).flatten
      refine AW.run hZ hRm [5] 400 ?_
      show AW Z 0 0 5 [some (.ref 0), some (.int y1), none] [] ([kR 0 (R_s_at_fault_op_arg_codes v0 q5.1 q5.2.1 q8.1 q8.2.1 q8.2.2)] : List (List zE)).flatten
      exact ih v0 y1 q5.1 q5.2.1 q8.1 q8.2.1 q8.2.2 q hf hk0
    · rw [if_pos c3] at hf
      obtain ⟨q12, h22, hf⟩ := zbind hf
      refine AW.callVc hZ hR hN (c_R_isWord N (R_s_at_fault_op_arg_codes v0 m_at0 m_fault1 m_op2 m_arg3 m_codes4) 21 q12 h22) zMX12_isWord_ok rfl rfl zK_BorrowedLivesModel_191 zV_X12_isWord rfl [25] [0] [0, 1, 2, 3, 4, 5, 6, 7, 8, 9, 10, 11, 12, 13, 14, 15, 16, 17, 18, 19, 20, 21, 22, 23, 24] rfl rfl rfl (by decide) (by decide) (by omega) (by decide) (Nat.zero_le _) (Nat.zero_le _) rfl rfl rfl rfl rfl ?_
      rintro v cc ⟨rfl, rfl⟩
      refine ⟨_, rfl, rfl, ?_⟩
      show AW Z 0 0 20 [some (.ref 0), some (.int y1), none] [.int q12] ([kR 0 (R_s_at_fault_op_arg_codes v0 m_at0 m_fault1 m_op2 m_arg3 m_codes4)] : List (List zE)).flatten
      refine AW.run hZ hRm [26, 64] 400 ?_
      show (((q12 = 0) → AW Z 0 0 64 [some (.ref 0), some (.int y1), none] [] ([kR 0 (R_s_at_fault_op_arg_codes v0 m_at0 m_fault1 m_op2 m_arg3 m_codes4)] : List (List zE)).flatten) ∧ (¬ (q12 = 0) → AW Z 0 0 26 [some (.ref 0), some (.int y1), none] [.int 20, .ref 0] ([kR 0 (R_s_at_fault_op_arg_codes v0 m_at0 m_fault1 m_op2 m_arg3 m_codes4)] : List (List zE)).flatten))
      refine ⟨fun c13 => ?_, fun c13 => ?_⟩
      · rw [if_pos c13] at hf
        cases hf
        refine AW.forget [false, false, false] ?_
        show AW Z 0 0 64 [none, none, none] [] ([kR 0 (R_s_at_fault_op_arg_codes v0 m_at0 m_fault1 m_op2 m_arg3 m_codes4)] : List (List zE)).flatten
        exact hk0
      · rw [if_neg c13] at hf
        obtain ⟨q14, h21, hf⟩ := zbind hf
        refine AW.callVc hZ hR hN (c_R_isWord N (R_s_at_fault_op_arg_codes v0 m_at0 m_fault1 m_op2 m_arg3 m_codes4) 20 q14 h21) zMX12_isWord_ok rfl rfl zK_BorrowedLivesModel_191 zV_X12_isWord rfl [25] [0] [0, 1, 2, 3, 4, 5, 6, 7, 8, 9, 10, 11, 12, 13, 14, 15, 16, 17, 18, 19, 20, 21, 22, 23, 24] rfl rfl rfl (by decide) (by decide) (by omega) (by decide) (Nat.zero_le _) (Nat.zero_le _) rfl rfl rfl rfl rfl ?_
        rintro v cc ⟨rfl, rfl⟩
        refine ⟨_, rfl, rfl, ?_⟩
        show AW Z 0 0 29 [some (.ref 0), some (.int y1), none] [.int q14] ([kR 0 (R_s_at_fault_op_arg_codes v0 m_at0 m_fault1 m_op2 m_arg3 m_codes4)] : List (List zE)).flatten
        refine AW.run hZ hRm [42] 400 ?_
        show AW Z 0 0 42 [some (.ref 0), some (.int y1), some (.int q14)] [.int y1, .ref 0] ([kR 0 (R_s_at_fault_op_arg_codes v0 (m_at0 + 1) m_fault1 m_op2 m_arg3 m_codes4)] : List (List zE)).flatten
        obtain ⟨q15, h20, hf⟩ := zbind hf
        refine AW.callVc hZ hR hN (hr_f_R_test (R_s_at_fault_op_arg_codes v0 (m_at0 + 1) m_fault1 m_op2 m_arg3 m_codes4) y1 q15 h20) zMX12_test_ok rfl rfl zK_BorrowedLivesModel_273 zV_X12_test rfl [25] [0] [0, 1, 2, 3, 4, 5, 6, 7, 8, 9, 10, 11, 12, 13, 14, 15, 16, 17, 18, 19, 20, 21, 22, 23, 24] rfl rfl rfl (by decide) (by decide) (by omega) (by decide) (Nat.zero_le _) (Nat.zero_le _) rfl rfl rfl rfl rfl ?_
        rintro v cc ⟨rfl, rfl⟩
        refine ⟨_, rfl, rfl, ?_⟩
        show AW Z 0 0 45 [some (.ref 0), some (.int y1), some (.int q14)] [] ([kR 0 (R_s_at_fault_op_arg_codes v0 q15.1 q15.2.1 q15.2.2.1 q15.2.2.2.1 q15.2.2.2.2)] : List (List zE)).flatten
        refine AW.run hZ hRm [47] 400 ?_
        show AW Z 0 0 47 [some (.ref 0), some (.int y1), some (.int q14)] [.int q14, .ref 0] ([kR 0 (R_s_at_fault_op_arg_codes v0 q15.1 q15.2.1 q15.2.2.1 q15.2.2.2.1 q15.2.2.2.2)] : List (List zE)).flatten
        suffices H16 : AW Z 0 0 57 [some (.ref 0), some (.int y1), none] [.int (if (q14 = 0) then 10 else 9), .ref 0] ([kR 0 (R_s_at_fault_op_arg_codes v0 q15.1 q15.2.1 q15.2.2.1 q15.2.2.2.1 q15.2.2.2.2)] : List (List zE)).flatten from by
          refine AW.run hZ hRm [57] 400 ?_
          show (((q14 = 0) → AW Z 0 0 57 [some (.ref 0), some (.int y1), some (.int q14)] [.int 10, .ref 0] ([kR 0 (R_s_at_fault_op_arg_codes v0 q15.1 q15.2.1 q15.2.2.1 q15.2.2.2.1 q15.2.2.2.2)] : List (List zE)).flatten) ∧ (¬ (q14 = 0) → AW Z 0 0 57 [some (.ref 0), some (.int y1), some (.int q14)] [.int 9, .ref 0] ([kR 0 (R_s_at_fault_op_arg_codes v0 q15.1 q15.2.1 q15.2.2.1 q15.2.2.2.1 q15.2.2.2.2)] : List (List zE)).flatten))
          refine ⟨fun c17 => ?_, fun c17 => ?_⟩
          · refine AW.forget [true, true, false] ?_
            show AW Z 0 0 57 [some (.ref 0), some (.int y1), none] [.int 10, .ref 0] ([kR 0 (R_s_at_fault_op_arg_codes v0 q15.1 q15.2.1 q15.2.2.1 q15.2.2.2.1 q15.2.2.2.2)] : List (List zE)).flatten
            simpa only [if_pos c17] using H16
          · refine AW.forget [true, true, false] ?_
            show AW Z 0 0 57 [some (.ref 0), some (.int y1), none] [.int 9, .ref 0] ([kR 0 (R_s_at_fault_op_arg_codes v0 q15.1 q15.2.1 q15.2.2.1 q15.2.2.2.1 q15.2.2.2.2)] : List (List zE)).flatten
            simpa only [if_neg c17] using H16
        refine AW.run hZ hRm [58] 400 ?_
        show AW Z 0 0 58 [some (.ref 0), some (.int y1), none] [.int 0, .int (if (q14 = 0) then 10 else 9), .ref 0] ([kR 0 (R_s_at_fault_op_arg_codes v0 q15.1 q15.2.1 q15.2.2.1 q15.2.2.2.1 q15.2.2.2.2)] : List (List zE)).flatten
        obtain ⟨q18, h19, hf⟩ := zbind hf
        refine AW.callVc hZ hR hN (c_R_emit N (R_s_at_fault_op_arg_codes v0 q15.1 q15.2.1 q15.2.2.1 q15.2.2.2.1 q15.2.2.2.2) (if (q14 = 0) then 10 else 9) 0 q18 h19) zMX12_emit_ok rfl rfl zK_BorrowedLivesModel_262 zV_X12_emit rfl [25] [0] [0, 1, 2, 3, 4, 5, 6, 7, 8, 9, 10, 11, 12, 13, 14, 15, 16, 17, 18, 19, 20, 21, 22, 23, 24] rfl rfl rfl (by decide) (by decide) (by omega) (by decide) (Nat.zero_le _) (Nat.zero_le _) rfl rfl rfl rfl rfl ?_
        rintro v cc ⟨rfl, rfl⟩
        refine ⟨_, rfl, rfl, ?_⟩
        show AW Z 0 0 61 [some (.ref 0), some (.int y1), none] [] ([kR 0 (R_s_at_fault_op_arg_codes v0 q15.1 q15.2.1 q18.1 q18.2.1 q18.2.2)] : List (List zE)).flatten
        refine AW.run hZ hRm [5] 400 ?_
        show AW Z 0 0 5 [some (.ref 0), some (.int y1), none] [] ([kR 0 (R_s_at_fault_op_arg_codes v0 q15.1 q15.2.1 q18.1 q18.2.1 q18.2.2)] : List (List zE)).flatten
        exact ih v0 y1 q15.1 q15.2.1 q18.1 q18.2.1 q18.2.2 q hf hk0
set_option maxRecDepth 20000 in
set_option maxHeartbeats 4000000 in
theorem c_R_all_b {r_f_R_takePart : (VR → Int32 → Option (Int32 × Int32 × (Nat → Int32) × (Nat → Int32) × Int32))} {r_f_R_products : (VR → Int32 → Option (Int32 × Int32 × (Nat → Int32) × (Nat → Int32) × Int32))} {r_f_R_sums : (VR → Int32 → Option (Int32 × Int32 × (Nat → Int32) × (Nat → Int32) × Int32))} {r_f_R_test : (VR → Int32 → Option (Int32 × Int32 × (Nat → Int32) × (Nat → Int32) × Int32))} {r_f_R_all : (VR → Int32 → Option (Int32 × Int32 × (Nat → Int32) × (Nat → Int32) × Int32))} {e : Nat} (hr_f_R_takePart : ∀ (v0 : VR) (a1 : Int32) (R : Int32 × Int32 × (Nat → Int32) × (Nat → Int32) × Int32), r_f_R_takePart v0 a1 = some R → Ct zMX12_takePart (e + 2) 0 0 0 [.ref 0, .int a1] ([kR 0 v0] : List (List zE)).flatten (fun v cc => v = none ∧ cc = ([kR 0 (R_s_at_fault_op_arg_codes v0 R.1 R.2.1 R.2.2.1 R.2.2.2.1 R.2.2.2.2)] : List (List zE)).flatten)) (hr_f_R_products : ∀ (v0 : VR) (a1 : Int32) (R : Int32 × Int32 × (Nat → Int32) × (Nat → Int32) × Int32), r_f_R_products v0 a1 = some R → Ct zMX12_products (e + 2) 0 0 0 [.ref 0, .int a1] ([kR 0 v0] : List (List zE)).flatten (fun v cc => v = none ∧ cc = ([kR 0 (R_s_at_fault_op_arg_codes v0 R.1 R.2.1 R.2.2.1 R.2.2.2.1 R.2.2.2.2)] : List (List zE)).flatten)) (hr_f_R_sums : ∀ (v0 : VR) (a1 : Int32) (R : Int32 × Int32 × (Nat → Int32) × (Nat → Int32) × Int32), r_f_R_sums v0 a1 = some R → Ct zMX12_sums (e + 2) 0 0 0 [.ref 0, .int a1] ([kR 0 v0] : List (List zE)).flatten (fun v cc => v = none ∧ cc = ([kR 0 (R_s_at_fault_op_arg_codes v0 R.1 R.2.1 R.2.2.1 R.2.2.2.1 R.2.2.2.2)] : List (List zE)).flatten)) (hr_f_R_test : ∀ (v0 : VR) (a1 : Int32) (R : Int32 × Int32 × (Nat → Int32) × (Nat → Int32) × Int32), r_f_R_test v0 a1 = some R → Ct zMX12_test (e + 2) 0 0 0 [.ref 0, .int a1] ([kR 0 v0] : List (List zE)).flatten (fun v cc => v = none ∧ cc = ([kR 0 (R_s_at_fault_op_arg_codes v0 R.1 R.2.1 R.2.2.1 R.2.2.2.1 R.2.2.2.2)] : List (List zE)).flatten)) (hr_f_R_all : ∀ (v0 : VR) (a1 : Int32) (R : Int32 × Int32 × (Nat → Int32) × (Nat → Int32) × Int32), r_f_R_all v0 a1 = some R → Ct zMX12_all (e + 2) 0 0 0 [.ref 0, .int a1] ([kR 0 v0] : List (List zE)).flatten (fun v cc => v = none ∧ cc = ([kR 0 (R_s_at_fault_op_arg_codes v0 R.1 R.2.1 R.2.2.1 R.2.2.2.1 R.2.2.2.2)] : List (List zE)).flatten)) (N : Nat) (v0 : VR) (a1 : Int32) (R : Int32 × Int32 × (Nat → Int32) × (Nat → Int32) × Int32) (hf : f_R_all_b r_f_R_takePart r_f_R_products r_f_R_sums r_f_R_test r_f_R_all N v0 a1 = some R) : Ct zMX12_all (e + 3) 0 0 0 [.ref 0, .int a1] ([kR 0 v0] : List (List zE)).flatten (fun v cc => v = none ∧ cc = ([kR 0 (R_s_at_fault_op_arg_codes v0 R.1 R.2.1 R.2.2.1 R.2.2.2.1 R.2.2.2.2)] : List (List zE)).flatten) := by
  refine Ct.of zMX12_all_ok (by omega) (Nat.le_of_ble_eq_true rfl) ?_
  intro Z hZ hR hN hE
  have hRm : zRoom Z 0 0 := zRoom0 Z
  unfold f_R_all_b at hf
  show AW Z 0 0 0 [some (.ref 0), some (.int a1), none] [] ([kR 0 v0] : List (List zE)).flatten
  refine AW.run hZ hRm [2] 400 ?_
  show AW Z 0 0 2 [some (.ref 0), some (.int a1), none] [.int a1, .ref 0] ([kR 0 v0] : List (List zE)).flatten
  obtain ⟨q1, h26, hf⟩ := zbind hf
  refine AW.callVc hZ hR hN (hr_f_R_test v0 a1 q1 h26) zMX12_test_ok rfl rfl zK_BorrowedLivesModel_273 zV_X12_test rfl [25] [0] [0, 1, 2, 3, 4, 5, 6, 7, 8, 9, 10, 11, 12, 13, 14, 15, 16, 17, 18, 19, 20, 21, 22, 23, 24] rfl rfl rfl (by decide) (by decide) (by omega) (by decide) (Nat.zero_le _) (Nat.zero_le _) rfl rfl rfl rfl rfl ?_
  rintro v cc ⟨rfl, rfl⟩
  refine ⟨_, rfl, rfl, ?_⟩
  show AW Z 0 0 5 [some (.ref 0), some (.int a1), none] [] ([kR 0 (R_s_at_fault_op_arg_codes v0 q1.1 q1.2.1 q1.2.2.1 q1.2.2.2.1 q1.2.2.2.2)] : List (List zE)).flatten
  obtain ⟨q24, h25, hf⟩ := zbind hf
  refine c_R_all_L5 hZ hR (by omega) hN hRm hr_f_R_takePart hr_f_R_products hr_f_R_sums hr_f_R_test hr_f_R_all N N (R_s_at_fault_op_arg_codes v0 q1.1 q1.2.1 q1.2.2.1 q1.2.2.2.1 q1.2.2.2.2) a1 q1.1 q1.2.1 q1.2.2.1 q1.2.2.2.1 q1.2.2.2.2 q24 h25 ?_
  show AW Z 0 0 64 [none, none, none] [] ([kR 0 (R_s_at_fault_op_arg_codes v0 q24.1 q24.2.1 q24.2.2.1 q24.2.2.2.1 q24.2.2.2.2)] : List (List zE)).flatten
  cases hf
  exact AW.vret hZ hE rfl rfl rfl (Nat.le_refl 0) (Nat.le_refl 0) rfl ⟨rfl, rfl⟩
set_option maxRecDepth 20000 in
set_option maxHeartbeats 4000000 in
theorem c_g_R_takePart_R_products_R_sums_R_test_R_all (N : Nat) : ∀ e : Nat, (∀ (v0 : VR) (a1 : Int32) (R : Int32 × Int32 × (Nat → Int32) × (Nat → Int32) × Int32), (g_R_takePart_R_products_R_sums_R_test_R_all N e).1 v0 a1 = some R → Ct zMX12_takePart (e + 2) 0 0 0 [.ref 0, .int a1] ([kR 0 v0] : List (List zE)).flatten (fun v cc => v = none ∧ cc = ([kR 0 (R_s_at_fault_op_arg_codes v0 R.1 R.2.1 R.2.2.1 R.2.2.2.1 R.2.2.2.2)] : List (List zE)).flatten)) ∧ (∀ (v0 : VR) (a1 : Int32) (R : Int32 × Int32 × (Nat → Int32) × (Nat → Int32) × Int32), (g_R_takePart_R_products_R_sums_R_test_R_all N e).2.1 v0 a1 = some R → Ct zMX12_products (e + 2) 0 0 0 [.ref 0, .int a1] ([kR 0 v0] : List (List zE)).flatten (fun v cc => v = none ∧ cc = ([kR 0 (R_s_at_fault_op_arg_codes v0 R.1 R.2.1 R.2.2.1 R.2.2.2.1 R.2.2.2.2)] : List (List zE)).flatten)) ∧ (∀ (v0 : VR) (a1 : Int32) (R : Int32 × Int32 × (Nat → Int32) × (Nat → Int32) × Int32), (g_R_takePart_R_products_R_sums_R_test_R_all N e).2.2.1 v0 a1 = some R → Ct zMX12_sums (e + 2) 0 0 0 [.ref 0, .int a1] ([kR 0 v0] : List (List zE)).flatten (fun v cc => v = none ∧ cc = ([kR 0 (R_s_at_fault_op_arg_codes v0 R.1 R.2.1 R.2.2.1 R.2.2.2.1 R.2.2.2.2)] : List (List zE)).flatten)) ∧ (∀ (v0 : VR) (a1 : Int32) (R : Int32 × Int32 × (Nat → Int32) × (Nat → Int32) × Int32), (g_R_takePart_R_products_R_sums_R_test_R_all N e).2.2.2.1 v0 a1 = some R → Ct zMX12_test (e + 2) 0 0 0 [.ref 0, .int a1] ([kR 0 v0] : List (List zE)).flatten (fun v cc => v = none ∧ cc = ([kR 0 (R_s_at_fault_op_arg_codes v0 R.1 R.2.1 R.2.2.1 R.2.2.2.1 R.2.2.2.2)] : List (List zE)).flatten)) ∧ (∀ (v0 : VR) (a1 : Int32) (R : Int32 × Int32 × (Nat → Int32) × (Nat → Int32) × Int32), (g_R_takePart_R_products_R_sums_R_test_R_all N e).2.2.2.2 v0 a1 = some R → Ct zMX12_all (e + 2) 0 0 0 [.ref 0, .int a1] ([kR 0 v0] : List (List zE)).flatten (fun v cc => v = none ∧ cc = ([kR 0 (R_s_at_fault_op_arg_codes v0 R.1 R.2.1 R.2.2.1 R.2.2.2.1 R.2.2.2.2)] : List (List zE)).flatten)) := by
  intro e
  induction e with
  | zero => exact ⟨(fun _ _ R h => by cases h), (fun _ _ R h => by cases h), (fun _ _ R h => by cases h), (fun _ _ R h => by cases h), (fun _ _ R h => by cases h)⟩
  | succ e ih =>
    exact ⟨(fun v0 a1 R h => by
      have h9 := c_R_takePart_b ih.1 ih.2.1 ih.2.2.1 ih.2.2.2.1 ih.2.2.2.2 N v0 a1 R h
      rw [show e + 1 + 2 = e + 3 by omega]
      exact h9), (fun v0 a1 R h => by
      have h9 := c_R_products_b ih.1 ih.2.1 ih.2.2.1 ih.2.2.2.1 ih.2.2.2.2 N v0 a1 R h
      rw [show e + 1 + 2 = e + 3 by omega]
      exact h9), (fun v0 a1 R h => by
      have h9 := c_R_sums_b ih.1 ih.2.1 ih.2.2.1 ih.2.2.2.1 ih.2.2.2.2 N v0 a1 R h
      rw [show e + 1 + 2 = e + 3 by omega]
      exact h9), (fun v0 a1 R h => by
      have h9 := c_R_test_b ih.1 ih.2.1 ih.2.2.1 ih.2.2.2.1 ih.2.2.2.2 N v0 a1 R h
      rw [show e + 1 + 2 = e + 3 by omega]
      exact h9), (fun v0 a1 R h => by
      have h9 := c_R_all_b ih.1 ih.2.1 ih.2.2.1 ih.2.2.2.1 ih.2.2.2.2 N v0 a1 R h
      rw [show e + 1 + 2 = e + 3 by omega]
      exact h9)⟩
set_option maxRecDepth 20000 in
set_option maxHeartbeats 4000000 in
theorem c_R_takePart (e N : Nat) (v0 : VR) (a1 : Int32) (R : Int32 × Int32 × (Nat → Int32) × (Nat → Int32) × Int32) (hf : f_R_takePart e N v0 a1 = some R) : Ct zMX12_takePart (e + 2) 0 0 0 [.ref 0, .int a1] ([kR 0 v0] : List (List zE)).flatten (fun v cc => v = none ∧ cc = ([kR 0 (R_s_at_fault_op_arg_codes v0 R.1 R.2.1 R.2.2.1 R.2.2.2.1 R.2.2.2.2)] : List (List zE)).flatten) := by
  exact (c_g_R_takePart_R_products_R_sums_R_test_R_all N e).1 v0 a1 R hf
set_option maxRecDepth 20000 in
set_option maxHeartbeats 4000000 in
theorem c_R_products (e N : Nat) (v0 : VR) (a1 : Int32) (R : Int32 × Int32 × (Nat → Int32) × (Nat → Int32) × Int32) (hf : f_R_products e N v0 a1 = some R) : Ct zMX12_products (e + 2) 0 0 0 [.ref 0, .int a1] ([kR 0 v0] : List (List zE)).flatten (fun v cc => v = none ∧ cc = ([kR 0 (R_s_at_fault_op_arg_codes v0 R.1 R.2.1 R.2.2.1 R.2.2.2.1 R.2.2.2.2)] : List (List zE)).flatten) := by
  exact (c_g_R_takePart_R_products_R_sums_R_test_R_all N e).2.1 v0 a1 R hf
set_option maxRecDepth 20000 in
set_option maxHeartbeats 4000000 in
theorem c_R_sums (e N : Nat) (v0 : VR) (a1 : Int32) (R : Int32 × Int32 × (Nat → Int32) × (Nat → Int32) × Int32) (hf : f_R_sums e N v0 a1 = some R) : Ct zMX12_sums (e + 2) 0 0 0 [.ref 0, .int a1] ([kR 0 v0] : List (List zE)).flatten (fun v cc => v = none ∧ cc = ([kR 0 (R_s_at_fault_op_arg_codes v0 R.1 R.2.1 R.2.2.1 R.2.2.2.1 R.2.2.2.2)] : List (List zE)).flatten) := by
  exact (c_g_R_takePart_R_products_R_sums_R_test_R_all N e).2.2.1 v0 a1 R hf
set_option maxRecDepth 20000 in
set_option maxHeartbeats 4000000 in
theorem c_R_test (e N : Nat) (v0 : VR) (a1 : Int32) (R : Int32 × Int32 × (Nat → Int32) × (Nat → Int32) × Int32) (hf : f_R_test e N v0 a1 = some R) : Ct zMX12_test (e + 2) 0 0 0 [.ref 0, .int a1] ([kR 0 v0] : List (List zE)).flatten (fun v cc => v = none ∧ cc = ([kR 0 (R_s_at_fault_op_arg_codes v0 R.1 R.2.1 R.2.2.1 R.2.2.2.1 R.2.2.2.2)] : List (List zE)).flatten) := by
  exact (c_g_R_takePart_R_products_R_sums_R_test_R_all N e).2.2.2.1 v0 a1 R hf
set_option maxRecDepth 20000 in
set_option maxHeartbeats 4000000 in
theorem c_R_all (e N : Nat) (v0 : VR) (a1 : Int32) (R : Int32 × Int32 × (Nat → Int32) × (Nat → Int32) × Int32) (hf : f_R_all e N v0 a1 = some R) : Ct zMX12_all (e + 2) 0 0 0 [.ref 0, .int a1] ([kR 0 v0] : List (List zE)).flatten (fun v cc => v = none ∧ cc = ([kR 0 (R_s_at_fault_op_arg_codes v0 R.1 R.2.1 R.2.2.1 R.2.2.2.1 R.2.2.2.2)] : List (List zE)).flatten) := by
  exact (c_g_R_takePart_R_products_R_sums_R_test_R_all N e).2.2.2.2 v0 a1 R hf
