/-! ===== the constructors ===== -/
theorem zK_BorrowedLives_9 : zLink "BorrowedLives" 9 ⟨"BorrowedLives$Tape", "<init>", "()V"⟩ := Or.inr (zInN_mem (k := 142) (by decide +kernel))
theorem zK_BorrowedLives_18 : zLink "BorrowedLives" 18 ⟨"BorrowedLives$Town", "<init>", "()V"⟩ := Or.inr (zInN_mem (k := 179) (by decide +kernel))
theorem zK_BorrowedLives_25 : zLink "BorrowedLives" 25 ⟨"BorrowedLives$TownReader", "<init>", "(LBorrowedLives$Tape;)V"⟩ := Or.inl (zIn_mem (k := 270) (by decide +kernel))
theorem zK_BorrowedLives_34 : zLink "BorrowedLives" 34 ⟨"BorrowedLives$Year", "<init>", "()V"⟩ := Or.inr (zInN_mem (k := 289) (by decide +kernel))
theorem zK_BorrowedLives_44 : zLink "BorrowedLives" 44 ⟨"BorrowedLives$Lots", "<init>", "()V"⟩ := Or.inr (zInN_mem (k := 309) (by decide +kernel))
theorem zK_BorrowedLives_51 : zLink "BorrowedLives" 51 ⟨"BorrowedLives$Lives", "<init>", "(LBorrowedLives$Town;)V"⟩ := Or.inl (zIn_mem (k := 331) (by decide +kernel))
theorem zK_BorrowedLives_74 : zLink "BorrowedLives" 74 ⟨"BorrowedLives$Tales", "<init>", "()V"⟩ := Or.inr (zInN_mem (k := 394) (by decide +kernel))
theorem zK_BorrowedLives_92 : zLink "BorrowedLives" 92 ⟨"BorrowedLives$Forecast", "<init>", "(LBorrowedLives$Town;LBorrowedLives$Lots;LBorrowedLives$Lives;)V"⟩ := Or.inl (zIn_mem (k := 419) (by decide +kernel))
theorem zK_BorrowedLives_101 : zLink "BorrowedLives" 101 ⟨"BorrowedLives$Deeds", "<init>", "()V"⟩ := Or.inr (zInN_mem (k := 479) (by decide +kernel))
theorem zK_BorrowedLives_108 : zLink "BorrowedLives" 108 ⟨"BorrowedLives$Pairs", "<init>", "()V"⟩ := Or.inr (zInN_mem (k := 493) (by decide +kernel))
theorem zK_BorrowedLives_Forecast_65 : zLink "BorrowedLives$Forecast" 65 ⟨"BorrowedLives$Lives", "<init>", "(LBorrowedLives$Town;)V"⟩ := Or.inl (zIn_mem (k := 424) (by decide +kernel))
theorem zK_BorrowedLives_Town_50 : zLink "BorrowedLives$Town" 50 ⟨"BorrowedLives$Laws", "<init>", "()V"⟩ := Or.inr (zInN_mem (k := 185) (by decide +kernel))
theorem zK_BorrowedLives_TownReader_11 : zLink "BorrowedLives$TownReader" 11 ⟨"BorrowedLives$Town", "<init>", "()V"⟩ := Or.inr (zInN_mem (k := 275) (by decide +kernel))
theorem zI_X0_init : zCtor ⟨"BorrowedLives$Deeds", "<init>", "()V"⟩ 0 := ⟨⟨zIn_mem (k := 117) (by decide +kernel), by decide +kernel, by decide +kernel, by decide +kernel⟩, rfl, zIn_mem (k := 480) (by decide +kernel)⟩
theorem zI_X10_init : zCtor ⟨"BorrowedLives$Year", "<init>", "()V"⟩ 0 := ⟨⟨zIn_mem (k := 112) (by decide +kernel), by decide +kernel, by decide +kernel, by decide +kernel⟩, rfl, zIn_mem (k := 290) (by decide +kernel)⟩
theorem zI_X1_init : zCtor ⟨"BorrowedLives$Forecast", "<init>", "(LBorrowedLives$Town;LBorrowedLives$Lots;LBorrowedLives$Lives;)V"⟩ 3 := ⟨⟨zIn_mem (k := 116) (by decide +kernel), by decide +kernel, by decide +kernel, by decide +kernel⟩, rfl, zIn_mem (k := 420) (by decide +kernel)⟩
theorem zI_X2_init : zCtor ⟨"BorrowedLives$Laws", "<init>", "()V"⟩ 0 := ⟨⟨zIn_mem (k := 110) (by decide +kernel), by decide +kernel, by decide +kernel, by decide +kernel⟩, rfl, zIn_mem (k := 186) (by decide +kernel)⟩
theorem zI_X3_init : zCtor ⟨"BorrowedLives$Lives", "<init>", "(LBorrowedLives$Town;)V"⟩ 1 := ⟨⟨zIn_mem (k := 114) (by decide +kernel), by decide +kernel, by decide +kernel, by decide +kernel⟩, rfl, zIn_mem (k := 332) (by decide +kernel)⟩
theorem zI_X4_init : zCtor ⟨"BorrowedLives$Lots", "<init>", "()V"⟩ 0 := ⟨⟨zIn_mem (k := 113) (by decide +kernel), by decide +kernel, by decide +kernel, by decide +kernel⟩, rfl, zIn_mem (k := 310) (by decide +kernel)⟩
theorem zI_X5_init : zCtor ⟨"BorrowedLives$Pairs", "<init>", "()V"⟩ 0 := ⟨⟨zIn_mem (k := 118) (by decide +kernel), by decide +kernel, by decide +kernel, by decide +kernel⟩, rfl, zIn_mem (k := 494) (by decide +kernel)⟩
theorem zI_X6_init : zCtor ⟨"BorrowedLives$Tales", "<init>", "()V"⟩ 0 := ⟨⟨zIn_mem (k := 115) (by decide +kernel), by decide +kernel, by decide +kernel, by decide +kernel⟩, rfl, zIn_mem (k := 395) (by decide +kernel)⟩
theorem zI_X7_init : zCtor ⟨"BorrowedLives$Tape", "<init>", "()V"⟩ 0 := ⟨⟨zIn_mem (k := 108) (by decide +kernel), by decide +kernel, by decide +kernel, by decide +kernel⟩, rfl, zIn_mem (k := 143) (by decide +kernel)⟩
theorem zI_X8_init : zCtor ⟨"BorrowedLives$Town", "<init>", "()V"⟩ 0 := ⟨⟨zIn_mem (k := 109) (by decide +kernel), by decide +kernel, by decide +kernel, by decide +kernel⟩, rfl, zIn_mem (k := 180) (by decide +kernel)⟩
theorem zI_X9_init : zCtor ⟨"BorrowedLives$TownReader", "<init>", "(LBorrowedLives$Tape;)V"⟩ 1 := ⟨⟨zIn_mem (k := 111) (by decide +kernel), by decide +kernel, by decide +kernel, by decide +kernel⟩, rfl, zIn_mem (k := 271) (by decide +kernel)⟩
theorem zObjI : Cond.instanceMethod Lib.objectInit ∈ zTg ∧ Cond.code Lib.objectInit ⟨#[0xb1]⟩ 1 none ∈ zTg := ⟨zIn_mem (k := 138) (by decide +kernel), zIn_mem (k := 139) (by decide +kernel)⟩
def dDeeds : VDeeds := (0, 0)
def dForecast : VForecast := (0, (-1), (fun _ => 0), (fun _ => 0), (fun _ => 0), (fun _ => 0), 0, 0, 0, 0, 0)
def dLaws : VLaws := ((fun _ => 0), 0, (fun _ => 0), (fun _ => 0), (fun _ => 0), (fun _ => 0))
def dLives : VLives := ((fun _ => 0), (fun _ => 0), (fun _ => 0), (fun _ => 0), (fun _ => 0), (fun _ => 0), (fun _ => 0), 0, 0, 0, 0)
def dLots : VLots := (0, 0, (fun _ => 0), (fun _ => 0))
def dPairs : VPairs := (0, (fun _ => 0), (fun _ => 0), (fun _ => 0), 0)
def dTales : VTales := (0, (fun _ => 0), (fun _ => 0), (fun _ => 0))
def dTape : VTape := ((fun _ => 0), 0, (fun _ => 0), (fun _ => 0), (fun _ => 0), 0, 0, 0)
def dTown : VTown := (0, (fun _ => 0), (fun _ => 0), (fun _ => 0), (fun _ => 0), (fun _ => 0), (fun _ => 0), (fun _ => 0), 0, 50, 0)
def dReader : VReader := 5
def dYear : VYear := (0, (fun _ => 0), (fun _ => 0), (fun _ => 0))
def dBl : VBl := (0, 0, (fun _ => 0))
set_option maxRecDepth 40000 in
set_option maxHeartbeats 8000000 in
theorem c_Deeds_init : Ct zMX0_init 2 0 0 0 [.ref 0] ([] ++ [[.inr (0, [.int 0, .int 0])]] : List (List zE)).flatten (fun v cc => v = none ∧ cc = ([kDeeds 0 dDeeds] : List (List zE)).flatten) := by
  refine Ct.of zMX0_init_ok (by decide) (Nat.le_of_ble_eq_true rfl) ?_
  intro Z hZ hR hN hE
  show AW Z 0 0 0 [some (.ref 0)] [] ([[.inr (0, [.int 0, .int 0])]] : List (List zE)).flatten
  refine AW.run hZ (zRoom_of hR (by decide) (by decide)) [1] 400 ?_
  show AW Z 0 0 1 [some (.ref 0)] [.ref 0] ([[.inr (0, [.int 0, .int 0])]] : List (List zE)).flatten
  refine AW.objInit hZ hR rfl rfl (zIn_mem (k := 482) (by decide +kernel)) zObjI.1 zObjI.2 rfl ?_
  show AW Z 0 0 4 [some (.ref 0)] [] ([[.inr (0, [.int 0, .int 0])]] : List (List zE)).flatten
  refine AW.run hZ (zRoom_of hR (by decide) (by decide)) [14] 400 ?_
  show AW Z 0 0 14 [some (.ref 0)] [] ([[.inr (0, [.int 0, .int 0])]] : List (List zE)).flatten
  exact AW.vret hZ hE rfl rfl rfl (by decide) (by decide) rfl ⟨rfl, rfl⟩
set_option maxRecDepth 40000 in
set_option maxHeartbeats 8000000 in
theorem c_Laws_init : Ct zMX2_init 2 5 5 1077 [.ref 0] ([] ++ [[.inr (2, [.null, .int 0, .null, .null, .null, .null])]] : List (List zE)).flatten (fun v cc => v = none ∧ cc = ([kLaws 0 dLaws] : List (List zE)).flatten) := by
  refine Ct.of zMX2_init_ok (by decide) (Nat.le_of_ble_eq_true rfl) ?_
  intro Z hZ hR hN hE
  show AW Z 0 0 0 [some (.ref 0)] [] ([[.inr (2, [.null, .int 0, .null, .null, .null, .null])]] : List (List zE)).flatten
  refine AW.run hZ (zRoom_of hR (by decide) (by decide)) [1] 400 ?_
  show AW Z 0 0 1 [some (.ref 0)] [.ref 0] ([[.inr (2, [.null, .int 0, .null, .null, .null, .null])]] : List (List zE)).flatten
  refine AW.objInit hZ hR rfl rfl (zIn_mem (k := 188) (by decide +kernel)) zObjI.1 zObjI.2 rfl ?_
  show AW Z 0 0 4 [some (.ref 0)] [] ([[.inr (2, [.null, .int 0, .null, .null, .null, .null])]] : List (List zE)).flatten
  refine AW.run hZ (zRoom_of hR (by decide) (by decide)) [8] 400 ?_
  show AW Z 0 0 8 [some (.ref 0)] [.int 1000, .ref 0] ([[.inr (2, [.null, .int 0, .null, .null, .null, .null])]] : List (List zE)).flatten
  refine AW.newa (t := 0) (N := 1000) (ty := .int) (a0 := (1000, .inl (fun _ => 0))) hZ hR hN rfl rfl rfl rfl (fun C h => by cases h) (zIn_mem (k := 175) (by decide +kernel)) (fun _ _ => rfl) (by decide) (by decide) (by decide) rfl (by decide) (by decide) (by decide) ?_
  show AW Z 1 1000 10 [some (.ref 0)] [.ref 1, .ref 0] ([[.inr (2, [.null, .int 0, .null, .null, .null, .null])], [.inl (0, 1000, .inl (fun _ => 0))]] : List (List zE)).flatten
  refine AW.putF (ci := 2) (b := 0) hZ rfl rfl rfl rfl (by decide) rfl rfl (zIn_mem (k := 189) (by decide +kernel)) rfl ⟨Or.inr ⟨_, rfl⟩, Or.inr ⟨_, rfl⟩⟩ (by decide) ?_
  show AW Z 1 1000 13 [some (.ref 0)] [] ([[.inr (2, [.ref 1, .int 0, .null, .null, .null, .null])], [.inl (0, 1000, .inl (fun _ => 0))]] : List (List zE)).flatten
  refine AW.run hZ (zRoom_of hR (by decide) (by decide)) [20] 400 ?_
  show AW Z 1 1000 20 [some (.ref 0)] [.int 4, .ref 0] ([[.inr (2, [.ref 1, .int 0, .null, .null, .null, .null])], [.inl (0, 1000, .inl (fun _ => 0))]] : List (List zE)).flatten
  refine AW.newa (t := 0) (N := 4) (ty := .int) (a0 := (4, .inl (fun _ => 0))) hZ hR hN rfl rfl rfl rfl (fun C h => by cases h) (zIn_mem (k := 175) (by decide +kernel)) (fun _ _ => rfl) (by decide) (by decide) (by decide) rfl (by decide) (by decide) (by decide) ?_
  show AW Z 2 1004 22 [some (.ref 0)] [.ref 2, .ref 0] ([[.inr (2, [.ref 1, .int 0, .null, .null, .null, .null])], [.inl (0, 1000, .inl (fun _ => 0))], [.inl (0, 4, .inl (fun _ => 0))]] : List (List zE)).flatten
  refine AW.putF (ci := 2) (b := 2) hZ rfl rfl rfl rfl (by decide) rfl rfl (zIn_mem (k := 192) (by decide +kernel)) rfl ⟨Or.inr ⟨_, rfl⟩, Or.inr ⟨_, rfl⟩⟩ (by decide) ?_
  show AW Z 2 1004 25 [some (.ref 0)] [] ([[.inr (2, [.ref 1, .int 0, .ref 2, .null, .null, .null])], [.inl (0, 1000, .inl (fun _ => 0))], [.inl (0, 4, .inl (fun _ => 0))]] : List (List zE)).flatten
  refine AW.run hZ (zRoom_of hR (by decide) (by decide)) [27] 400 ?_
  show AW Z 2 1004 27 [some (.ref 0)] [.int 4, .ref 0] ([[.inr (2, [.ref 1, .int 0, .ref 2, .null, .null, .null])], [.inl (0, 1000, .inl (fun _ => 0))], [.inl (0, 4, .inl (fun _ => 0))]] : List (List zE)).flatten
  refine AW.newa (t := 0) (N := 4) (ty := .int) (a0 := (4, .inl (fun _ => 0))) hZ hR hN rfl rfl rfl rfl (fun C h => by cases h) (zIn_mem (k := 175) (by decide +kernel)) (fun _ _ => rfl) (by decide) (by decide) (by decide) rfl (by decide) (by decide) (by decide) ?_
  show AW Z 3 1008 29 [some (.ref 0)] [.ref 3, .ref 0] ([[.inr (2, [.ref 1, .int 0, .ref 2, .null, .null, .null])], [.inl (0, 1000, .inl (fun _ => 0))], [.inl (0, 4, .inl (fun _ => 0))], [.inl (0, 4, .inl (fun _ => 0))]] : List (List zE)).flatten
  refine AW.putF (ci := 2) (b := 3) hZ rfl rfl rfl rfl (by decide) rfl rfl (zIn_mem (k := 193) (by decide +kernel)) rfl ⟨Or.inr ⟨_, rfl⟩, Or.inr ⟨_, rfl⟩⟩ (by decide) ?_
  show AW Z 3 1008 32 [some (.ref 0)] [] ([[.inr (2, [.ref 1, .int 0, .ref 2, .ref 3, .null, .null])], [.inl (0, 1000, .inl (fun _ => 0))], [.inl (0, 4, .inl (fun _ => 0))], [.inl (0, 4, .inl (fun _ => 0))]] : List (List zE)).flatten
  refine AW.run hZ (zRoom_of hR (by decide) (by decide)) [34] 400 ?_
  show AW Z 3 1008 34 [some (.ref 0)] [.int 5, .ref 0] ([[.inr (2, [.ref 1, .int 0, .ref 2, .ref 3, .null, .null])], [.inl (0, 1000, .inl (fun _ => 0))], [.inl (0, 4, .inl (fun _ => 0))], [.inl (0, 4, .inl (fun _ => 0))]] : List (List zE)).flatten
  refine AW.newa (t := 0) (N := 5) (ty := .int) (a0 := (5, .inl (fun _ => 0))) hZ hR hN rfl rfl rfl rfl (fun C h => by cases h) (zIn_mem (k := 175) (by decide +kernel)) (fun _ _ => rfl) (by decide) (by decide) (by decide) rfl (by decide) (by decide) (by decide) ?_
  show AW Z 4 1013 36 [some (.ref 0)] [.ref 4, .ref 0] ([[.inr (2, [.ref 1, .int 0, .ref 2, .ref 3, .null, .null])], [.inl (0, 1000, .inl (fun _ => 0))], [.inl (0, 4, .inl (fun _ => 0))], [.inl (0, 4, .inl (fun _ => 0))], [.inl (0, 5, .inl (fun _ => 0))]] : List (List zE)).flatten
  refine AW.putF (ci := 2) (b := 4) hZ rfl rfl rfl rfl (by decide) rfl rfl (zIn_mem (k := 194) (by decide +kernel)) rfl ⟨Or.inr ⟨_, rfl⟩, Or.inr ⟨_, rfl⟩⟩ (by decide) ?_
  show AW Z 4 1013 39 [some (.ref 0)] [] ([[.inr (2, [.ref 1, .int 0, .ref 2, .ref 3, .ref 4, .null])], [.inl (0, 1000, .inl (fun _ => 0))], [.inl (0, 4, .inl (fun _ => 0))], [.inl (0, 4, .inl (fun _ => 0))], [.inl (0, 5, .inl (fun _ => 0))]] : List (List zE)).flatten
  refine AW.run hZ (zRoom_of hR (by decide) (by decide)) [42] 400 ?_
  show AW Z 4 1013 42 [some (.ref 0)] [.int 64, .ref 0] ([[.inr (2, [.ref 1, .int 0, .ref 2, .ref 3, .ref 4, .null])], [.inl (0, 1000, .inl (fun _ => 0))], [.inl (0, 4, .inl (fun _ => 0))], [.inl (0, 4, .inl (fun _ => 0))], [.inl (0, 5, .inl (fun _ => 0))]] : List (List zE)).flatten
  refine AW.newa (t := 0) (N := 64) (ty := .int) (a0 := (64, .inl (fun _ => 0))) hZ hR hN rfl rfl rfl rfl (fun C h => by cases h) (zIn_mem (k := 175) (by decide +kernel)) (fun _ _ => rfl) (by decide) (by decide) (by decide) rfl (by decide) (by decide) (by decide) ?_
  show AW Z 5 1077 44 [some (.ref 0)] [.ref 5, .ref 0] ([[.inr (2, [.ref 1, .int 0, .ref 2, .ref 3, .ref 4, .null])], [.inl (0, 1000, .inl (fun _ => 0))], [.inl (0, 4, .inl (fun _ => 0))], [.inl (0, 4, .inl (fun _ => 0))], [.inl (0, 5, .inl (fun _ => 0))], [.inl (0, 64, .inl (fun _ => 0))]] : List (List zE)).flatten
  refine AW.putF (ci := 2) (b := 5) hZ rfl rfl rfl rfl (by decide) rfl rfl (zIn_mem (k := 195) (by decide +kernel)) rfl ⟨Or.inr ⟨_, rfl⟩, Or.inr ⟨_, rfl⟩⟩ (by decide) ?_
  show AW Z 5 1077 47 [some (.ref 0)] [] ([[.inr (2, [.ref 1, .int 0, .ref 2, .ref 3, .ref 4, .ref 5])], [.inl (0, 1000, .inl (fun _ => 0))], [.inl (0, 4, .inl (fun _ => 0))], [.inl (0, 4, .inl (fun _ => 0))], [.inl (0, 5, .inl (fun _ => 0))], [.inl (0, 64, .inl (fun _ => 0))]] : List (List zE)).flatten
  exact AW.vret hZ hE rfl rfl rfl (by decide) (by decide) rfl ⟨rfl, rfl⟩
set_option maxRecDepth 40000 in
set_option maxHeartbeats 8000000 in
theorem c_Lots_init : Ct zMX4_init 2 2 2 1596 [.ref 0] ([] ++ [[.inr (4, [.int 0, .int 0, .null, .null])]] : List (List zE)).flatten (fun v cc => v = none ∧ cc = ([kLots 0 dLots] : List (List zE)).flatten) := by
  refine Ct.of zMX4_init_ok (by decide) (Nat.le_of_ble_eq_true rfl) ?_
  intro Z hZ hR hN hE
  show AW Z 0 0 0 [some (.ref 0)] [] ([[.inr (4, [.int 0, .int 0, .null, .null])]] : List (List zE)).flatten
  refine AW.run hZ (zRoom_of hR (by decide) (by decide)) [1] 400 ?_
  show AW Z 0 0 1 [some (.ref 0)] [.ref 0] ([[.inr (4, [.int 0, .int 0, .null, .null])]] : List (List zE)).flatten
  refine AW.objInit hZ hR rfl rfl (zIn_mem (k := 312) (by decide +kernel)) zObjI.1 zObjI.2 rfl ?_
  show AW Z 0 0 4 [some (.ref 0)] [] ([[.inr (4, [.int 0, .int 0, .null, .null])]] : List (List zE)).flatten
  refine AW.run hZ (zRoom_of hR (by decide) (by decide)) [18] 400 ?_
  show AW Z 0 0 18 [some (.ref 0)] [.int 1590, .ref 0] ([[.inr (4, [.int 0, .int 0, .null, .null])]] : List (List zE)).flatten
  refine AW.newa (t := 0) (N := 1590) (ty := .int) (a0 := (1590, .inl (fun _ => 0))) hZ hR hN rfl rfl rfl rfl (fun C h => by cases h) (zIn_mem (k := 175) (by decide +kernel)) (fun _ _ => rfl) (by decide) (by decide) (by decide) rfl (by decide) (by decide) (by decide) ?_
  show AW Z 1 1590 20 [some (.ref 0)] [.ref 1, .ref 0] ([[.inr (4, [.int 0, .int 0, .null, .null])], [.inl (0, 1590, .inl (fun _ => 0))]] : List (List zE)).flatten
  refine AW.putF (ci := 4) (b := 2) hZ rfl rfl rfl rfl (by decide) rfl rfl (zIn_mem (k := 318) (by decide +kernel)) rfl ⟨Or.inr ⟨_, rfl⟩, Or.inr ⟨_, rfl⟩⟩ (by decide) ?_
  show AW Z 1 1590 23 [some (.ref 0)] [] ([[.inr (4, [.int 0, .int 0, .ref 1, .null])], [.inl (0, 1590, .inl (fun _ => 0))]] : List (List zE)).flatten
  refine AW.run hZ (zRoom_of hR (by decide) (by decide)) [26] 400 ?_
  show AW Z 1 1590 26 [some (.ref 0)] [.int 6, .ref 0] ([[.inr (4, [.int 0, .int 0, .ref 1, .null])], [.inl (0, 1590, .inl (fun _ => 0))]] : List (List zE)).flatten
  refine AW.newa (t := 0) (N := 6) (ty := .int) (a0 := (6, .inl (fun _ => 0))) hZ hR hN rfl rfl rfl rfl (fun C h => by cases h) (zIn_mem (k := 175) (by decide +kernel)) (fun _ _ => rfl) (by decide) (by decide) (by decide) rfl (by decide) (by decide) (by decide) ?_
  show AW Z 2 1596 28 [some (.ref 0)] [.ref 2, .ref 0] ([[.inr (4, [.int 0, .int 0, .ref 1, .null])], [.inl (0, 1590, .inl (fun _ => 0))], [.inl (0, 6, .inl (fun _ => 0))]] : List (List zE)).flatten
  refine AW.putF (ci := 4) (b := 3) hZ rfl rfl rfl rfl (by decide) rfl rfl (zIn_mem (k := 319) (by decide +kernel)) rfl ⟨Or.inr ⟨_, rfl⟩, Or.inr ⟨_, rfl⟩⟩ (by decide) ?_
  show AW Z 2 1596 31 [some (.ref 0)] [] ([[.inr (4, [.int 0, .int 0, .ref 1, .ref 2])], [.inl (0, 1590, .inl (fun _ => 0))], [.inl (0, 6, .inl (fun _ => 0))]] : List (List zE)).flatten
  exact AW.vret hZ hE rfl rfl rfl (by decide) (by decide) rfl ⟨rfl, rfl⟩
set_option maxRecDepth 40000 in
set_option maxHeartbeats 8000000 in
theorem c_Pairs_init : Ct zMX5_init 2 3 3 18 [.ref 0] ([] ++ [[.inr (5, [.int 0, .null, .null, .null, .int 0])]] : List (List zE)).flatten (fun v cc => v = none ∧ cc = ([kPairs 0 dPairs] : List (List zE)).flatten) := by
  refine Ct.of zMX5_init_ok (by decide) (Nat.le_of_ble_eq_true rfl) ?_
  intro Z hZ hR hN hE
  show AW Z 0 0 0 [some (.ref 0)] [] ([[.inr (5, [.int 0, .null, .null, .null, .int 0])]] : List (List zE)).flatten
  refine AW.run hZ (zRoom_of hR (by decide) (by decide)) [1] 400 ?_
  show AW Z 0 0 1 [some (.ref 0)] [.ref 0] ([[.inr (5, [.int 0, .null, .null, .null, .int 0])]] : List (List zE)).flatten
  refine AW.objInit hZ hR rfl rfl (zIn_mem (k := 496) (by decide +kernel)) zObjI.1 zObjI.2 rfl ?_
  show AW Z 0 0 4 [some (.ref 0)] [] ([[.inr (5, [.int 0, .null, .null, .null, .int 0])]] : List (List zE)).flatten
  refine AW.run hZ (zRoom_of hR (by decide) (by decide)) [12] 400 ?_
  show AW Z 0 0 12 [some (.ref 0)] [.int 6, .ref 0] ([[.inr (5, [.int 0, .null, .null, .null, .int 0])]] : List (List zE)).flatten
  refine AW.newa (t := 0) (N := 6) (ty := .int) (a0 := (6, .inl (fun _ => 0))) hZ hR hN rfl rfl rfl rfl (fun C h => by cases h) (zIn_mem (k := 175) (by decide +kernel)) (fun _ _ => rfl) (by decide) (by decide) (by decide) rfl (by decide) (by decide) (by decide) ?_
  show AW Z 1 6 14 [some (.ref 0)] [.ref 1, .ref 0] ([[.inr (5, [.int 0, .null, .null, .null, .int 0])], [.inl (0, 6, .inl (fun _ => 0))]] : List (List zE)).flatten
  refine AW.putF (ci := 5) (b := 1) hZ rfl rfl rfl rfl (by decide) rfl rfl (zIn_mem (k := 498) (by decide +kernel)) rfl ⟨Or.inr ⟨_, rfl⟩, Or.inr ⟨_, rfl⟩⟩ (by decide) ?_
  show AW Z 1 6 17 [some (.ref 0)] [] ([[.inr (5, [.int 0, .ref 1, .null, .null, .int 0])], [.inl (0, 6, .inl (fun _ => 0))]] : List (List zE)).flatten
  refine AW.run hZ (zRoom_of hR (by decide) (by decide)) [20] 400 ?_
  show AW Z 1 6 20 [some (.ref 0)] [.int 6, .ref 0] ([[.inr (5, [.int 0, .ref 1, .null, .null, .int 0])], [.inl (0, 6, .inl (fun _ => 0))]] : List (List zE)).flatten
  refine AW.newa (t := 0) (N := 6) (ty := .int) (a0 := (6, .inl (fun _ => 0))) hZ hR hN rfl rfl rfl rfl (fun C h => by cases h) (zIn_mem (k := 175) (by decide +kernel)) (fun _ _ => rfl) (by decide) (by decide) (by decide) rfl (by decide) (by decide) (by decide) ?_
  show AW Z 2 12 22 [some (.ref 0)] [.ref 2, .ref 0] ([[.inr (5, [.int 0, .ref 1, .null, .null, .int 0])], [.inl (0, 6, .inl (fun _ => 0))], [.inl (0, 6, .inl (fun _ => 0))]] : List (List zE)).flatten
  refine AW.putF (ci := 5) (b := 2) hZ rfl rfl rfl rfl (by decide) rfl rfl (zIn_mem (k := 499) (by decide +kernel)) rfl ⟨Or.inr ⟨_, rfl⟩, Or.inr ⟨_, rfl⟩⟩ (by decide) ?_
  show AW Z 2 12 25 [some (.ref 0)] [] ([[.inr (5, [.int 0, .ref 1, .ref 2, .null, .int 0])], [.inl (0, 6, .inl (fun _ => 0))], [.inl (0, 6, .inl (fun _ => 0))]] : List (List zE)).flatten
  refine AW.run hZ (zRoom_of hR (by decide) (by decide)) [28] 400 ?_
  show AW Z 2 12 28 [some (.ref 0)] [.int 6, .ref 0] ([[.inr (5, [.int 0, .ref 1, .ref 2, .null, .int 0])], [.inl (0, 6, .inl (fun _ => 0))], [.inl (0, 6, .inl (fun _ => 0))]] : List (List zE)).flatten
  refine AW.newa (t := 0) (N := 6) (ty := .int) (a0 := (6, .inl (fun _ => 0))) hZ hR hN rfl rfl rfl rfl (fun C h => by cases h) (zIn_mem (k := 175) (by decide +kernel)) (fun _ _ => rfl) (by decide) (by decide) (by decide) rfl (by decide) (by decide) (by decide) ?_
  show AW Z 3 18 30 [some (.ref 0)] [.ref 3, .ref 0] ([[.inr (5, [.int 0, .ref 1, .ref 2, .null, .int 0])], [.inl (0, 6, .inl (fun _ => 0))], [.inl (0, 6, .inl (fun _ => 0))], [.inl (0, 6, .inl (fun _ => 0))]] : List (List zE)).flatten
  refine AW.putF (ci := 5) (b := 3) hZ rfl rfl rfl rfl (by decide) rfl rfl (zIn_mem (k := 500) (by decide +kernel)) rfl ⟨Or.inr ⟨_, rfl⟩, Or.inr ⟨_, rfl⟩⟩ (by decide) ?_
  show AW Z 3 18 33 [some (.ref 0)] [] ([[.inr (5, [.int 0, .ref 1, .ref 2, .ref 3, .int 0])], [.inl (0, 6, .inl (fun _ => 0))], [.inl (0, 6, .inl (fun _ => 0))], [.inl (0, 6, .inl (fun _ => 0))]] : List (List zE)).flatten
  refine AW.run hZ (zRoom_of hR (by decide) (by decide)) [38] 400 ?_
  show AW Z 3 18 38 [some (.ref 0)] [] ([[.inr (5, [.int 0, .ref 1, .ref 2, .ref 3, .int 0])], [.inl (0, 6, .inl (fun _ => 0))], [.inl (0, 6, .inl (fun _ => 0))], [.inl (0, 6, .inl (fun _ => 0))]] : List (List zE)).flatten
  exact AW.vret hZ hE rfl rfl rfl (by decide) (by decide) rfl ⟨rfl, rfl⟩
set_option maxRecDepth 40000 in
set_option maxHeartbeats 8000000 in
theorem c_Tales_init : Ct zMX6_init 2 3 3 24 [.ref 0] ([] ++ [[.inr (6, [.int 0, .null, .null, .null])]] : List (List zE)).flatten (fun v cc => v = none ∧ cc = ([kTales 0 dTales] : List (List zE)).flatten) := by
  refine Ct.of zMX6_init_ok (by decide) (Nat.le_of_ble_eq_true rfl) ?_
  intro Z hZ hR hN hE
  show AW Z 0 0 0 [some (.ref 0)] [] ([[.inr (6, [.int 0, .null, .null, .null])]] : List (List zE)).flatten
  refine AW.run hZ (zRoom_of hR (by decide) (by decide)) [1] 400 ?_
  show AW Z 0 0 1 [some (.ref 0)] [.ref 0] ([[.inr (6, [.int 0, .null, .null, .null])]] : List (List zE)).flatten
  refine AW.objInit hZ hR rfl rfl (zIn_mem (k := 397) (by decide +kernel)) zObjI.1 zObjI.2 rfl ?_
  show AW Z 0 0 4 [some (.ref 0)] [] ([[.inr (6, [.int 0, .null, .null, .null])]] : List (List zE)).flatten
  refine AW.run hZ (zRoom_of hR (by decide) (by decide)) [12] 400 ?_
  show AW Z 0 0 12 [some (.ref 0)] [.int 8, .ref 0] ([[.inr (6, [.int 0, .null, .null, .null])]] : List (List zE)).flatten
  refine AW.newa (t := 0) (N := 8) (ty := .int) (a0 := (8, .inl (fun _ => 0))) hZ hR hN rfl rfl rfl rfl (fun C h => by cases h) (zIn_mem (k := 175) (by decide +kernel)) (fun _ _ => rfl) (by decide) (by decide) (by decide) rfl (by decide) (by decide) (by decide) ?_
  show AW Z 1 8 14 [some (.ref 0)] [.ref 1, .ref 0] ([[.inr (6, [.int 0, .null, .null, .null])], [.inl (0, 8, .inl (fun _ => 0))]] : List (List zE)).flatten
  refine AW.putF (ci := 6) (b := 1) hZ rfl rfl rfl rfl (by decide) rfl rfl (zIn_mem (k := 401) (by decide +kernel)) rfl ⟨Or.inr ⟨_, rfl⟩, Or.inr ⟨_, rfl⟩⟩ (by decide) ?_
  show AW Z 1 8 17 [some (.ref 0)] [] ([[.inr (6, [.int 0, .ref 1, .null, .null])], [.inl (0, 8, .inl (fun _ => 0))]] : List (List zE)).flatten
  refine AW.run hZ (zRoom_of hR (by decide) (by decide)) [20] 400 ?_
  show AW Z 1 8 20 [some (.ref 0)] [.int 8, .ref 0] ([[.inr (6, [.int 0, .ref 1, .null, .null])], [.inl (0, 8, .inl (fun _ => 0))]] : List (List zE)).flatten
  refine AW.newa (t := 0) (N := 8) (ty := .int) (a0 := (8, .inl (fun _ => 0))) hZ hR hN rfl rfl rfl rfl (fun C h => by cases h) (zIn_mem (k := 175) (by decide +kernel)) (fun _ _ => rfl) (by decide) (by decide) (by decide) rfl (by decide) (by decide) (by decide) ?_
  show AW Z 2 16 22 [some (.ref 0)] [.ref 2, .ref 0] ([[.inr (6, [.int 0, .ref 1, .null, .null])], [.inl (0, 8, .inl (fun _ => 0))], [.inl (0, 8, .inl (fun _ => 0))]] : List (List zE)).flatten
  refine AW.putF (ci := 6) (b := 2) hZ rfl rfl rfl rfl (by decide) rfl rfl (zIn_mem (k := 403) (by decide +kernel)) rfl ⟨Or.inr ⟨_, rfl⟩, Or.inr ⟨_, rfl⟩⟩ (by decide) ?_
  show AW Z 2 16 25 [some (.ref 0)] [] ([[.inr (6, [.int 0, .ref 1, .ref 2, .null])], [.inl (0, 8, .inl (fun _ => 0))], [.inl (0, 8, .inl (fun _ => 0))]] : List (List zE)).flatten
  refine AW.run hZ (zRoom_of hR (by decide) (by decide)) [28] 400 ?_
  show AW Z 2 16 28 [some (.ref 0)] [.int 8, .ref 0] ([[.inr (6, [.int 0, .ref 1, .ref 2, .null])], [.inl (0, 8, .inl (fun _ => 0))], [.inl (0, 8, .inl (fun _ => 0))]] : List (List zE)).flatten
  refine AW.newa (t := 0) (N := 8) (ty := .int) (a0 := (8, .inl (fun _ => 0))) hZ hR hN rfl rfl rfl rfl (fun C h => by cases h) (zIn_mem (k := 175) (by decide +kernel)) (fun _ _ => rfl) (by decide) (by decide) (by decide) rfl (by decide) (by decide) (by decide) ?_
  show AW Z 3 24 30 [some (.ref 0)] [.ref 3, .ref 0] ([[.inr (6, [.int 0, .ref 1, .ref 2, .null])], [.inl (0, 8, .inl (fun _ => 0))], [.inl (0, 8, .inl (fun _ => 0))], [.inl (0, 8, .inl (fun _ => 0))]] : List (List zE)).flatten
  refine AW.putF (ci := 6) (b := 3) hZ rfl rfl rfl rfl (by decide) rfl rfl (zIn_mem (k := 405) (by decide +kernel)) rfl ⟨Or.inr ⟨_, rfl⟩, Or.inr ⟨_, rfl⟩⟩ (by decide) ?_
  show AW Z 3 24 33 [some (.ref 0)] [] ([[.inr (6, [.int 0, .ref 1, .ref 2, .ref 3])], [.inl (0, 8, .inl (fun _ => 0))], [.inl (0, 8, .inl (fun _ => 0))], [.inl (0, 8, .inl (fun _ => 0))]] : List (List zE)).flatten
  exact AW.vret hZ hE rfl rfl rfl (by decide) (by decide) rfl ⟨rfl, rfl⟩
set_option maxRecDepth 40000 in
set_option maxHeartbeats 8000000 in
theorem c_Tape_init : Ct zMX7_init 2 4 4 4003 [.ref 0] ([] ++ [[.inr (7, [.null, .int 0, .null, .null, .null, .int 0, .int 0, .int 0])]] : List (List zE)).flatten (fun v cc => v = none ∧ cc = ([kTape 0 dTape] : List (List zE)).flatten) := by
  refine Ct.of zMX7_init_ok (by decide) (Nat.le_of_ble_eq_true rfl) ?_
  intro Z hZ hR hN hE
  show AW Z 0 0 0 [some (.ref 0)] [] ([[.inr (7, [.null, .int 0, .null, .null, .null, .int 0, .int 0, .int 0])]] : List (List zE)).flatten
  refine AW.run hZ (zRoom_of hR (by decide) (by decide)) [1] 400 ?_
  show AW Z 0 0 1 [some (.ref 0)] [.ref 0] ([[.inr (7, [.null, .int 0, .null, .null, .null, .int 0, .int 0, .int 0])]] : List (List zE)).flatten
  refine AW.objInit hZ hR rfl rfl (zIn_mem (k := 145) (by decide +kernel)) zObjI.1 zObjI.2 rfl ?_
  show AW Z 0 0 4 [some (.ref 0)] [] ([[.inr (7, [.null, .int 0, .null, .null, .null, .int 0, .int 0, .int 0])]] : List (List zE)).flatten
  refine AW.run hZ (zRoom_of hR (by decide) (by decide)) [8] 400 ?_
  show AW Z 0 0 8 [some (.ref 0)] [.int 1000, .ref 0] ([[.inr (7, [.null, .int 0, .null, .null, .null, .int 0, .int 0, .int 0])]] : List (List zE)).flatten
  refine AW.newa (t := 2) (N := 1000) (ty := .char) (a0 := (1000, .inl (fun _ => 0))) hZ hR hN rfl rfl rfl rfl (fun C h => by cases h) (zIn_mem (k := 174) (by decide +kernel)) (fun _ _ => rfl) (by decide) (by decide) (by decide) rfl (by decide) (by decide) (by decide) ?_
  show AW Z 1 1000 10 [some (.ref 0)] [.ref 1, .ref 0] ([[.inr (7, [.null, .int 0, .null, .null, .null, .int 0, .int 0, .int 0])], [.inl (2, 1000, .inl (fun _ => 0))]] : List (List zE)).flatten
  refine AW.putF (ci := 7) (b := 0) hZ rfl rfl rfl rfl (by decide) rfl rfl (zIn_mem (k := 146) (by decide +kernel)) rfl ⟨Or.inr ⟨_, rfl⟩, Or.inr ⟨_, rfl⟩⟩ (by decide) ?_
  show AW Z 1 1000 13 [some (.ref 0)] [] ([[.inr (7, [.ref 1, .int 0, .null, .null, .null, .int 0, .int 0, .int 0])], [.inl (2, 1000, .inl (fun _ => 0))]] : List (List zE)).flatten
  refine AW.run hZ (zRoom_of hR (by decide) (by decide)) [22] 400 ?_
  show AW Z 1 1000 22 [some (.ref 0)] [.int 1001, .ref 0] ([[.inr (7, [.ref 1, .int 0, .null, .null, .null, .int 0, .int 0, .int 0])], [.inl (2, 1000, .inl (fun _ => 0))]] : List (List zE)).flatten
  refine AW.newa (t := 0) (N := 1001) (ty := .int) (a0 := (1001, .inl (fun _ => 0))) hZ hR hN rfl rfl rfl rfl (fun C h => by cases h) (zIn_mem (k := 175) (by decide +kernel)) (fun _ _ => rfl) (by decide) (by decide) (by decide) rfl (by decide) (by decide) (by decide) ?_
  show AW Z 2 2001 24 [some (.ref 0)] [.ref 2, .ref 0] ([[.inr (7, [.ref 1, .int 0, .null, .null, .null, .int 0, .int 0, .int 0])], [.inl (2, 1000, .inl (fun _ => 0))], [.inl (0, 1001, .inl (fun _ => 0))]] : List (List zE)).flatten
  refine AW.putF (ci := 7) (b := 2) hZ rfl rfl rfl rfl (by decide) rfl rfl (zIn_mem (k := 149) (by decide +kernel)) rfl ⟨Or.inr ⟨_, rfl⟩, Or.inr ⟨_, rfl⟩⟩ (by decide) ?_
  show AW Z 2 2001 27 [some (.ref 0)] [] ([[.inr (7, [.ref 1, .int 0, .ref 2, .null, .null, .int 0, .int 0, .int 0])], [.inl (2, 1000, .inl (fun _ => 0))], [.inl (0, 1001, .inl (fun _ => 0))]] : List (List zE)).flatten
  refine AW.run hZ (zRoom_of hR (by decide) (by decide)) [31] 400 ?_
  show AW Z 2 2001 31 [some (.ref 0)] [.int 1001, .ref 0] ([[.inr (7, [.ref 1, .int 0, .ref 2, .null, .null, .int 0, .int 0, .int 0])], [.inl (2, 1000, .inl (fun _ => 0))], [.inl (0, 1001, .inl (fun _ => 0))]] : List (List zE)).flatten
  refine AW.newa (t := 0) (N := 1001) (ty := .int) (a0 := (1001, .inl (fun _ => 0))) hZ hR hN rfl rfl rfl rfl (fun C h => by cases h) (zIn_mem (k := 175) (by decide +kernel)) (fun _ _ => rfl) (by decide) (by decide) (by decide) rfl (by decide) (by decide) (by decide) ?_
  show AW Z 3 3002 33 [some (.ref 0)] [.ref 3, .ref 0] ([[.inr (7, [.ref 1, .int 0, .ref 2, .null, .null, .int 0, .int 0, .int 0])], [.inl (2, 1000, .inl (fun _ => 0))], [.inl (0, 1001, .inl (fun _ => 0))], [.inl (0, 1001, .inl (fun _ => 0))]] : List (List zE)).flatten
  refine AW.putF (ci := 7) (b := 3) hZ rfl rfl rfl rfl (by decide) rfl rfl (zIn_mem (k := 150) (by decide +kernel)) rfl ⟨Or.inr ⟨_, rfl⟩, Or.inr ⟨_, rfl⟩⟩ (by decide) ?_
  show AW Z 3 3002 36 [some (.ref 0)] [] ([[.inr (7, [.ref 1, .int 0, .ref 2, .ref 3, .null, .int 0, .int 0, .int 0])], [.inl (2, 1000, .inl (fun _ => 0))], [.inl (0, 1001, .inl (fun _ => 0))], [.inl (0, 1001, .inl (fun _ => 0))]] : List (List zE)).flatten
  refine AW.run hZ (zRoom_of hR (by decide) (by decide)) [40] 400 ?_
  show AW Z 3 3002 40 [some (.ref 0)] [.int 1001, .ref 0] ([[.inr (7, [.ref 1, .int 0, .ref 2, .ref 3, .null, .int 0, .int 0, .int 0])], [.inl (2, 1000, .inl (fun _ => 0))], [.inl (0, 1001, .inl (fun _ => 0))], [.inl (0, 1001, .inl (fun _ => 0))]] : List (List zE)).flatten
  refine AW.newa (t := 1) (N := 1001) (ty := .long) (a0 := (1001, .inr (.inl (fun _ => 0)))) hZ hR hN rfl rfl rfl rfl (fun C h => by cases h) (zIn_mem (k := 176) (by decide +kernel)) (fun _ _ => rfl) (by decide) (by decide) (by decide) rfl (by decide) (by decide) (by decide) ?_
  show AW Z 4 4003 42 [some (.ref 0)] [.ref 4, .ref 0] ([[.inr (7, [.ref 1, .int 0, .ref 2, .ref 3, .null, .int 0, .int 0, .int 0])], [.inl (2, 1000, .inl (fun _ => 0))], [.inl (0, 1001, .inl (fun _ => 0))], [.inl (0, 1001, .inl (fun _ => 0))], [.inl (1, 1001, .inr (.inl (fun _ => 0)))]] : List (List zE)).flatten
  refine AW.putF (ci := 7) (b := 4) hZ rfl rfl rfl rfl (by decide) rfl rfl (zIn_mem (k := 151) (by decide +kernel)) rfl ⟨Or.inr ⟨_, rfl⟩, Or.inr ⟨_, rfl⟩⟩ (by decide) ?_
  show AW Z 4 4003 45 [some (.ref 0)] [] ([[.inr (7, [.ref 1, .int 0, .ref 2, .ref 3, .ref 4, .int 0, .int 0, .int 0])], [.inl (2, 1000, .inl (fun _ => 0))], [.inl (0, 1001, .inl (fun _ => 0))], [.inl (0, 1001, .inl (fun _ => 0))], [.inl (1, 1001, .inr (.inl (fun _ => 0)))]] : List (List zE)).flatten
  refine AW.run hZ (zRoom_of hR (by decide) (by decide)) [60] 400 ?_
  show AW Z 4 4003 60 [some (.ref 0)] [] ([[.inr (7, [.ref 1, .int 0, .ref 2, .ref 3, .ref 4, .int 0, .int 0, .int 0])], [.inl (2, 1000, .inl (fun _ => 0))], [.inl (0, 1001, .inl (fun _ => 0))], [.inl (0, 1001, .inl (fun _ => 0))], [.inl (1, 1001, .inr (.inl (fun _ => 0)))]] : List (List zE)).flatten
  exact AW.vret hZ hE rfl rfl rfl (by decide) (by decide) rfl ⟨rfl, rfl⟩
set_option maxRecDepth 40000 in
set_option maxHeartbeats 8000000 in
theorem c_Year_init : Ct zMX10_init 2 3 3 120 [.ref 0] ([] ++ [[.inr (10, [.int 0, .null, .null, .null])]] : List (List zE)).flatten (fun v cc => v = none ∧ cc = ([kYear 0 dYear] : List (List zE)).flatten) := by
  refine Ct.of zMX10_init_ok (by decide) (Nat.le_of_ble_eq_true rfl) ?_
  intro Z hZ hR hN hE
  show AW Z 0 0 0 [some (.ref 0)] [] ([[.inr (10, [.int 0, .null, .null, .null])]] : List (List zE)).flatten
  refine AW.run hZ (zRoom_of hR (by decide) (by decide)) [1] 400 ?_
  show AW Z 0 0 1 [some (.ref 0)] [.ref 0] ([[.inr (10, [.int 0, .null, .null, .null])]] : List (List zE)).flatten
  refine AW.objInit hZ hR rfl rfl (zIn_mem (k := 292) (by decide +kernel)) zObjI.1 zObjI.2 rfl ?_
  show AW Z 0 0 4 [some (.ref 0)] [] ([[.inr (10, [.int 0, .null, .null, .null])]] : List (List zE)).flatten
  refine AW.run hZ (zRoom_of hR (by decide) (by decide)) [12] 400 ?_
  show AW Z 0 0 12 [some (.ref 0)] [.int 40, .ref 0] ([[.inr (10, [.int 0, .null, .null, .null])]] : List (List zE)).flatten
  refine AW.newa (t := 0) (N := 40) (ty := .int) (a0 := (40, .inl (fun _ => 0))) hZ hR hN rfl rfl rfl rfl (fun C h => by cases h) (zIn_mem (k := 175) (by decide +kernel)) (fun _ _ => rfl) (by decide) (by decide) (by decide) rfl (by decide) (by decide) (by decide) ?_
  show AW Z 1 40 14 [some (.ref 0)] [.ref 1, .ref 0] ([[.inr (10, [.int 0, .null, .null, .null])], [.inl (0, 40, .inl (fun _ => 0))]] : List (List zE)).flatten
  refine AW.putF (ci := 10) (b := 1) hZ rfl rfl rfl rfl (by decide) rfl rfl (zIn_mem (k := 295) (by decide +kernel)) rfl ⟨Or.inr ⟨_, rfl⟩, Or.inr ⟨_, rfl⟩⟩ (by decide) ?_
  show AW Z 1 40 17 [some (.ref 0)] [] ([[.inr (10, [.int 0, .ref 1, .null, .null])], [.inl (0, 40, .inl (fun _ => 0))]] : List (List zE)).flatten
  refine AW.run hZ (zRoom_of hR (by decide) (by decide)) [20] 400 ?_
  show AW Z 1 40 20 [some (.ref 0)] [.int 40, .ref 0] ([[.inr (10, [.int 0, .ref 1, .null, .null])], [.inl (0, 40, .inl (fun _ => 0))]] : List (List zE)).flatten
  refine AW.newa (t := 0) (N := 40) (ty := .int) (a0 := (40, .inl (fun _ => 0))) hZ hR hN rfl rfl rfl rfl (fun C h => by cases h) (zIn_mem (k := 175) (by decide +kernel)) (fun _ _ => rfl) (by decide) (by decide) (by decide) rfl (by decide) (by decide) (by decide) ?_
  show AW Z 2 80 22 [some (.ref 0)] [.ref 2, .ref 0] ([[.inr (10, [.int 0, .ref 1, .null, .null])], [.inl (0, 40, .inl (fun _ => 0))], [.inl (0, 40, .inl (fun _ => 0))]] : List (List zE)).flatten
  refine AW.putF (ci := 10) (b := 2) hZ rfl rfl rfl rfl (by decide) rfl rfl (zIn_mem (k := 296) (by decide +kernel)) rfl ⟨Or.inr ⟨_, rfl⟩, Or.inr ⟨_, rfl⟩⟩ (by decide) ?_
  show AW Z 2 80 25 [some (.ref 0)] [] ([[.inr (10, [.int 0, .ref 1, .ref 2, .null])], [.inl (0, 40, .inl (fun _ => 0))], [.inl (0, 40, .inl (fun _ => 0))]] : List (List zE)).flatten
  refine AW.run hZ (zRoom_of hR (by decide) (by decide)) [28] 400 ?_
  show AW Z 2 80 28 [some (.ref 0)] [.int 40, .ref 0] ([[.inr (10, [.int 0, .ref 1, .ref 2, .null])], [.inl (0, 40, .inl (fun _ => 0))], [.inl (0, 40, .inl (fun _ => 0))]] : List (List zE)).flatten
  refine AW.newa (t := 0) (N := 40) (ty := .int) (a0 := (40, .inl (fun _ => 0))) hZ hR hN rfl rfl rfl rfl (fun C h => by cases h) (zIn_mem (k := 175) (by decide +kernel)) (fun _ _ => rfl) (by decide) (by decide) (by decide) rfl (by decide) (by decide) (by decide) ?_
  show AW Z 3 120 30 [some (.ref 0)] [.ref 3, .ref 0] ([[.inr (10, [.int 0, .ref 1, .ref 2, .null])], [.inl (0, 40, .inl (fun _ => 0))], [.inl (0, 40, .inl (fun _ => 0))], [.inl (0, 40, .inl (fun _ => 0))]] : List (List zE)).flatten
  refine AW.putF (ci := 10) (b := 3) hZ rfl rfl rfl rfl (by decide) rfl rfl (zIn_mem (k := 297) (by decide +kernel)) rfl ⟨Or.inr ⟨_, rfl⟩, Or.inr ⟨_, rfl⟩⟩ (by decide) ?_
  show AW Z 3 120 33 [some (.ref 0)] [] ([[.inr (10, [.int 0, .ref 1, .ref 2, .ref 3])], [.inl (0, 40, .inl (fun _ => 0))], [.inl (0, 40, .inl (fun _ => 0))], [.inl (0, 40, .inl (fun _ => 0))]] : List (List zE)).flatten
  exact AW.vret hZ hE rfl rfl rfl (by decide) (by decide) rfl ⟨rfl, rfl⟩
set_option maxRecDepth 40000 in
set_option maxHeartbeats 8000000 in
theorem c_Town_init : Ct zMX8_init 4 13 13 1125 [.ref 0] ([] ++ [[.inr (8, [.int 0, .null, .null, .null, .null, .null, .null, .null, .int 0, .int 0, .int 0, .null])]] : List (List zE)).flatten (fun v cc => v = none ∧ cc = ([kTown 0 8 dTown ++ kLaws 8 dLaws] : List (List zE)).flatten) := by
  refine Ct.of zMX8_init_ok (by decide) (Nat.le_of_ble_eq_true rfl) ?_
  intro Z hZ hR hN hE
  show AW Z 0 0 0 [some (.ref 0)] [] ([[.inr (8, [.int 0, .null, .null, .null, .null, .null, .null, .null, .int 0, .int 0, .int 0, .null])]] : List (List zE)).flatten
  refine AW.run hZ (zRoom_of hR (by decide) (by decide)) [1] 400 ?_
  show AW Z 0 0 1 [some (.ref 0)] [.ref 0] ([[.inr (8, [.int 0, .null, .null, .null, .null, .null, .null, .null, .int 0, .int 0, .int 0, .null])]] : List (List zE)).flatten
  refine AW.objInit hZ hR rfl rfl (zIn_mem (k := 182) (by decide +kernel)) zObjI.1 zObjI.2 rfl ?_
  show AW Z 0 0 4 [some (.ref 0)] [] ([[.inr (8, [.int 0, .null, .null, .null, .null, .null, .null, .null, .int 0, .int 0, .int 0, .null])]] : List (List zE)).flatten
  refine AW.run hZ (zRoom_of hR (by decide) (by decide)) [12] 400 ?_
  show AW Z 0 0 12 [some (.ref 0)] [.int 6, .ref 0] ([[.inr (8, [.int 0, .null, .null, .null, .null, .null, .null, .null, .int 0, .int 0, .int 0, .null])]] : List (List zE)).flatten
  refine AW.newa (t := 1) (N := 6) (ty := .long) (a0 := (6, .inr (.inl (fun _ => 0)))) hZ hR hN rfl rfl rfl rfl (fun C h => by cases h) (zIn_mem (k := 176) (by decide +kernel)) (fun _ _ => rfl) (by decide) (by decide) (by decide) rfl (by decide) (by decide) (by decide) ?_
  show AW Z 1 6 14 [some (.ref 0)] [.ref 1, .ref 0] ([[.inr (8, [.int 0, .null, .null, .null, .null, .null, .null, .null, .int 0, .int 0, .int 0, .null])], [.inl (1, 6, .inr (.inl (fun _ => 0)))]] : List (List zE)).flatten
  refine AW.putF (ci := 8) (b := 1) hZ rfl rfl rfl rfl (by decide) rfl rfl (zIn_mem (k := 216) (by decide +kernel)) rfl ⟨Or.inr ⟨_, rfl⟩, Or.inr ⟨_, rfl⟩⟩ (by decide) ?_
  show AW Z 1 6 17 [some (.ref 0)] [] ([[.inr (8, [.int 0, .ref 1, .null, .null, .null, .null, .null, .null, .int 0, .int 0, .int 0, .null])], [.inl (1, 6, .inr (.inl (fun _ => 0)))]] : List (List zE)).flatten
  refine AW.run hZ (zRoom_of hR (by decide) (by decide)) [20] 400 ?_
  show AW Z 1 6 20 [some (.ref 0)] [.int 6, .ref 0] ([[.inr (8, [.int 0, .ref 1, .null, .null, .null, .null, .null, .null, .int 0, .int 0, .int 0, .null])], [.inl (1, 6, .inr (.inl (fun _ => 0)))]] : List (List zE)).flatten
  refine AW.newa (t := 0) (N := 6) (ty := .int) (a0 := (6, .inl (fun _ => 0))) hZ hR hN rfl rfl rfl rfl (fun C h => by cases h) (zIn_mem (k := 175) (by decide +kernel)) (fun _ _ => rfl) (by decide) (by decide) (by decide) rfl (by decide) (by decide) (by decide) ?_
  show AW Z 2 12 22 [some (.ref 0)] [.ref 2, .ref 0] ([[.inr (8, [.int 0, .ref 1, .null, .null, .null, .null, .null, .null, .int 0, .int 0, .int 0, .null])], [.inl (1, 6, .inr (.inl (fun _ => 0)))], [.inl (0, 6, .inl (fun _ => 0))]] : List (List zE)).flatten
  refine AW.putF (ci := 8) (b := 2) hZ rfl rfl rfl rfl (by decide) rfl rfl (zIn_mem (k := 217) (by decide +kernel)) rfl ⟨Or.inr ⟨_, rfl⟩, Or.inr ⟨_, rfl⟩⟩ (by decide) ?_
  show AW Z 2 12 25 [some (.ref 0)] [] ([[.inr (8, [.int 0, .ref 1, .ref 2, .null, .null, .null, .null, .null, .int 0, .int 0, .int 0, .null])], [.inl (1, 6, .inr (.inl (fun _ => 0)))], [.inl (0, 6, .inl (fun _ => 0))]] : List (List zE)).flatten
  refine AW.run hZ (zRoom_of hR (by decide) (by decide)) [28] 400 ?_
  show AW Z 2 12 28 [some (.ref 0)] [.int 6, .ref 0] ([[.inr (8, [.int 0, .ref 1, .ref 2, .null, .null, .null, .null, .null, .int 0, .int 0, .int 0, .null])], [.inl (1, 6, .inr (.inl (fun _ => 0)))], [.inl (0, 6, .inl (fun _ => 0))]] : List (List zE)).flatten
  refine AW.newa (t := 0) (N := 6) (ty := .int) (a0 := (6, .inl (fun _ => 0))) hZ hR hN rfl rfl rfl rfl (fun C h => by cases h) (zIn_mem (k := 175) (by decide +kernel)) (fun _ _ => rfl) (by decide) (by decide) (by decide) rfl (by decide) (by decide) (by decide) ?_
  show AW Z 3 18 30 [some (.ref 0)] [.ref 3, .ref 0] ([[.inr (8, [.int 0, .ref 1, .ref 2, .null, .null, .null, .null, .null, .int 0, .int 0, .int 0, .null])], [.inl (1, 6, .inr (.inl (fun _ => 0)))], [.inl (0, 6, .inl (fun _ => 0))], [.inl (0, 6, .inl (fun _ => 0))]] : List (List zE)).flatten
  refine AW.putF (ci := 8) (b := 3) hZ rfl rfl rfl rfl (by decide) rfl rfl (zIn_mem (k := 218) (by decide +kernel)) rfl ⟨Or.inr ⟨_, rfl⟩, Or.inr ⟨_, rfl⟩⟩ (by decide) ?_
  show AW Z 3 18 33 [some (.ref 0)] [] ([[.inr (8, [.int 0, .ref 1, .ref 2, .ref 3, .null, .null, .null, .null, .int 0, .int 0, .int 0, .null])], [.inl (1, 6, .inr (.inl (fun _ => 0)))], [.inl (0, 6, .inl (fun _ => 0))], [.inl (0, 6, .inl (fun _ => 0))]] : List (List zE)).flatten
  refine AW.run hZ (zRoom_of hR (by decide) (by decide)) [36] 400 ?_
  show AW Z 3 18 36 [some (.ref 0)] [.int 6, .ref 0] ([[.inr (8, [.int 0, .ref 1, .ref 2, .ref 3, .null, .null, .null, .null, .int 0, .int 0, .int 0, .null])], [.inl (1, 6, .inr (.inl (fun _ => 0)))], [.inl (0, 6, .inl (fun _ => 0))], [.inl (0, 6, .inl (fun _ => 0))]] : List (List zE)).flatten
  refine AW.newa (t := 0) (N := 6) (ty := .int) (a0 := (6, .inl (fun _ => 0))) hZ hR hN rfl rfl rfl rfl (fun C h => by cases h) (zIn_mem (k := 175) (by decide +kernel)) (fun _ _ => rfl) (by decide) (by decide) (by decide) rfl (by decide) (by decide) (by decide) ?_
  show AW Z 4 24 38 [some (.ref 0)] [.ref 4, .ref 0] ([[.inr (8, [.int 0, .ref 1, .ref 2, .ref 3, .null, .null, .null, .null, .int 0, .int 0, .int 0, .null])], [.inl (1, 6, .inr (.inl (fun _ => 0)))], [.inl (0, 6, .inl (fun _ => 0))], [.inl (0, 6, .inl (fun _ => 0))], [.inl (0, 6, .inl (fun _ => 0))]] : List (List zE)).flatten
  refine AW.putF (ci := 8) (b := 4) hZ rfl rfl rfl rfl (by decide) rfl rfl (zIn_mem (k := 219) (by decide +kernel)) rfl ⟨Or.inr ⟨_, rfl⟩, Or.inr ⟨_, rfl⟩⟩ (by decide) ?_
  show AW Z 4 24 41 [some (.ref 0)] [] ([[.inr (8, [.int 0, .ref 1, .ref 2, .ref 3, .ref 4, .null, .null, .null, .int 0, .int 0, .int 0, .null])], [.inl (1, 6, .inr (.inl (fun _ => 0)))], [.inl (0, 6, .inl (fun _ => 0))], [.inl (0, 6, .inl (fun _ => 0))], [.inl (0, 6, .inl (fun _ => 0))]] : List (List zE)).flatten
  refine AW.run hZ (zRoom_of hR (by decide) (by decide)) [44] 400 ?_
  show AW Z 4 24 44 [some (.ref 0)] [.int 6, .ref 0] ([[.inr (8, [.int 0, .ref 1, .ref 2, .ref 3, .ref 4, .null, .null, .null, .int 0, .int 0, .int 0, .null])], [.inl (1, 6, .inr (.inl (fun _ => 0)))], [.inl (0, 6, .inl (fun _ => 0))], [.inl (0, 6, .inl (fun _ => 0))], [.inl (0, 6, .inl (fun _ => 0))]] : List (List zE)).flatten
  refine AW.newa (t := 0) (N := 6) (ty := .int) (a0 := (6, .inl (fun _ => 0))) hZ hR hN rfl rfl rfl rfl (fun C h => by cases h) (zIn_mem (k := 175) (by decide +kernel)) (fun _ _ => rfl) (by decide) (by decide) (by decide) rfl (by decide) (by decide) (by decide) ?_
  show AW Z 5 30 46 [some (.ref 0)] [.ref 5, .ref 0] ([[.inr (8, [.int 0, .ref 1, .ref 2, .ref 3, .ref 4, .null, .null, .null, .int 0, .int 0, .int 0, .null])], [.inl (1, 6, .inr (.inl (fun _ => 0)))], [.inl (0, 6, .inl (fun _ => 0))], [.inl (0, 6, .inl (fun _ => 0))], [.inl (0, 6, .inl (fun _ => 0))], [.inl (0, 6, .inl (fun _ => 0))]] : List (List zE)).flatten
  refine AW.putF (ci := 8) (b := 5) hZ rfl rfl rfl rfl (by decide) rfl rfl (zIn_mem (k := 222) (by decide +kernel)) rfl ⟨Or.inr ⟨_, rfl⟩, Or.inr ⟨_, rfl⟩⟩ (by decide) ?_
  show AW Z 5 30 49 [some (.ref 0)] [] ([[.inr (8, [.int 0, .ref 1, .ref 2, .ref 3, .ref 4, .ref 5, .null, .null, .int 0, .int 0, .int 0, .null])], [.inl (1, 6, .inr (.inl (fun _ => 0)))], [.inl (0, 6, .inl (fun _ => 0))], [.inl (0, 6, .inl (fun _ => 0))], [.inl (0, 6, .inl (fun _ => 0))], [.inl (0, 6, .inl (fun _ => 0))]] : List (List zE)).flatten
  refine AW.run hZ (zRoom_of hR (by decide) (by decide)) [52] 400 ?_
  show AW Z 5 30 52 [some (.ref 0)] [.int 6, .ref 0] ([[.inr (8, [.int 0, .ref 1, .ref 2, .ref 3, .ref 4, .ref 5, .null, .null, .int 0, .int 0, .int 0, .null])], [.inl (1, 6, .inr (.inl (fun _ => 0)))], [.inl (0, 6, .inl (fun _ => 0))], [.inl (0, 6, .inl (fun _ => 0))], [.inl (0, 6, .inl (fun _ => 0))], [.inl (0, 6, .inl (fun _ => 0))]] : List (List zE)).flatten
  refine AW.newa (t := 0) (N := 6) (ty := .int) (a0 := (6, .inl (fun _ => 0))) hZ hR hN rfl rfl rfl rfl (fun C h => by cases h) (zIn_mem (k := 175) (by decide +kernel)) (fun _ _ => rfl) (by decide) (by decide) (by decide) rfl (by decide) (by decide) (by decide) ?_
  show AW Z 6 36 54 [some (.ref 0)] [.ref 6, .ref 0] ([[.inr (8, [.int 0, .ref 1, .ref 2, .ref 3, .ref 4, .ref 5, .null, .null, .int 0, .int 0, .int 0, .null])], [.inl (1, 6, .inr (.inl (fun _ => 0)))], [.inl (0, 6, .inl (fun _ => 0))], [.inl (0, 6, .inl (fun _ => 0))], [.inl (0, 6, .inl (fun _ => 0))], [.inl (0, 6, .inl (fun _ => 0))], [.inl (0, 6, .inl (fun _ => 0))]] : List (List zE)).flatten
  refine AW.putF (ci := 8) (b := 6) hZ rfl rfl rfl rfl (by decide) rfl rfl (zIn_mem (k := 225) (by decide +kernel)) rfl ⟨Or.inr ⟨_, rfl⟩, Or.inr ⟨_, rfl⟩⟩ (by decide) ?_
  show AW Z 6 36 57 [some (.ref 0)] [] ([[.inr (8, [.int 0, .ref 1, .ref 2, .ref 3, .ref 4, .ref 5, .ref 6, .null, .int 0, .int 0, .int 0, .null])], [.inl (1, 6, .inr (.inl (fun _ => 0)))], [.inl (0, 6, .inl (fun _ => 0))], [.inl (0, 6, .inl (fun _ => 0))], [.inl (0, 6, .inl (fun _ => 0))], [.inl (0, 6, .inl (fun _ => 0))], [.inl (0, 6, .inl (fun _ => 0))]] : List (List zE)).flatten
  refine AW.run hZ (zRoom_of hR (by decide) (by decide)) [60] 400 ?_
  show AW Z 6 36 60 [some (.ref 0)] [.int 6, .ref 0] ([[.inr (8, [.int 0, .ref 1, .ref 2, .ref 3, .ref 4, .ref 5, .ref 6, .null, .int 0, .int 0, .int 0, .null])], [.inl (1, 6, .inr (.inl (fun _ => 0)))], [.inl (0, 6, .inl (fun _ => 0))], [.inl (0, 6, .inl (fun _ => 0))], [.inl (0, 6, .inl (fun _ => 0))], [.inl (0, 6, .inl (fun _ => 0))], [.inl (0, 6, .inl (fun _ => 0))]] : List (List zE)).flatten
  refine AW.newa (t := 0) (N := 6) (ty := .int) (a0 := (6, .inl (fun _ => 0))) hZ hR hN rfl rfl rfl rfl (fun C h => by cases h) (zIn_mem (k := 175) (by decide +kernel)) (fun _ _ => rfl) (by decide) (by decide) (by decide) rfl (by decide) (by decide) (by decide) ?_
  show AW Z 7 42 62 [some (.ref 0)] [.ref 7, .ref 0] ([[.inr (8, [.int 0, .ref 1, .ref 2, .ref 3, .ref 4, .ref 5, .ref 6, .null, .int 0, .int 0, .int 0, .null])], [.inl (1, 6, .inr (.inl (fun _ => 0)))], [.inl (0, 6, .inl (fun _ => 0))], [.inl (0, 6, .inl (fun _ => 0))], [.inl (0, 6, .inl (fun _ => 0))], [.inl (0, 6, .inl (fun _ => 0))], [.inl (0, 6, .inl (fun _ => 0))], [.inl (0, 6, .inl (fun _ => 0))]] : List (List zE)).flatten
  refine AW.putF (ci := 8) (b := 7) hZ rfl rfl rfl rfl (by decide) rfl rfl (zIn_mem (k := 228) (by decide +kernel)) rfl ⟨Or.inr ⟨_, rfl⟩, Or.inr ⟨_, rfl⟩⟩ (by decide) ?_
  show AW Z 7 42 65 [some (.ref 0)] [] ([[.inr (8, [.int 0, .ref 1, .ref 2, .ref 3, .ref 4, .ref 5, .ref 6, .ref 7, .int 0, .int 0, .int 0, .null])], [.inl (1, 6, .inr (.inl (fun _ => 0)))], [.inl (0, 6, .inl (fun _ => 0))], [.inl (0, 6, .inl (fun _ => 0))], [.inl (0, 6, .inl (fun _ => 0))], [.inl (0, 6, .inl (fun _ => 0))], [.inl (0, 6, .inl (fun _ => 0))], [.inl (0, 6, .inl (fun _ => 0))]] : List (List zE)).flatten
  refine AW.run hZ (zRoom_of hR (by decide) (by decide)) [78] 400 ?_
  show AW Z 7 42 78 [some (.ref 0)] [.int 0, .ref 0] ([[.inr (8, [.int 0, .ref 1, .ref 2, .ref 3, .ref 4, .ref 5, .ref 6, .ref 7, .int 0, .int 50, .int 0, .null])], [.inl (1, 6, .inr (.inl (fun _ => 0)))], [.inl (0, 6, .inl (fun _ => 0))], [.inl (0, 6, .inl (fun _ => 0))], [.inl (0, 6, .inl (fun _ => 0))], [.inl (0, 6, .inl (fun _ => 0))], [.inl (0, 6, .inl (fun _ => 0))], [.inl (0, 6, .inl (fun _ => 0))]] : List (List zE)).flatten
  refine AW.run hZ (zRoom_of hR (by decide) (by decide)) [] 1 ?_
  show ((0 : Int32) = 0 ∨ (0 : Int32) = 1) ∧ AW Z 7 42 81 [some (.ref 0)] [] ([[.inr (8, [.int 0, .ref 1, .ref 2, .ref 3, .ref 4, .ref 5, .ref 6, .ref 7, .int 0, .int 50, .int 0, .null])], [.inl (1, 6, .inr (.inl (fun _ => 0)))], [.inl (0, 6, .inl (fun _ => 0))], [.inl (0, 6, .inl (fun _ => 0))], [.inl (0, 6, .inl (fun _ => 0))], [.inl (0, 6, .inl (fun _ => 0))], [.inl (0, 6, .inl (fun _ => 0))], [.inl (0, 6, .inl (fun _ => 0))]] : List (List zE)).flatten
  refine ⟨by decide, ?_⟩
  refine AW.run hZ (zRoom_of hR (by decide) (by decide)) [82] 400 ?_
  show AW Z 7 42 82 [some (.ref 0)] [.ref 0] ([[.inr (8, [.int 0, .ref 1, .ref 2, .ref 3, .ref 4, .ref 5, .ref 6, .ref 7, .int 0, .int 50, .int 0, .null])], [.inl (1, 6, .inr (.inl (fun _ => 0)))], [.inl (0, 6, .inl (fun _ => 0))], [.inl (0, 6, .inl (fun _ => 0))], [.inl (0, 6, .inl (fun _ => 0))], [.inl (0, 6, .inl (fun _ => 0))], [.inl (0, 6, .inl (fun _ => 0))], [.inl (0, 6, .inl (fun _ => 0))]] : List (List zE)).flatten
  refine AW.new (ci := 2) (N := 6) (C := "BorrowedLives$Laws") (T := zT2) (fs := [.null, .int 0, .null, .null, .null, .null]) hZ hR hN rfl rfl rfl (zIn_mem (k := 183) (by decide +kernel)) (zIn_mem (k := 184) (by decide +kernel)) (zIn_mem (k := 110) (by decide +kernel)) rfl (by decide) (by decide) (by decide) rfl rfl ?_
  show AW Z 8 48 85 [some (.ref 0)] [.ref 8, .ref 0] ([[.inr (8, [.int 0, .ref 1, .ref 2, .ref 3, .ref 4, .ref 5, .ref 6, .ref 7, .int 0, .int 50, .int 0, .null])], [.inl (1, 6, .inr (.inl (fun _ => 0)))], [.inl (0, 6, .inl (fun _ => 0))], [.inl (0, 6, .inl (fun _ => 0))], [.inl (0, 6, .inl (fun _ => 0))], [.inl (0, 6, .inl (fun _ => 0))], [.inl (0, 6, .inl (fun _ => 0))], [.inl (0, 6, .inl (fun _ => 0))], [.inr (2, [.null, .int 0, .null, .null, .null, .null])]] : List (List zE)).flatten
  refine AW.run hZ (zRoom_of hR (by decide) (by decide)) [86] 400 ?_
  show AW Z 8 48 86 [some (.ref 0)] [.ref 8, .ref 8, .ref 0] ([[.inr (8, [.int 0, .ref 1, .ref 2, .ref 3, .ref 4, .ref 5, .ref 6, .ref 7, .int 0, .int 50, .int 0, .null])], [.inl (1, 6, .inr (.inl (fun _ => 0)))], [.inl (0, 6, .inl (fun _ => 0))], [.inl (0, 6, .inl (fun _ => 0))], [.inl (0, 6, .inl (fun _ => 0))], [.inl (0, 6, .inl (fun _ => 0))], [.inl (0, 6, .inl (fun _ => 0))], [.inl (0, 6, .inl (fun _ => 0))], [.inr (2, [.null, .int 0, .null, .null, .null, .null])]] : List (List zE)).flatten
  refine AW.callIc (XA := [[.inr (8, [.int 0, .ref 1, .ref 2, .ref 3, .ref 4, .ref 5, .ref 6, .ref 7, .int 0, .int 50, .int 0, .null])], [.inl (1, 6, .inr (.inl (fun _ => 0)))], [.inl (0, 6, .inl (fun _ => 0))], [.inl (0, 6, .inl (fun _ => 0))], [.inl (0, 6, .inl (fun _ => 0))], [.inl (0, 6, .inl (fun _ => 0))], [.inl (0, 6, .inl (fun _ => 0))], [.inl (0, 6, .inl (fun _ => 0))]]) (YA := []) hZ hR hN (c_Laws_init ) zMX2_init_ok rfl rfl rfl zK_BorrowedLives_Town_50 zI_X2_init rfl [1, 1, 1, 1, 1, 1, 1, 1, 1] [] [8] rfl rfl rfl (by first | decide | rfl) (by first | decide | rfl) (by first | decide | rfl) (by first | decide | rfl) (by first | decide | rfl) (by first | decide | rfl) (by first | decide | rfl) (by first | decide | rfl) rfl rfl ?_
  rintro v cc ⟨rfl, rfl⟩
  refine ⟨[], _, _, rfl, rfl, ?_⟩
  show AW Z 13 1125 89 [some (.ref 0)] [.ref 8, .ref 0] ([[.inr (8, [.int 0, .ref 1, .ref 2, .ref 3, .ref 4, .ref 5, .ref 6, .ref 7, .int 0, .int 50, .int 0, .null])], [.inl (1, 6, .inr (.inl (fun _ => 0)))], [.inl (0, 6, .inl (fun _ => 0))], [.inl (0, 6, .inl (fun _ => 0))], [.inl (0, 6, .inl (fun _ => 0))], [.inl (0, 6, .inl (fun _ => 0))], [.inl (0, 6, .inl (fun _ => 0))], [.inl (0, 6, .inl (fun _ => 0))], kLaws 8 dLaws] : List (List zE)).flatten
  refine AW.putF (ci := 8) (b := 11) hZ rfl rfl rfl rfl (by decide) rfl rfl (zIn_mem (k := 238) (by decide +kernel)) rfl ⟨Or.inr ⟨_, rfl⟩, Or.inl ⟨_, rfl⟩⟩ (by decide) ?_
  show AW Z 13 1125 92 [some (.ref 0)] [] ([[.inr (8, [.int 0, .ref 1, .ref 2, .ref 3, .ref 4, .ref 5, .ref 6, .ref 7, .int 0, .int 50, .int 0, .ref 8])], [.inl (1, 6, .inr (.inl (fun _ => 0)))], [.inl (0, 6, .inl (fun _ => 0))], [.inl (0, 6, .inl (fun _ => 0))], [.inl (0, 6, .inl (fun _ => 0))], [.inl (0, 6, .inl (fun _ => 0))], [.inl (0, 6, .inl (fun _ => 0))], [.inl (0, 6, .inl (fun _ => 0))], kLaws 8 dLaws] : List (List zE)).flatten
  exact AW.vret hZ hE rfl rfl rfl (by decide) (by decide) rfl ⟨rfl, rfl⟩
set_option maxRecDepth 40000 in
set_option maxHeartbeats 8000000 in
theorem c_Lives_init (v0 : VTown) (v1 : VLaws) : Ct zMX3_init 2 7 7 42 [.ref 14, .ref 0] ([kTown 0 8 v0, kLaws 8 v1] ++ [[.inr (3, [.null, .null, .null, .null, .null, .null, .null, .null, .int 0, .int 0, .int 0, .int 0])]] : List (List zE)).flatten (fun v cc => v = none ∧ cc = ([kTown 0 8 v0, kLaws 8 v1, kLives 14 0 dLives] : List (List zE)).flatten) := by
  refine Ct.of zMX3_init_ok (by decide) (Nat.le_of_ble_eq_true rfl) ?_
  intro Z hZ hR hN hE
  show AW Z 0 0 0 [some (.ref 14), some (.ref 0)] [] ([kTown 0 8 v0, kLaws 8 v1, [.inr (3, [.null, .null, .null, .null, .null, .null, .null, .null, .int 0, .int 0, .int 0, .int 0])]] : List (List zE)).flatten
  refine AW.run hZ (zRoom_of hR (by decide) (by decide)) [1] 400 ?_
  show AW Z 0 0 1 [some (.ref 14), some (.ref 0)] [.ref 14] ([kTown 0 8 v0, kLaws 8 v1, [.inr (3, [.null, .null, .null, .null, .null, .null, .null, .null, .int 0, .int 0, .int 0, .int 0])]] : List (List zE)).flatten
  refine AW.objInit hZ hR rfl rfl (zIn_mem (k := 334) (by decide +kernel)) zObjI.1 zObjI.2 rfl ?_
  show AW Z 0 0 4 [some (.ref 14), some (.ref 0)] [] ([kTown 0 8 v0, kLaws 8 v1, [.inr (3, [.null, .null, .null, .null, .null, .null, .null, .null, .int 0, .int 0, .int 0, .int 0])]] : List (List zE)).flatten
  refine AW.run hZ (zRoom_of hR (by decide) (by decide)) [7] 400 ?_
  show AW Z 0 0 7 [some (.ref 14), some (.ref 0)] [.int 6, .ref 14] ([kTown 0 8 v0, kLaws 8 v1, [.inr (3, [.null, .null, .null, .null, .null, .null, .null, .null, .int 0, .int 0, .int 0, .int 0])]] : List (List zE)).flatten
  refine AW.newa (t := 0) (N := 6) (ty := .int) (a0 := (6, .inl (fun _ => 0))) hZ hR hN rfl rfl rfl rfl (fun C h => by cases h) (zIn_mem (k := 175) (by decide +kernel)) (fun _ _ => rfl) (by decide) (by decide) (by decide) rfl (by decide) (by decide) (by decide) ?_
  show AW Z 1 6 9 [some (.ref 14), some (.ref 0)] [.ref 15, .ref 14] ([kTown 0 8 v0, kLaws 8 v1, [.inr (3, [.null, .null, .null, .null, .null, .null, .null, .null, .int 0, .int 0, .int 0, .int 0])], [.inl (0, 6, .inl (fun _ => 0))]] : List (List zE)).flatten
  refine AW.putF (ci := 3) (b := 1) hZ rfl rfl rfl rfl (by decide) rfl rfl (zIn_mem (k := 338) (by decide +kernel)) rfl ⟨Or.inr ⟨_, rfl⟩, Or.inr ⟨_, rfl⟩⟩ (by decide) ?_
  show AW Z 1 6 12 [some (.ref 14), some (.ref 0)] [] ([kTown 0 8 v0, kLaws 8 v1, [.inr (3, [.null, .ref 15, .null, .null, .null, .null, .null, .null, .int 0, .int 0, .int 0, .int 0])], [.inl (0, 6, .inl (fun _ => 0))]] : List (List zE)).flatten
  refine AW.run hZ (zRoom_of hR (by decide) (by decide)) [15] 400 ?_
  show AW Z 1 6 15 [some (.ref 14), some (.ref 0)] [.int 6, .ref 14] ([kTown 0 8 v0, kLaws 8 v1, [.inr (3, [.null, .ref 15, .null, .null, .null, .null, .null, .null, .int 0, .int 0, .int 0, .int 0])], [.inl (0, 6, .inl (fun _ => 0))]] : List (List zE)).flatten
  refine AW.newa (t := 0) (N := 6) (ty := .int) (a0 := (6, .inl (fun _ => 0))) hZ hR hN rfl rfl rfl rfl (fun C h => by cases h) (zIn_mem (k := 175) (by decide +kernel)) (fun _ _ => rfl) (by decide) (by decide) (by decide) rfl (by decide) (by decide) (by decide) ?_
  show AW Z 2 12 17 [some (.ref 14), some (.ref 0)] [.ref 16, .ref 14] ([kTown 0 8 v0, kLaws 8 v1, [.inr (3, [.null, .ref 15, .null, .null, .null, .null, .null, .null, .int 0, .int 0, .int 0, .int 0])], [.inl (0, 6, .inl (fun _ => 0))], [.inl (0, 6, .inl (fun _ => 0))]] : List (List zE)).flatten
  refine AW.putF (ci := 3) (b := 2) hZ rfl rfl rfl rfl (by decide) rfl rfl (zIn_mem (k := 342) (by decide +kernel)) rfl ⟨Or.inr ⟨_, rfl⟩, Or.inr ⟨_, rfl⟩⟩ (by decide) ?_
  show AW Z 2 12 20 [some (.ref 14), some (.ref 0)] [] ([kTown 0 8 v0, kLaws 8 v1, [.inr (3, [.null, .ref 15, .ref 16, .null, .null, .null, .null, .null, .int 0, .int 0, .int 0, .int 0])], [.inl (0, 6, .inl (fun _ => 0))], [.inl (0, 6, .inl (fun _ => 0))]] : List (List zE)).flatten
  refine AW.run hZ (zRoom_of hR (by decide) (by decide)) [23] 400 ?_
  show AW Z 2 12 23 [some (.ref 14), some (.ref 0)] [.int 6, .ref 14] ([kTown 0 8 v0, kLaws 8 v1, [.inr (3, [.null, .ref 15, .ref 16, .null, .null, .null, .null, .null, .int 0, .int 0, .int 0, .int 0])], [.inl (0, 6, .inl (fun _ => 0))], [.inl (0, 6, .inl (fun _ => 0))]] : List (List zE)).flatten
  refine AW.newa (t := 0) (N := 6) (ty := .int) (a0 := (6, .inl (fun _ => 0))) hZ hR hN rfl rfl rfl rfl (fun C h => by cases h) (zIn_mem (k := 175) (by decide +kernel)) (fun _ _ => rfl) (by decide) (by decide) (by decide) rfl (by decide) (by decide) (by decide) ?_
  show AW Z 3 18 25 [some (.ref 14), some (.ref 0)] [.ref 17, .ref 14] ([kTown 0 8 v0, kLaws 8 v1, [.inr (3, [.null, .ref 15, .ref 16, .null, .null, .null, .null, .null, .int 0, .int 0, .int 0, .int 0])], [.inl (0, 6, .inl (fun _ => 0))], [.inl (0, 6, .inl (fun _ => 0))], [.inl (0, 6, .inl (fun _ => 0))]] : List (List zE)).flatten
  refine AW.putF (ci := 3) (b := 3) hZ rfl rfl rfl rfl (by decide) rfl rfl (zIn_mem (k := 346) (by decide +kernel)) rfl ⟨Or.inr ⟨_, rfl⟩, Or.inr ⟨_, rfl⟩⟩ (by decide) ?_
  show AW Z 3 18 28 [some (.ref 14), some (.ref 0)] [] ([kTown 0 8 v0, kLaws 8 v1, [.inr (3, [.null, .ref 15, .ref 16, .ref 17, .null, .null, .null, .null, .int 0, .int 0, .int 0, .int 0])], [.inl (0, 6, .inl (fun _ => 0))], [.inl (0, 6, .inl (fun _ => 0))], [.inl (0, 6, .inl (fun _ => 0))]] : List (List zE)).flatten
  refine AW.run hZ (zRoom_of hR (by decide) (by decide)) [31] 400 ?_
  show AW Z 3 18 31 [some (.ref 14), some (.ref 0)] [.int 6, .ref 14] ([kTown 0 8 v0, kLaws 8 v1, [.inr (3, [.null, .ref 15, .ref 16, .ref 17, .null, .null, .null, .null, .int 0, .int 0, .int 0, .int 0])], [.inl (0, 6, .inl (fun _ => 0))], [.inl (0, 6, .inl (fun _ => 0))], [.inl (0, 6, .inl (fun _ => 0))]] : List (List zE)).flatten
  refine AW.newa (t := 0) (N := 6) (ty := .int) (a0 := (6, .inl (fun _ => 0))) hZ hR hN rfl rfl rfl rfl (fun C h => by cases h) (zIn_mem (k := 175) (by decide +kernel)) (fun _ _ => rfl) (by decide) (by decide) (by decide) rfl (by decide) (by decide) (by decide) ?_
  show AW Z 4 24 33 [some (.ref 14), some (.ref 0)] [.ref 18, .ref 14] ([kTown 0 8 v0, kLaws 8 v1, [.inr (3, [.null, .ref 15, .ref 16, .ref 17, .null, .null, .null, .null, .int 0, .int 0, .int 0, .int 0])], [.inl (0, 6, .inl (fun _ => 0))], [.inl (0, 6, .inl (fun _ => 0))], [.inl (0, 6, .inl (fun _ => 0))], [.inl (0, 6, .inl (fun _ => 0))]] : List (List zE)).flatten
  refine AW.putF (ci := 3) (b := 4) hZ rfl rfl rfl rfl (by decide) rfl rfl (zIn_mem (k := 350) (by decide +kernel)) rfl ⟨Or.inr ⟨_, rfl⟩, Or.inr ⟨_, rfl⟩⟩ (by decide) ?_
  show AW Z 4 24 36 [some (.ref 14), some (.ref 0)] [] ([kTown 0 8 v0, kLaws 8 v1, [.inr (3, [.null, .ref 15, .ref 16, .ref 17, .ref 18, .null, .null, .null, .int 0, .int 0, .int 0, .int 0])], [.inl (0, 6, .inl (fun _ => 0))], [.inl (0, 6, .inl (fun _ => 0))], [.inl (0, 6, .inl (fun _ => 0))], [.inl (0, 6, .inl (fun _ => 0))]] : List (List zE)).flatten
  refine AW.run hZ (zRoom_of hR (by decide) (by decide)) [39] 400 ?_
  show AW Z 4 24 39 [some (.ref 14), some (.ref 0)] [.int 6, .ref 14] ([kTown 0 8 v0, kLaws 8 v1, [.inr (3, [.null, .ref 15, .ref 16, .ref 17, .ref 18, .null, .null, .null, .int 0, .int 0, .int 0, .int 0])], [.inl (0, 6, .inl (fun _ => 0))], [.inl (0, 6, .inl (fun _ => 0))], [.inl (0, 6, .inl (fun _ => 0))], [.inl (0, 6, .inl (fun _ => 0))]] : List (List zE)).flatten
  refine AW.newa (t := 0) (N := 6) (ty := .int) (a0 := (6, .inl (fun _ => 0))) hZ hR hN rfl rfl rfl rfl (fun C h => by cases h) (zIn_mem (k := 175) (by decide +kernel)) (fun _ _ => rfl) (by decide) (by decide) (by decide) rfl (by decide) (by decide) (by decide) ?_
  show AW Z 5 30 41 [some (.ref 14), some (.ref 0)] [.ref 19, .ref 14] ([kTown 0 8 v0, kLaws 8 v1, [.inr (3, [.null, .ref 15, .ref 16, .ref 17, .ref 18, .null, .null, .null, .int 0, .int 0, .int 0, .int 0])], [.inl (0, 6, .inl (fun _ => 0))], [.inl (0, 6, .inl (fun _ => 0))], [.inl (0, 6, .inl (fun _ => 0))], [.inl (0, 6, .inl (fun _ => 0))], [.inl (0, 6, .inl (fun _ => 0))]] : List (List zE)).flatten
  refine AW.putF (ci := 3) (b := 5) hZ rfl rfl rfl rfl (by decide) rfl rfl (zIn_mem (k := 354) (by decide +kernel)) rfl ⟨Or.inr ⟨_, rfl⟩, Or.inr ⟨_, rfl⟩⟩ (by decide) ?_
  show AW Z 5 30 44 [some (.ref 14), some (.ref 0)] [] ([kTown 0 8 v0, kLaws 8 v1, [.inr (3, [.null, .ref 15, .ref 16, .ref 17, .ref 18, .ref 19, .null, .null, .int 0, .int 0, .int 0, .int 0])], [.inl (0, 6, .inl (fun _ => 0))], [.inl (0, 6, .inl (fun _ => 0))], [.inl (0, 6, .inl (fun _ => 0))], [.inl (0, 6, .inl (fun _ => 0))], [.inl (0, 6, .inl (fun _ => 0))]] : List (List zE)).flatten
  refine AW.run hZ (zRoom_of hR (by decide) (by decide)) [47] 400 ?_
  show AW Z 5 30 47 [some (.ref 14), some (.ref 0)] [.int 6, .ref 14] ([kTown 0 8 v0, kLaws 8 v1, [.inr (3, [.null, .ref 15, .ref 16, .ref 17, .ref 18, .ref 19, .null, .null, .int 0, .int 0, .int 0, .int 0])], [.inl (0, 6, .inl (fun _ => 0))], [.inl (0, 6, .inl (fun _ => 0))], [.inl (0, 6, .inl (fun _ => 0))], [.inl (0, 6, .inl (fun _ => 0))], [.inl (0, 6, .inl (fun _ => 0))]] : List (List zE)).flatten
  refine AW.newa (t := 0) (N := 6) (ty := .int) (a0 := (6, .inl (fun _ => 0))) hZ hR hN rfl rfl rfl rfl (fun C h => by cases h) (zIn_mem (k := 175) (by decide +kernel)) (fun _ _ => rfl) (by decide) (by decide) (by decide) rfl (by decide) (by decide) (by decide) ?_
  show AW Z 6 36 49 [some (.ref 14), some (.ref 0)] [.ref 20, .ref 14] ([kTown 0 8 v0, kLaws 8 v1, [.inr (3, [.null, .ref 15, .ref 16, .ref 17, .ref 18, .ref 19, .null, .null, .int 0, .int 0, .int 0, .int 0])], [.inl (0, 6, .inl (fun _ => 0))], [.inl (0, 6, .inl (fun _ => 0))], [.inl (0, 6, .inl (fun _ => 0))], [.inl (0, 6, .inl (fun _ => 0))], [.inl (0, 6, .inl (fun _ => 0))], [.inl (0, 6, .inl (fun _ => 0))]] : List (List zE)).flatten
  refine AW.putF (ci := 3) (b := 6) hZ rfl rfl rfl rfl (by decide) rfl rfl (zIn_mem (k := 356) (by decide +kernel)) rfl ⟨Or.inr ⟨_, rfl⟩, Or.inr ⟨_, rfl⟩⟩ (by decide) ?_
  show AW Z 6 36 52 [some (.ref 14), some (.ref 0)] [] ([kTown 0 8 v0, kLaws 8 v1, [.inr (3, [.null, .ref 15, .ref 16, .ref 17, .ref 18, .ref 19, .ref 20, .null, .int 0, .int 0, .int 0, .int 0])], [.inl (0, 6, .inl (fun _ => 0))], [.inl (0, 6, .inl (fun _ => 0))], [.inl (0, 6, .inl (fun _ => 0))], [.inl (0, 6, .inl (fun _ => 0))], [.inl (0, 6, .inl (fun _ => 0))], [.inl (0, 6, .inl (fun _ => 0))]] : List (List zE)).flatten
  refine AW.run hZ (zRoom_of hR (by decide) (by decide)) [55] 400 ?_
  show AW Z 6 36 55 [some (.ref 14), some (.ref 0)] [.int 6, .ref 14] ([kTown 0 8 v0, kLaws 8 v1, [.inr (3, [.null, .ref 15, .ref 16, .ref 17, .ref 18, .ref 19, .ref 20, .null, .int 0, .int 0, .int 0, .int 0])], [.inl (0, 6, .inl (fun _ => 0))], [.inl (0, 6, .inl (fun _ => 0))], [.inl (0, 6, .inl (fun _ => 0))], [.inl (0, 6, .inl (fun _ => 0))], [.inl (0, 6, .inl (fun _ => 0))], [.inl (0, 6, .inl (fun _ => 0))]] : List (List zE)).flatten
  refine AW.newa (t := 0) (N := 6) (ty := .int) (a0 := (6, .inl (fun _ => 0))) hZ hR hN rfl rfl rfl rfl (fun C h => by cases h) (zIn_mem (k := 175) (by decide +kernel)) (fun _ _ => rfl) (by decide) (by decide) (by decide) rfl (by decide) (by decide) (by decide) ?_
  show AW Z 7 42 57 [some (.ref 14), some (.ref 0)] [.ref 21, .ref 14] ([kTown 0 8 v0, kLaws 8 v1, [.inr (3, [.null, .ref 15, .ref 16, .ref 17, .ref 18, .ref 19, .ref 20, .null, .int 0, .int 0, .int 0, .int 0])], [.inl (0, 6, .inl (fun _ => 0))], [.inl (0, 6, .inl (fun _ => 0))], [.inl (0, 6, .inl (fun _ => 0))], [.inl (0, 6, .inl (fun _ => 0))], [.inl (0, 6, .inl (fun _ => 0))], [.inl (0, 6, .inl (fun _ => 0))], [.inl (0, 6, .inl (fun _ => 0))]] : List (List zE)).flatten
  refine AW.putF (ci := 3) (b := 7) hZ rfl rfl rfl rfl (by decide) rfl rfl (zIn_mem (k := 357) (by decide +kernel)) rfl ⟨Or.inr ⟨_, rfl⟩, Or.inr ⟨_, rfl⟩⟩ (by decide) ?_
  show AW Z 7 42 60 [some (.ref 14), some (.ref 0)] [] ([kTown 0 8 v0, kLaws 8 v1, [.inr (3, [.null, .ref 15, .ref 16, .ref 17, .ref 18, .ref 19, .ref 20, .ref 21, .int 0, .int 0, .int 0, .int 0])], [.inl (0, 6, .inl (fun _ => 0))], [.inl (0, 6, .inl (fun _ => 0))], [.inl (0, 6, .inl (fun _ => 0))], [.inl (0, 6, .inl (fun _ => 0))], [.inl (0, 6, .inl (fun _ => 0))], [.inl (0, 6, .inl (fun _ => 0))], [.inl (0, 6, .inl (fun _ => 0))]] : List (List zE)).flatten
  refine AW.run hZ (zRoom_of hR (by decide) (by decide)) [62] 400 ?_
  show AW Z 7 42 62 [some (.ref 14), some (.ref 0)] [.int 0, .ref 14] ([kTown 0 8 v0, kLaws 8 v1, [.inr (3, [.null, .ref 15, .ref 16, .ref 17, .ref 18, .ref 19, .ref 20, .ref 21, .int 0, .int 0, .int 0, .int 0])], [.inl (0, 6, .inl (fun _ => 0))], [.inl (0, 6, .inl (fun _ => 0))], [.inl (0, 6, .inl (fun _ => 0))], [.inl (0, 6, .inl (fun _ => 0))], [.inl (0, 6, .inl (fun _ => 0))], [.inl (0, 6, .inl (fun _ => 0))], [.inl (0, 6, .inl (fun _ => 0))]] : List (List zE)).flatten
  refine AW.run hZ (zRoom_of hR (by decide) (by decide)) [] 1 ?_
  show ((0 : Int32) = 0 ∨ (0 : Int32) = 1) ∧ AW Z 7 42 65 [some (.ref 14), some (.ref 0)] [] ([kTown 0 8 v0, kLaws 8 v1, [.inr (3, [.null, .ref 15, .ref 16, .ref 17, .ref 18, .ref 19, .ref 20, .ref 21, .int 0, .int 0, .int 0, .int 0])], [.inl (0, 6, .inl (fun _ => 0))], [.inl (0, 6, .inl (fun _ => 0))], [.inl (0, 6, .inl (fun _ => 0))], [.inl (0, 6, .inl (fun _ => 0))], [.inl (0, 6, .inl (fun _ => 0))], [.inl (0, 6, .inl (fun _ => 0))], [.inl (0, 6, .inl (fun _ => 0))]] : List (List zE)).flatten
  refine ⟨by decide, ?_⟩
  refine AW.run hZ (zRoom_of hR (by decide) (by decide)) [82] 400 ?_
  show AW Z 7 42 82 [some (.ref 14), some (.ref 0)] [.ref 0, .ref 14] ([kTown 0 8 v0, kLaws 8 v1, [.inr (3, [.null, .ref 15, .ref 16, .ref 17, .ref 18, .ref 19, .ref 20, .ref 21, .int 0, .int 0, .int 0, .int 0])], [.inl (0, 6, .inl (fun _ => 0))], [.inl (0, 6, .inl (fun _ => 0))], [.inl (0, 6, .inl (fun _ => 0))], [.inl (0, 6, .inl (fun _ => 0))], [.inl (0, 6, .inl (fun _ => 0))], [.inl (0, 6, .inl (fun _ => 0))], [.inl (0, 6, .inl (fun _ => 0))]] : List (List zE)).flatten
  refine AW.putF (ci := 3) (b := 0) hZ rfl rfl rfl rfl (by decide) rfl rfl (zIn_mem (k := 335) (by decide +kernel)) rfl ⟨Or.inr ⟨_, rfl⟩, Or.inl ⟨_, rfl⟩⟩ (by decide) ?_
  show AW Z 7 42 85 [some (.ref 14), some (.ref 0)] [] ([kTown 0 8 v0, kLaws 8 v1, [.inr (3, [.ref 0, .ref 15, .ref 16, .ref 17, .ref 18, .ref 19, .ref 20, .ref 21, .int 0, .int 0, .int 0, .int 0])], [.inl (0, 6, .inl (fun _ => 0))], [.inl (0, 6, .inl (fun _ => 0))], [.inl (0, 6, .inl (fun _ => 0))], [.inl (0, 6, .inl (fun _ => 0))], [.inl (0, 6, .inl (fun _ => 0))], [.inl (0, 6, .inl (fun _ => 0))], [.inl (0, 6, .inl (fun _ => 0))]] : List (List zE)).flatten
  exact AW.vret hZ hE rfl rfl rfl (by decide) (by decide) rfl ⟨rfl, rfl⟩
set_option maxRecDepth 40000 in
set_option maxHeartbeats 8000000 in
theorem c_Reader_init (v0 : VTape) : Ct zMX9_init 6 14 14 1137 [.ref 5, .ref 0] ([kTape 0 v0] ++ [[.inr (9, [.null, .null, .int 0])]] : List (List zE)).flatten (fun v cc => v = none ∧ cc = ([kTape 0 v0, kReader 5 0 6 dReader ++ (kTown 6 14 dTown ++ kLaws 14 dLaws)] : List (List zE)).flatten) := by
  refine Ct.of zMX9_init_ok (by decide) (Nat.le_of_ble_eq_true rfl) ?_
  intro Z hZ hR hN hE
  show AW Z 0 0 0 [some (.ref 5), some (.ref 0)] [] ([kTape 0 v0, [.inr (9, [.null, .null, .int 0])]] : List (List zE)).flatten
  refine AW.run hZ (zRoom_of hR (by decide) (by decide)) [1] 400 ?_
  show AW Z 0 0 1 [some (.ref 5), some (.ref 0)] [.ref 5] ([kTape 0 v0, [.inr (9, [.null, .null, .int 0])]] : List (List zE)).flatten
  refine AW.objInit hZ hR rfl rfl (zIn_mem (k := 273) (by decide +kernel)) zObjI.1 zObjI.2 rfl ?_
  show AW Z 0 0 4 [some (.ref 5), some (.ref 0)] [] ([kTape 0 v0, [.inr (9, [.null, .null, .int 0])]] : List (List zE)).flatten
  refine AW.run hZ (zRoom_of hR (by decide) (by decide)) [5] 400 ?_
  show AW Z 0 0 5 [some (.ref 5), some (.ref 0)] [.ref 5] ([kTape 0 v0, [.inr (9, [.null, .null, .int 0])]] : List (List zE)).flatten
  refine AW.new (ci := 8) (N := 12) (C := "BorrowedLives$Town") (T := zT8) (fs := [.int 0, .null, .null, .null, .null, .null, .null, .null, .int 0, .int 0, .int 0, .null]) hZ hR hN rfl rfl rfl (zIn_mem (k := 274) (by decide +kernel)) (zIn_mem (k := 178) (by decide +kernel)) (zIn_mem (k := 109) (by decide +kernel)) rfl (by decide) (by decide) (by decide) rfl rfl ?_
  show AW Z 1 12 8 [some (.ref 5), some (.ref 0)] [.ref 6, .ref 5] ([kTape 0 v0, [.inr (9, [.null, .null, .int 0])], [.inr (8, [.int 0, .null, .null, .null, .null, .null, .null, .null, .int 0, .int 0, .int 0, .null])]] : List (List zE)).flatten
  refine AW.run hZ (zRoom_of hR (by decide) (by decide)) [9] 400 ?_
  show AW Z 1 12 9 [some (.ref 5), some (.ref 0)] [.ref 6, .ref 6, .ref 5] ([kTape 0 v0, [.inr (9, [.null, .null, .int 0])], [.inr (8, [.int 0, .null, .null, .null, .null, .null, .null, .null, .int 0, .int 0, .int 0, .null])]] : List (List zE)).flatten
  refine AW.callIc (XA := [kTape 0 v0, [.inr (9, [.null, .null, .int 0])]]) (YA := []) hZ hR hN (c_Town_init ) zMX8_init_ok rfl rfl rfl zK_BorrowedLives_TownReader_11 zI_X8_init rfl [5, 1, 1] [] [6] rfl rfl rfl (by first | decide | rfl) (by first | decide | rfl) (by first | decide | rfl) (by first | decide | rfl) (by first | decide | rfl) (by first | decide | rfl) (by first | decide | rfl) (by first | decide | rfl) rfl rfl ?_
  rintro v cc ⟨rfl, rfl⟩
  refine ⟨[], _, _, rfl, rfl, ?_⟩
  show AW Z 14 1137 12 [some (.ref 5), some (.ref 0)] [.ref 6, .ref 5] ([kTape 0 v0, [.inr (9, [.null, .null, .int 0])], kTown 6 14 dTown, kLaws 14 dLaws] : List (List zE)).flatten
  refine AW.putF (ci := 9) (b := 1) hZ rfl rfl rfl rfl (by decide) rfl rfl (zIn_mem (k := 277) (by decide +kernel)) rfl ⟨Or.inr ⟨_, rfl⟩, Or.inl ⟨_, rfl⟩⟩ (by decide) ?_
  show AW Z 14 1137 15 [some (.ref 5), some (.ref 0)] [] ([kTape 0 v0, [.inr (9, [.null, .ref 6, .int 0])], kTown 6 14 dTown, kLaws 14 dLaws] : List (List zE)).flatten
  refine AW.run hZ (zRoom_of hR (by decide) (by decide)) [22] 400 ?_
  show AW Z 14 1137 22 [some (.ref 5), some (.ref 0)] [.ref 0, .ref 5] ([kTape 0 v0, [.inr (9, [.null, .ref 6, .int 5])], kTown 6 14 dTown, kLaws 14 dLaws] : List (List zE)).flatten
  refine AW.putF (ci := 9) (b := 0) hZ rfl rfl rfl rfl (by decide) rfl rfl (zIn_mem (k := 276) (by decide +kernel)) rfl ⟨Or.inr ⟨_, rfl⟩, Or.inl ⟨_, rfl⟩⟩ (by decide) ?_
  show AW Z 14 1137 25 [some (.ref 5), some (.ref 0)] [] ([kTape 0 v0, [.inr (9, [.ref 0, .ref 6, .int 5])], kTown 6 14 dTown, kLaws 14 dLaws] : List (List zE)).flatten
  exact AW.vret hZ hE rfl rfl rfl (by decide) (by decide) rfl ⟨rfl, rfl⟩
set_option maxRecDepth 40000 in
set_option maxHeartbeats 8000000 in
theorem c_Forecast_init (v0 : VTown) (v1 : VLaws) (v2 : VLots) (v3 : VLives) : Ct zMX1_init 4 12 12 21714 [.ref 25, .ref 0, .ref 14, .ref 17] ([kTown 0 8 v0, kLaws 8 v1, kLots 14 v2, kLives 17 0 v3] ++ [[.inr (1, [.null, .null, .null, .null, .int 0, .int 0, .null, .null, .null, .null, .int 0, .long 0, .int 0, .int 0, .int 0])]] : List (List zE)).flatten (fun v cc => v = none ∧ cc = ([kTown 0 8 v0, kLaws 8 v1, kLots 14 v2, kLives 17 0 v3, kForecast 25 0 14 17 30 dForecast ++ kLives 30 0 dLives] : List (List zE)).flatten) := by
  refine Ct.of zMX1_init_ok (by decide) (Nat.le_of_ble_eq_true rfl) ?_
  intro Z hZ hR hN hE
  show AW Z 0 0 0 [some (.ref 25), some (.ref 0), some (.ref 14), some (.ref 17)] [] ([kTown 0 8 v0, kLaws 8 v1, kLots 14 v2, kLives 17 0 v3, [.inr (1, [.null, .null, .null, .null, .int 0, .int 0, .null, .null, .null, .null, .int 0, .long 0, .int 0, .int 0, .int 0])]] : List (List zE)).flatten
  refine AW.run hZ (zRoom_of hR (by decide) (by decide)) [1] 400 ?_
  show AW Z 0 0 1 [some (.ref 25), some (.ref 0), some (.ref 14), some (.ref 17)] [.ref 25] ([kTown 0 8 v0, kLaws 8 v1, kLots 14 v2, kLives 17 0 v3, [.inr (1, [.null, .null, .null, .null, .int 0, .int 0, .null, .null, .null, .null, .int 0, .long 0, .int 0, .int 0, .int 0])]] : List (List zE)).flatten
  refine AW.objInit hZ hR rfl rfl (zIn_mem (k := 422) (by decide +kernel)) zObjI.1 zObjI.2 rfl ?_
  show AW Z 0 0 4 [some (.ref 25), some (.ref 0), some (.ref 14), some (.ref 17)] [] ([kTown 0 8 v0, kLaws 8 v1, kLots 14 v2, kLives 17 0 v3, [.inr (1, [.null, .null, .null, .null, .int 0, .int 0, .null, .null, .null, .null, .int 0, .long 0, .int 0, .int 0, .int 0])]] : List (List zE)).flatten
  refine AW.run hZ (zRoom_of hR (by decide) (by decide)) [6] 400 ?_
  show AW Z 0 0 6 [some (.ref 25), some (.ref 0), some (.ref 14), some (.ref 17)] [.int 0, .ref 25] ([kTown 0 8 v0, kLaws 8 v1, kLots 14 v2, kLives 17 0 v3, [.inr (1, [.null, .null, .null, .null, .int 0, .int 0, .null, .null, .null, .null, .int 0, .long 0, .int 0, .int 0, .int 0])]] : List (List zE)).flatten
  refine AW.run hZ (zRoom_of hR (by decide) (by decide)) [] 1 ?_
  show ((0 : Int32) = 0 ∨ (0 : Int32) = 1) ∧ AW Z 0 0 9 [some (.ref 25), some (.ref 0), some (.ref 14), some (.ref 17)] [] ([kTown 0 8 v0, kLaws 8 v1, kLots 14 v2, kLives 17 0 v3, [.inr (1, [.null, .null, .null, .null, .int 0, .int 0, .null, .null, .null, .null, .int 0, .long 0, .int 0, .int 0, .int 0])]] : List (List zE)).flatten
  refine ⟨by decide, ?_⟩
  refine AW.run hZ (zRoom_of hR (by decide) (by decide)) [18] 400 ?_
  show AW Z 0 0 18 [some (.ref 25), some (.ref 0), some (.ref 14), some (.ref 17)] [.int 11130, .ref 25] ([kTown 0 8 v0, kLaws 8 v1, kLots 14 v2, kLives 17 0 v3, [.inr (1, [.null, .null, .null, .null, .int 0, .int (-1), .null, .null, .null, .null, .int 0, .long 0, .int 0, .int 0, .int 0])]] : List (List zE)).flatten
  refine AW.newa (t := 0) (N := 11130) (ty := .int) (a0 := (11130, .inl (fun _ => 0))) hZ hR hN rfl rfl rfl rfl (fun C h => by cases h) (zIn_mem (k := 175) (by decide +kernel)) (fun _ _ => rfl) (by decide) (by decide) (by decide) rfl (by decide) (by decide) (by decide) ?_
  show AW Z 1 11130 20 [some (.ref 25), some (.ref 0), some (.ref 14), some (.ref 17)] [.ref 26, .ref 25] ([kTown 0 8 v0, kLaws 8 v1, kLots 14 v2, kLives 17 0 v3, [.inr (1, [.null, .null, .null, .null, .int 0, .int (-1), .null, .null, .null, .null, .int 0, .long 0, .int 0, .int 0, .int 0])], [.inl (0, 11130, .inl (fun _ => 0))]] : List (List zE)).flatten
  refine AW.putF (ci := 1) (b := 6) hZ rfl rfl rfl rfl (by decide) rfl rfl (zIn_mem (k := 431) (by decide +kernel)) rfl ⟨Or.inr ⟨_, rfl⟩, Or.inr ⟨_, rfl⟩⟩ (by decide) ?_
  show AW Z 1 11130 23 [some (.ref 25), some (.ref 0), some (.ref 14), some (.ref 17)] [] ([kTown 0 8 v0, kLaws 8 v1, kLots 14 v2, kLives 17 0 v3, [.inr (1, [.null, .null, .null, .null, .int 0, .int (-1), .ref 26, .null, .null, .null, .int 0, .long 0, .int 0, .int 0, .int 0])], [.inl (0, 11130, .inl (fun _ => 0))]] : List (List zE)).flatten
  refine AW.run hZ (zRoom_of hR (by decide) (by decide)) [27] 400 ?_
  show AW Z 1 11130 27 [some (.ref 25), some (.ref 0), some (.ref 14), some (.ref 17)] [.int 265, .ref 25] ([kTown 0 8 v0, kLaws 8 v1, kLots 14 v2, kLives 17 0 v3, [.inr (1, [.null, .null, .null, .null, .int 0, .int (-1), .ref 26, .null, .null, .null, .int 0, .long 0, .int 0, .int 0, .int 0])], [.inl (0, 11130, .inl (fun _ => 0))]] : List (List zE)).flatten
  refine AW.newa (t := 0) (N := 265) (ty := .int) (a0 := (265, .inl (fun _ => 0))) hZ hR hN rfl rfl rfl rfl (fun C h => by cases h) (zIn_mem (k := 175) (by decide +kernel)) (fun _ _ => rfl) (by decide) (by decide) (by decide) rfl (by decide) (by decide) (by decide) ?_
  show AW Z 2 11395 29 [some (.ref 25), some (.ref 0), some (.ref 14), some (.ref 17)] [.ref 27, .ref 25] ([kTown 0 8 v0, kLaws 8 v1, kLots 14 v2, kLives 17 0 v3, [.inr (1, [.null, .null, .null, .null, .int 0, .int (-1), .ref 26, .null, .null, .null, .int 0, .long 0, .int 0, .int 0, .int 0])], [.inl (0, 11130, .inl (fun _ => 0))], [.inl (0, 265, .inl (fun _ => 0))]] : List (List zE)).flatten
  refine AW.putF (ci := 1) (b := 7) hZ rfl rfl rfl rfl (by decide) rfl rfl (zIn_mem (k := 432) (by decide +kernel)) rfl ⟨Or.inr ⟨_, rfl⟩, Or.inr ⟨_, rfl⟩⟩ (by decide) ?_
  show AW Z 2 11395 32 [some (.ref 25), some (.ref 0), some (.ref 14), some (.ref 17)] [] ([kTown 0 8 v0, kLaws 8 v1, kLots 14 v2, kLives 17 0 v3, [.inr (1, [.null, .null, .null, .null, .int 0, .int (-1), .ref 26, .ref 27, .null, .null, .int 0, .long 0, .int 0, .int 0, .int 0])], [.inl (0, 11130, .inl (fun _ => 0))], [.inl (0, 265, .inl (fun _ => 0))]] : List (List zE)).flatten
  refine AW.run hZ (zRoom_of hR (by decide) (by decide)) [36] 400 ?_
  show AW Z 2 11395 36 [some (.ref 25), some (.ref 0), some (.ref 14), some (.ref 17)] [.int 265, .ref 25] ([kTown 0 8 v0, kLaws 8 v1, kLots 14 v2, kLives 17 0 v3, [.inr (1, [.null, .null, .null, .null, .int 0, .int (-1), .ref 26, .ref 27, .null, .null, .int 0, .long 0, .int 0, .int 0, .int 0])], [.inl (0, 11130, .inl (fun _ => 0))], [.inl (0, 265, .inl (fun _ => 0))]] : List (List zE)).flatten
  refine AW.newa (t := 3) (N := 265) (ty := .boolean) (a0 := (265, .inl (fun _ => 0))) hZ hR hN rfl rfl rfl rfl (fun C h => by cases h) (zIn_mem (k := 476) (by decide +kernel)) (fun _ _ => rfl) (by decide) (by decide) (by decide) rfl (by decide) (by decide) (by decide) ?_
  show AW Z 3 11660 38 [some (.ref 25), some (.ref 0), some (.ref 14), some (.ref 17)] [.ref 28, .ref 25] ([kTown 0 8 v0, kLaws 8 v1, kLots 14 v2, kLives 17 0 v3, [.inr (1, [.null, .null, .null, .null, .int 0, .int (-1), .ref 26, .ref 27, .null, .null, .int 0, .long 0, .int 0, .int 0, .int 0])], [.inl (0, 11130, .inl (fun _ => 0))], [.inl (0, 265, .inl (fun _ => 0))], [.inl (3, 265, .inl (fun _ => 0))]] : List (List zE)).flatten
  refine AW.putF (ci := 1) (b := 8) hZ rfl rfl rfl rfl (by decide) rfl rfl (zIn_mem (k := 433) (by decide +kernel)) rfl ⟨Or.inr ⟨_, rfl⟩, Or.inr ⟨_, rfl⟩⟩ (by decide) ?_
  show AW Z 3 11660 41 [some (.ref 25), some (.ref 0), some (.ref 14), some (.ref 17)] [] ([kTown 0 8 v0, kLaws 8 v1, kLots 14 v2, kLives 17 0 v3, [.inr (1, [.null, .null, .null, .null, .int 0, .int (-1), .ref 26, .ref 27, .ref 28, .null, .int 0, .long 0, .int 0, .int 0, .int 0])], [.inl (0, 11130, .inl (fun _ => 0))], [.inl (0, 265, .inl (fun _ => 0))], [.inl (3, 265, .inl (fun _ => 0))]] : List (List zE)).flatten
  refine AW.run hZ (zRoom_of hR (by decide) (by decide)) [45] 400 ?_
  show AW Z 3 11660 45 [some (.ref 25), some (.ref 0), some (.ref 14), some (.ref 17)] [.int 10000, .ref 25] ([kTown 0 8 v0, kLaws 8 v1, kLots 14 v2, kLives 17 0 v3, [.inr (1, [.null, .null, .null, .null, .int 0, .int (-1), .ref 26, .ref 27, .ref 28, .null, .int 0, .long 0, .int 0, .int 0, .int 0])], [.inl (0, 11130, .inl (fun _ => 0))], [.inl (0, 265, .inl (fun _ => 0))], [.inl (3, 265, .inl (fun _ => 0))]] : List (List zE)).flatten
  refine AW.newa (t := 0) (N := 10000) (ty := .int) (a0 := (10000, .inl (fun _ => 0))) hZ hR hN rfl rfl rfl rfl (fun C h => by cases h) (zIn_mem (k := 175) (by decide +kernel)) (fun _ _ => rfl) (by decide) (by decide) (by decide) rfl (by decide) (by decide) (by decide) ?_
  show AW Z 4 21660 47 [some (.ref 25), some (.ref 0), some (.ref 14), some (.ref 17)] [.ref 29, .ref 25] ([kTown 0 8 v0, kLaws 8 v1, kLots 14 v2, kLives 17 0 v3, [.inr (1, [.null, .null, .null, .null, .int 0, .int (-1), .ref 26, .ref 27, .ref 28, .null, .int 0, .long 0, .int 0, .int 0, .int 0])], [.inl (0, 11130, .inl (fun _ => 0))], [.inl (0, 265, .inl (fun _ => 0))], [.inl (3, 265, .inl (fun _ => 0))], [.inl (0, 10000, .inl (fun _ => 0))]] : List (List zE)).flatten
  refine AW.putF (ci := 1) (b := 9) hZ rfl rfl rfl rfl (by decide) rfl rfl (zIn_mem (k := 434) (by decide +kernel)) rfl ⟨Or.inr ⟨_, rfl⟩, Or.inr ⟨_, rfl⟩⟩ (by decide) ?_
  show AW Z 4 21660 50 [some (.ref 25), some (.ref 0), some (.ref 14), some (.ref 17)] [] ([kTown 0 8 v0, kLaws 8 v1, kLots 14 v2, kLives 17 0 v3, [.inr (1, [.null, .null, .null, .null, .int 0, .int (-1), .ref 26, .ref 27, .ref 28, .ref 29, .int 0, .long 0, .int 0, .int 0, .int 0])], [.inl (0, 11130, .inl (fun _ => 0))], [.inl (0, 265, .inl (fun _ => 0))], [.inl (3, 265, .inl (fun _ => 0))], [.inl (0, 10000, .inl (fun _ => 0))]] : List (List zE)).flatten
  refine AW.run hZ (zRoom_of hR (by decide) (by decide)) [77] 400 ?_
  show AW Z 4 21660 77 [some (.ref 25), some (.ref 0), some (.ref 14), some (.ref 17)] [.ref 0, .ref 25] ([kTown 0 8 v0, kLaws 8 v1, kLots 14 v2, kLives 17 0 v3, [.inr (1, [.null, .null, .null, .null, .int 0, .int (-1), .ref 26, .ref 27, .ref 28, .ref 29, .int 0, .long 0, .int 0, .int 0, .int 0])], [.inl (0, 11130, .inl (fun _ => 0))], [.inl (0, 265, .inl (fun _ => 0))], [.inl (3, 265, .inl (fun _ => 0))], [.inl (0, 10000, .inl (fun _ => 0))]] : List (List zE)).flatten
  refine AW.putF (ci := 1) (b := 0) hZ rfl rfl rfl rfl (by decide) rfl rfl (zIn_mem (k := 425) (by decide +kernel)) rfl ⟨Or.inr ⟨_, rfl⟩, Or.inl ⟨_, rfl⟩⟩ (by decide) ?_
  show AW Z 4 21660 80 [some (.ref 25), some (.ref 0), some (.ref 14), some (.ref 17)] [] ([kTown 0 8 v0, kLaws 8 v1, kLots 14 v2, kLives 17 0 v3, [.inr (1, [.ref 0, .null, .null, .null, .int 0, .int (-1), .ref 26, .ref 27, .ref 28, .ref 29, .int 0, .long 0, .int 0, .int 0, .int 0])], [.inl (0, 11130, .inl (fun _ => 0))], [.inl (0, 265, .inl (fun _ => 0))], [.inl (3, 265, .inl (fun _ => 0))], [.inl (0, 10000, .inl (fun _ => 0))]] : List (List zE)).flatten
  refine AW.run hZ (zRoom_of hR (by decide) (by decide)) [82] 400 ?_
  show AW Z 4 21660 82 [some (.ref 25), some (.ref 0), some (.ref 14), some (.ref 17)] [.ref 14, .ref 25] ([kTown 0 8 v0, kLaws 8 v1, kLots 14 v2, kLives 17 0 v3, [.inr (1, [.ref 0, .null, .null, .null, .int 0, .int (-1), .ref 26, .ref 27, .ref 28, .ref 29, .int 0, .long 0, .int 0, .int 0, .int 0])], [.inl (0, 11130, .inl (fun _ => 0))], [.inl (0, 265, .inl (fun _ => 0))], [.inl (3, 265, .inl (fun _ => 0))], [.inl (0, 10000, .inl (fun _ => 0))]] : List (List zE)).flatten
  refine AW.putF (ci := 1) (b := 1) hZ rfl rfl rfl rfl (by decide) rfl rfl (zIn_mem (k := 426) (by decide +kernel)) rfl ⟨Or.inr ⟨_, rfl⟩, Or.inl ⟨_, rfl⟩⟩ (by decide) ?_
  show AW Z 4 21660 85 [some (.ref 25), some (.ref 0), some (.ref 14), some (.ref 17)] [] ([kTown 0 8 v0, kLaws 8 v1, kLots 14 v2, kLives 17 0 v3, [.inr (1, [.ref 0, .ref 14, .null, .null, .int 0, .int (-1), .ref 26, .ref 27, .ref 28, .ref 29, .int 0, .long 0, .int 0, .int 0, .int 0])], [.inl (0, 11130, .inl (fun _ => 0))], [.inl (0, 265, .inl (fun _ => 0))], [.inl (3, 265, .inl (fun _ => 0))], [.inl (0, 10000, .inl (fun _ => 0))]] : List (List zE)).flatten
  refine AW.run hZ (zRoom_of hR (by decide) (by decide)) [87] 400 ?_
  show AW Z 4 21660 87 [some (.ref 25), some (.ref 0), some (.ref 14), some (.ref 17)] [.ref 17, .ref 25] ([kTown 0 8 v0, kLaws 8 v1, kLots 14 v2, kLives 17 0 v3, [.inr (1, [.ref 0, .ref 14, .null, .null, .int 0, .int (-1), .ref 26, .ref 27, .ref 28, .ref 29, .int 0, .long 0, .int 0, .int 0, .int 0])], [.inl (0, 11130, .inl (fun _ => 0))], [.inl (0, 265, .inl (fun _ => 0))], [.inl (3, 265, .inl (fun _ => 0))], [.inl (0, 10000, .inl (fun _ => 0))]] : List (List zE)).flatten
  refine AW.putF (ci := 1) (b := 2) hZ rfl rfl rfl rfl (by decide) rfl rfl (zIn_mem (k := 427) (by decide +kernel)) rfl ⟨Or.inr ⟨_, rfl⟩, Or.inl ⟨_, rfl⟩⟩ (by decide) ?_
  show AW Z 4 21660 90 [some (.ref 25), some (.ref 0), some (.ref 14), some (.ref 17)] [] ([kTown 0 8 v0, kLaws 8 v1, kLots 14 v2, kLives 17 0 v3, [.inr (1, [.ref 0, .ref 14, .ref 17, .null, .int 0, .int (-1), .ref 26, .ref 27, .ref 28, .ref 29, .int 0, .long 0, .int 0, .int 0, .int 0])], [.inl (0, 11130, .inl (fun _ => 0))], [.inl (0, 265, .inl (fun _ => 0))], [.inl (3, 265, .inl (fun _ => 0))], [.inl (0, 10000, .inl (fun _ => 0))]] : List (List zE)).flatten
  refine AW.run hZ (zRoom_of hR (by decide) (by decide)) [91] 400 ?_
  show AW Z 4 21660 91 [some (.ref 25), some (.ref 0), some (.ref 14), some (.ref 17)] [.ref 25] ([kTown 0 8 v0, kLaws 8 v1, kLots 14 v2, kLives 17 0 v3, [.inr (1, [.ref 0, .ref 14, .ref 17, .null, .int 0, .int (-1), .ref 26, .ref 27, .ref 28, .ref 29, .int 0, .long 0, .int 0, .int 0, .int 0])], [.inl (0, 11130, .inl (fun _ => 0))], [.inl (0, 265, .inl (fun _ => 0))], [.inl (3, 265, .inl (fun _ => 0))], [.inl (0, 10000, .inl (fun _ => 0))]] : List (List zE)).flatten
  refine AW.new (ci := 3) (N := 12) (C := "BorrowedLives$Lives") (T := zT3) (fs := [.null, .null, .null, .null, .null, .null, .null, .null, .int 0, .int 0, .int 0, .int 0]) hZ hR hN rfl rfl rfl (zIn_mem (k := 423) (by decide +kernel)) (zIn_mem (k := 330) (by decide +kernel)) (zIn_mem (k := 114) (by decide +kernel)) rfl (by decide) (by decide) (by decide) rfl rfl ?_
  show AW Z 5 21672 94 [some (.ref 25), some (.ref 0), some (.ref 14), some (.ref 17)] [.ref 30, .ref 25] ([kTown 0 8 v0, kLaws 8 v1, kLots 14 v2, kLives 17 0 v3, [.inr (1, [.ref 0, .ref 14, .ref 17, .null, .int 0, .int (-1), .ref 26, .ref 27, .ref 28, .ref 29, .int 0, .long 0, .int 0, .int 0, .int 0])], [.inl (0, 11130, .inl (fun _ => 0))], [.inl (0, 265, .inl (fun _ => 0))], [.inl (3, 265, .inl (fun _ => 0))], [.inl (0, 10000, .inl (fun _ => 0))], [.inr (3, [.null, .null, .null, .null, .null, .null, .null, .null, .int 0, .int 0, .int 0, .int 0])]] : List (List zE)).flatten
  refine AW.run hZ (zRoom_of hR (by decide) (by decide)) [96] 400 ?_
  show AW Z 5 21672 96 [some (.ref 25), some (.ref 0), some (.ref 14), some (.ref 17)] [.ref 0, .ref 30, .ref 30, .ref 25] ([kTown 0 8 v0, kLaws 8 v1, kLots 14 v2, kLives 17 0 v3, [.inr (1, [.ref 0, .ref 14, .ref 17, .null, .int 0, .int (-1), .ref 26, .ref 27, .ref 28, .ref 29, .int 0, .long 0, .int 0, .int 0, .int 0])], [.inl (0, 11130, .inl (fun _ => 0))], [.inl (0, 265, .inl (fun _ => 0))], [.inl (3, 265, .inl (fun _ => 0))], [.inl (0, 10000, .inl (fun _ => 0))], [.inr (3, [.null, .null, .null, .null, .null, .null, .null, .null, .int 0, .int 0, .int 0, .int 0])]] : List (List zE)).flatten
  refine AW.callIc (XA := [kTown 0 8 v0, kLaws 8 v1, kLots 14 v2, kLives 17 0 v3, [.inr (1, [.ref 0, .ref 14, .ref 17, .null, .int 0, .int (-1), .ref 26, .ref 27, .ref 28, .ref 29, .int 0, .long 0, .int 0, .int 0, .int 0])], [.inl (0, 11130, .inl (fun _ => 0))], [.inl (0, 265, .inl (fun _ => 0))], [.inl (3, 265, .inl (fun _ => 0))], [.inl (0, 10000, .inl (fun _ => 0))]]) (YA := [kTown 0 8 v0, kLaws 8 v1]) hZ hR hN (c_Lives_init v0 v1) zMX3_init_ok rfl rfl rfl zK_BorrowedLives_Forecast_65 zI_X3_init rfl [8, 6, 3, 8, 1, 1, 1, 1, 1, 1] [0, 1] [0, 1, 2, 3, 4, 5, 6, 7, 8, 9, 10, 11, 12, 13, 30] rfl rfl rfl (by first | decide | rfl) (by first | decide | rfl) (by first | decide | rfl) (by first | decide | rfl) (by first | decide | rfl) (by first | decide | rfl) (by first | decide | rfl) (by first | decide | rfl) rfl rfl ?_
  rintro v cc ⟨rfl, rfl⟩
  refine ⟨[kTown 0 8 v0, kLaws 8 v1], _, _, rfl, rfl, ?_⟩
  show AW Z 12 21714 99 [some (.ref 25), some (.ref 0), some (.ref 14), some (.ref 17)] [.ref 30, .ref 25] ([kTown 0 8 v0, kLaws 8 v1, kLots 14 v2, kLives 17 0 v3, [.inr (1, [.ref 0, .ref 14, .ref 17, .null, .int 0, .int (-1), .ref 26, .ref 27, .ref 28, .ref 29, .int 0, .long 0, .int 0, .int 0, .int 0])], [.inl (0, 11130, .inl (fun _ => 0))], [.inl (0, 265, .inl (fun _ => 0))], [.inl (3, 265, .inl (fun _ => 0))], [.inl (0, 10000, .inl (fun _ => 0))], kLives 30 0 dLives] : List (List zE)).flatten
  refine AW.putF (ci := 1) (b := 3) hZ rfl rfl rfl rfl (by decide) rfl rfl (zIn_mem (k := 428) (by decide +kernel)) rfl ⟨Or.inr ⟨_, rfl⟩, Or.inl ⟨_, rfl⟩⟩ (by decide) ?_
  show AW Z 12 21714 102 [some (.ref 25), some (.ref 0), some (.ref 14), some (.ref 17)] [] ([kTown 0 8 v0, kLaws 8 v1, kLots 14 v2, kLives 17 0 v3, [.inr (1, [.ref 0, .ref 14, .ref 17, .ref 30, .int 0, .int (-1), .ref 26, .ref 27, .ref 28, .ref 29, .int 0, .long 0, .int 0, .int 0, .int 0])], [.inl (0, 11130, .inl (fun _ => 0))], [.inl (0, 265, .inl (fun _ => 0))], [.inl (3, 265, .inl (fun _ => 0))], [.inl (0, 10000, .inl (fun _ => 0))], kLives 30 0 dLives] : List (List zE)).flatten
  exact AW.vret hZ hE rfl rfl rfl (by decide) (by decide) rfl ⟨rfl, rfl⟩
