/-! ===== the classes, their fields in the order of their slots ===== -/
def zF0 : List (String × String × String × Bool) := [("BorrowedLives$Deeds", "bestGood", "I", false), ("BorrowedLives$Deeds", "bestRow", "I", false)]
def zT0 : u_T := fun k => zF0.getD k ("", "", "", false)
def zF1 : List (String × String × String × Bool) := [("BorrowedLives$Forecast", "town", "LBorrowedLives$Town;", true), ("BorrowedLives$Forecast", "lots", "LBorrowedLives$Lots;", true), ("BorrowedLives$Forecast", "now", "LBorrowedLives$Lives;", true), ("BorrowedLives$Forecast", "then", "LBorrowedLives$Lives;", true), ("BorrowedLives$Forecast", "ready", "Z", false), ("BorrowedLives$Forecast", "prepared", "I", false), ("BorrowedLives$Forecast", "held", "[I", true), ("BorrowedLives$Forecast", "harms", "[I", true), ("BorrowedLives$Forecast", "fitting", "[Z", true), ("BorrowedLives$Forecast", "tally", "[I", true), ("BorrowedLives$Forecast", "bestCoins", "I", false), ("BorrowedLives$Forecast", "bestHarm", "J", false), ("BorrowedLives$Forecast", "yearsHarm", "I", false), ("BorrowedLives$Forecast", "yearsGood", "I", false), ("BorrowedLives$Forecast", "yearsPurses", "I", false)]
def zT1 : u_T := fun k => zF1.getD k ("", "", "", false)
def zF2 : List (String × String × String × Bool) := [("BorrowedLives$Laws", "codes", "[I", true), ("BorrowedLives$Laws", "size", "I", false), ("BorrowedLives$Laws", "from", "[I", true), ("BorrowedLives$Laws", "to", "[I", true), ("BorrowedLives$Laws", "facts", "[I", true), ("BorrowedLives$Laws", "stack", "[I", true)]
def zT2 : u_T := fun k => zF2.getD k ("", "", "", false)
def zF3 : List (String × String × String × Bool) := [("BorrowedLives$Lives", "town", "LBorrowedLives$Town;", true), ("BorrowedLives$Lives", "purse", "[I", true), ("BorrowedLives$Lives", "debt", "[I", true), ("BorrowedLives$Lives", "home", "[I", true), ("BorrowedLives$Lives", "hidden", "[I", true), ("BorrowedLives$Lives", "self", "[I", true), ("BorrowedLives$Lives", "worthThen", "[I", true), ("BorrowedLives$Lives", "homeThen", "[I", true), ("BorrowedLives$Lives", "away", "Z", false), ("BorrowedLives$Lives", "days", "I", false), ("BorrowedLives$Lives", "homes", "I", false), ("BorrowedLives$Lives", "harm", "I", false)]
def zT3 : u_T := fun k => zF3.getD k ("", "", "", false)
def zF4 : List (String × String × String × Bool) := [("BorrowedLives$Lots", "people", "I", false), ("BorrowedLives$Lots", "count", "I", false), ("BorrowedLives$Lots", "selves", "[I", true), ("BorrowedLives$Lots", "row", "[I", true)]
def zT4 : u_T := fun k => zF4.getD k ("", "", "", false)
def zF5 : List (String × String × String × Bool) := [("BorrowedLives$Pairs", "people", "I", false), ("BorrowedLives$Pairs", "willing", "[I", true), ("BorrowedLives$Pairs", "row", "[I", true), ("BorrowedLives$Pairs", "best", "[I", true), ("BorrowedLives$Pairs", "most", "I", false)]
def zT5 : u_T := fun k => zF5.getD k ("", "", "", false)
def zF6 : List (String × String × String × Bool) := [("BorrowedLives$Tales", "count", "I", false), ("BorrowedLives$Tales", "lives", "[I", true), ("BorrowedLives$Tales", "days", "[I", true), ("BorrowedLives$Tales", "purses", "[I", true)]
def zT6 : u_T := fun k => zF6.getD k ("", "", "", false)
def zF7 : List (String × String × String × Bool) := [("BorrowedLives$Tape", "signs", "[C", true), ("BorrowedLives$Tape", "length", "I", false), ("BorrowedLives$Tape", "tokens", "[I", true), ("BorrowedLives$Tape", "places", "[I", true), ("BorrowedLives$Tape", "values", "[J", true), ("BorrowedLives$Tape", "tokenCount", "I", false), ("BorrowedLives$Tape", "at", "I", false), ("BorrowedLives$Tape", "fault", "I", false)]
def zT7 : u_T := fun k => zF7.getD k ("", "", "", false)
def zF8 : List (String × String × String × Bool) := [("BorrowedLives$Town", "people", "I", false), ("BorrowedLives$Town", "names", "[J", true), ("BorrowedLives$Town", "kinds", "[I", true), ("BorrowedLives$Town", "skills", "[I", true), ("BorrowedLives$Town", "purses", "[I", true), ("BorrowedLives$Town", "debts", "[I", true), ("BorrowedLives$Town", "homes", "[I", true), ("BorrowedLives$Town", "barred", "[I", true), ("BorrowedLives$Town", "bars", "I", false), ("BorrowedLives$Town", "sign", "I", false), ("BorrowedLives$Town", "signTold", "Z", false), ("BorrowedLives$Town", "laws", "LBorrowedLives$Laws;", true)]
def zT8 : u_T := fun k => zF8.getD k ("", "", "", false)
def zF9 : List (String × String × String × Bool) := [("BorrowedLives$TownReader", "tape", "LBorrowedLives$Tape;", true), ("BorrowedLives$TownReader", "draft", "LBorrowedLives$Town;", true), ("BorrowedLives$TownReader", "factsKnown", "I", false)]
def zT9 : u_T := fun k => zF9.getD k ("", "", "", false)
def zF10 : List (String × String × String × Bool) := [("BorrowedLives$Year", "lines", "I", false), ("BorrowedLives$Year", "words", "[I", true), ("BorrowedLives$Year", "first", "[I", true), ("BorrowedLives$Year", "second", "[I", true)]
def zT10 : u_T := fun k => zF10.getD k ("", "", "", false)
def zF11 : List (String × String × String × Bool) := [("BorrowedLives", "tape", "LBorrowedLives$Tape;", true), ("BorrowedLives", "told", "LBorrowedLives$Town;", true), ("BorrowedLives", "reader", "LBorrowedLives$TownReader;", true), ("BorrowedLives", "plan", "LBorrowedLives$Year;", true), ("BorrowedLives", "draftPlan", "LBorrowedLives$Year;", true), ("BorrowedLives", "drawable", "LBorrowedLives$Lots;", true), ("BorrowedLives", "now", "LBorrowedLives$Lives;", true), ("BorrowedLives", "trial", "LBorrowedLives$Lives;", true), ("BorrowedLives", "undos", "[LBorrowedLives$Lives;", true), ("BorrowedLives", "nextUndo", "I", false), ("BorrowedLives", "undoable", "I", false), ("BorrowedLives", "tales", "LBorrowedLives$Tales;", true), ("BorrowedLives", "markedLives", "[LBorrowedLives$Lives;", true), ("BorrowedLives", "markedTales", "[LBorrowedLives$Tales;", true), ("BorrowedLives", "laid", "[Z", true), ("BorrowedLives", "forecast", "LBorrowedLives$Forecast;", true), ("BorrowedLives", "bestDeeds", "LBorrowedLives$Deeds;", true), ("BorrowedLives", "bestPairs", "LBorrowedLives$Pairs;", true)]
def zT11 : u_T := fun k => zF11.getD k ("", "", "", false)
def zF12 : List (String × String × String × Bool) := [("BorrowedLivesModel", "thrown", "I", false), ("BorrowedLivesModel", "tape", "[I", true), ("BorrowedLivesModel", "taped", "I", false), ("BorrowedLivesModel", "size", "I", false), ("BorrowedLivesModel", "sort", "[I", true), ("BorrowedLivesModel", "place", "[I", true), ("BorrowedLivesModel", "value", "[J", true), ("BorrowedLivesModel", "at", "I", false), ("BorrowedLivesModel", "fault", "I", false), ("BorrowedLivesModel", "words", "[J", true), ("BorrowedLivesModel", "towns", "[I", true), ("BorrowedLivesModel", "op", "[I", true), ("BorrowedLivesModel", "arg", "[I", true), ("BorrowedLivesModel", "codes", "I", false), ("BorrowedLivesModel", "names", "[J", true), ("BorrowedLivesModel", "readNames", "[J", true), ("BorrowedLivesModel", "namesMany", "I", false), ("BorrowedLivesModel", "readMany", "I", false), ("BorrowedLivesModel", "hasSigned", "Z", false), ("BorrowedLivesModel", "factsHere", "I", false), ("BorrowedLivesModel", "lines", "[I", true), ("BorrowedLivesModel", "facts", "[I", true), ("BorrowedLivesModel", "pile", "[I", true), ("BorrowedLivesModel", "state", "[I", true), ("BorrowedLivesModel", "undos", "I", false), ("BorrowedLivesModel", "isMarked", "[Z", true), ("BorrowedLivesModel", "signed", "I", false), ("BorrowedLivesModel", "lotRows", "[I", true), ("BorrowedLivesModel", "lotRow", "[I", true), ("BorrowedLivesModel", "lotsMany", "I", false), ("BorrowedLivesModel", "g", "J", false), ("BorrowedLivesModel", "deed", "[I", true), ("BorrowedLivesModel", "bestDeeds", "[I", true), ("BorrowedLivesModel", "mostGood", "I", false), ("BorrowedLivesModel", "isFound", "Z", false), ("BorrowedLivesModel", "deedsMany", "I", false), ("BorrowedLivesModel", "would", "[Z", true), ("BorrowedLivesModel", "pairRow", "[I", true), ("BorrowedLivesModel", "bestPairs", "[I", true), ("BorrowedLivesModel", "mostPairs", "I", false), ("BorrowedLivesModel", "purses", "[I", true), ("BorrowedLivesModel", "fits", "[Z", true), ("BorrowedLivesModel", "fitting", "I", false)]
def zT12 : u_T := fun k => zF12.getD k ("", "", "", false)
def zcl : List vw_C := [("BorrowedLives$Deeds", zT0, 2), ("BorrowedLives$Forecast", zT1, 15), ("BorrowedLives$Laws", zT2, 6), ("BorrowedLives$Lives", zT3, 12), ("BorrowedLives$Lots", zT4, 4), ("BorrowedLives$Pairs", zT5, 5), ("BorrowedLives$Tales", zT6, 4), ("BorrowedLives$Tape", zT7, 8), ("BorrowedLives$Town", zT8, 12), ("BorrowedLives$TownReader", zT9, 3), ("BorrowedLives$Year", zT10, 4), ("BorrowedLives", zT11, 18), ("BorrowedLivesModel", zT12, 43)]
def zFt : List (List FieldType) := [[.int, .int], [.object "BorrowedLives$Town", .object "BorrowedLives$Lots", .object "BorrowedLives$Lives", .object "BorrowedLives$Lives", .boolean, .int, .array .int, .array .int, .array .boolean, .array .int, .int, .long, .int, .int, .int], [.array .int, .int, .array .int, .array .int, .array .int, .array .int], [.object "BorrowedLives$Town", .array .int, .array .int, .array .int, .array .int, .array .int, .array .int, .array .int, .boolean, .int, .int, .int], [.int, .int, .array .int, .array .int], [.int, .array .int, .array .int, .array .int, .int], [.int, .array .int, .array .int, .array .int], [.array .char, .int, .array .int, .array .int, .array .long, .int, .int, .int], [.int, .array .long, .array .int, .array .int, .array .int, .array .int, .array .int, .array .int, .int, .int, .boolean, .object "BorrowedLives$Laws"], [.object "BorrowedLives$Tape", .object "BorrowedLives$Town", .int], [.int, .array .int, .array .int, .array .int], [.object "BorrowedLives$Tape", .object "BorrowedLives$Town", .object "BorrowedLives$TownReader", .object "BorrowedLives$Year", .object "BorrowedLives$Year", .object "BorrowedLives$Lots", .object "BorrowedLives$Lives", .object "BorrowedLives$Lives", .array (.object "BorrowedLives$Lives"), .int, .int, .object "BorrowedLives$Tales", .array (.object "BorrowedLives$Lives"), .array (.object "BorrowedLives$Tales"), .array .boolean, .object "BorrowedLives$Forecast", .object "BorrowedLives$Deeds", .object "BorrowedLives$Pairs"], [.int, .array .int, .int, .int, .array .int, .array .int, .array .long, .int, .int, .array .long, .array .int, .array .int, .array .int, .int, .array .long, .array .long, .int, .int, .boolean, .int, .array .int, .array .int, .array .int, .array .int, .int, .array .boolean, .int, .array .int, .array .int, .int, .long, .array .int, .array .int, .int, .boolean, .int, .array .boolean, .array .int, .array .int, .int, .array .int, .array .boolean, .int]]
def zft (c k : Nat) : FieldType := (zFt.getD c []).getD k .int
/-- the kinds of arrays -/
def zTy : List FieldType := [.int, .long, .char, .boolean, .object "BorrowedLives$Lives", .object "BorrowedLives$Tales"]
def zwsB (C : String) (T : u_T) (N : Nat) (ps : List Nat) : Bool := (List.range N).all (fun k => zIn (ps.getD k 0) (u_lay C T k))
theorem zwsB_mem {C : String} {T : u_T} {N : Nat} {ps : List Nat} (h : zwsB C T N ps = true) : ∀ w ∈ u_ws C T N, w ∈ zTg := by
  intro w hw
  obtain ⟨k, hk, rfl⟩ := List.mem_map.mp hw
  exact zIn_mem (List.all_eq_true.mp h k hk)
theorem zws0 : ∀ w ∈ u_ws "BorrowedLives$Deeds" zT0 2, w ∈ zTg := zwsB_mem (ps := [486, 488]) (by decide +kernel)
theorem zws1 : ∀ w ∈ u_ws "BorrowedLives$Forecast" zT1 15, w ∈ zTg := zwsB_mem (ps := [445, 447, 449, 451, 453, 455, 457, 459, 461, 463, 465, 467, 469, 471, 473]) (by decide +kernel)
theorem zws2 : ∀ w ∈ u_ws "BorrowedLives$Laws" zT2 6, w ∈ zTg := zwsB_mem (ps := [196, 198, 200, 202, 204, 206]) (by decide +kernel)
theorem zws3 : ∀ w ∈ u_ws "BorrowedLives$Lives" zT3 12, w ∈ zTg := zwsB_mem (ps := [366, 368, 370, 372, 374, 376, 378, 380, 382, 384, 386, 388]) (by decide +kernel)
theorem zws4 : ∀ w ∈ u_ws "BorrowedLives$Lots" zT4 4, w ∈ zTg := zwsB_mem (ps := [320, 322, 324, 326]) (by decide +kernel)
theorem zws5 : ∀ w ∈ u_ws "BorrowedLives$Pairs" zT5 5, w ∈ zTg := zwsB_mem (ps := [504, 506, 508, 510, 512]) (by decide +kernel)
theorem zws6 : ∀ w ∈ u_ws "BorrowedLives$Tales" zT6 4, w ∈ zTg := zwsB_mem (ps := [407, 409, 411, 413]) (by decide +kernel)
theorem zws7 : ∀ w ∈ u_ws "BorrowedLives$Tape" zT7 8, w ∈ zTg := zwsB_mem (ps := [157, 159, 161, 163, 165, 167, 169, 171]) (by decide +kernel)
theorem zws8 : ∀ w ∈ u_ws "BorrowedLives$Town" zT8 12, w ∈ zTg := zwsB_mem (ps := [243, 245, 247, 249, 251, 253, 255, 257, 259, 261, 263, 265]) (by decide +kernel)
theorem zws9 : ∀ w ∈ u_ws "BorrowedLives$TownReader" zT9 3, w ∈ zTg := zwsB_mem (ps := [280, 282, 284]) (by decide +kernel)
theorem zws10 : ∀ w ∈ u_ws "BorrowedLives$Year" zT10 4, w ∈ zTg := zwsB_mem (ps := [298, 300, 302, 304]) (by decide +kernel)
theorem zws11 : ∀ w ∈ u_ws "BorrowedLives" zT11 18, w ∈ zTg := zwsB_mem (ps := [533, 535, 537, 539, 541, 543, 545, 547, 549, 551, 553, 555, 557, 559, 561, 563, 565, 567]) (by decide +kernel)
theorem zws12 : ∀ w ∈ u_ws "BorrowedLivesModel" zT12 43, w ∈ zTg := zwsB_mem (ps := [1516, 1518, 1520, 1522, 1524, 1526, 1528, 1530, 1532, 1534, 1536, 1538, 1540, 1542, 1544, 1546, 1548, 1550, 1552, 1554, 1556, 1558, 1560, 1562, 1564, 1566, 1568, 1570, 1572, 1574, 1576, 1578, 1580, 1582, 1584, 1586, 1588, 1590, 1592, 1594, 1596, 1598, 1600]) (by decide +kernel)
def zclB : Bool := (List.range 13).all (fun c => match zcl[c]? with | some q => (List.range q.2.2).all (fun k => decide (parseFieldDescriptor (q.2.1 k).2.2.1 = some (zft c k)) && (List.range q.2.2).all (fun j => (k == j) || !((q.2.1 k).2.1 == (q.2.1 j).2.1))) | none => false)
theorem zclB_ok : zclB = true := by decide +kernel
theorem zcl_ws {ci : Nat} {q : vw_C} (h : zcl[ci]? = some q) : ∀ w ∈ u_ws q.1 q.2.1 q.2.2, w ∈ zTg := by
  match ci, h with
  | 0, h => cases h; exact zws0
  | 1, h => cases h; exact zws1
  | 2, h => cases h; exact zws2
  | 3, h => cases h; exact zws3
  | 4, h => cases h; exact zws4
  | 5, h => cases h; exact zws5
  | 6, h => cases h; exact zws6
  | 7, h => cases h; exact zws7
  | 8, h => cases h; exact zws8
  | 9, h => cases h; exact zws9
  | 10, h => cases h; exact zws10
  | 11, h => cases h; exact zws11
  | 12, h => cases h; exact zws12
  | n + 13, h => simp [zcl] at h
theorem zcl_lt {ci : Nat} {q : vw_C} (h : zcl[ci]? = some q) : ci < 13 := (List.getElem?_eq_some_iff.mp h).1
theorem zcl_ft {ci : Nat} {q : vw_C} (h : zcl[ci]? = some q) : ∀ k, k < q.2.2 → parseFieldDescriptor (q.2.1 k).2.2.1 = some (zft ci k) := by
  intro k hk
  have h1 := List.all_eq_true.mp zclB_ok ci (List.mem_range.mpr (zcl_lt h))
  rw [h] at h1
  have h2 := List.all_eq_true.mp h1 k (List.mem_range.mpr hk)
  simp only [Bool.and_eq_true, decide_eq_true_eq] at h2
  exact h2.1
theorem zcl_nm {ci : Nat} {q : vw_C} (h : zcl[ci]? = some q) : ∀ a, a < q.2.2 → ∀ b, b < q.2.2 → a ≠ b → (q.2.1 a).2.1 ≠ (q.2.1 b).2.1 := by
  intro a ha b hb hab
  have h1 := List.all_eq_true.mp zclB_ok ci (List.mem_range.mpr (zcl_lt h))
  rw [h] at h1
  have h2 := List.all_eq_true.mp h1 a (List.mem_range.mpr ha)
  simp only [Bool.and_eq_true, decide_eq_true_eq] at h2
  have h3 := List.all_eq_true.mp h2.2 b (List.mem_range.mpr hb)
  simp only [Bool.or_eq_true, beq_iff_eq, Bool.not_eq_true', beq_eq_false_iff_ne] at h3
  exact h3.resolve_left hab
/-! ===== a class: its name; pool entries of fields (index, class, place of the field, place of the word), of numbers, of the library's own methods ===== -/
abbrev zCls : Type := String × List (Nat × Nat × Nat × Nat) × List (Nat × Value × Nat) × List (Nat × Nat × Nat)
def zPrim (k : Nat) : MethodName := match k with | 0 => Lib.Math.max.name | 1 => Lib.Math.min.name | _ => arraycopyName
def zflB (own : String) (q : Nat × Nat × Nat × Nat) : Bool := match zcl[q.2.1]? with
  | some r => decide (q.2.2.1 < r.2.2) && (zIn q.2.2.2 (.fieldLink own q.1 (r.2.1 q.2.2.1).1 (r.2.1 q.2.2.1).2.1 (r.2.1 q.2.2.1).2.2.1) || zInN q.2.2.2 (.fieldLinkNest own q.1 (r.2.1 q.2.2.1).1 (r.2.1 q.2.2.1).2.1 (r.2.1 q.2.2.1).2.2.1 "BorrowedLives"))
  | none => false
def zklB (own : String) (q : Nat × Value × Nat) : Bool := match q.2.1 with
  | .int v => zIn q.2.2 (.constant own q.1 v)
  | .long v => zIn q.2.2 (.constantLong own q.1 v)
  | _ => false
def zplB (own : String) (q : Nat × Nat × Nat) : Bool := decide (q.2.1 < 3) && zIn q.2.2 (.methodLink own q.1 (zPrim q.2.1))
def zCok (c : zCls) : Bool := c.2.1.all (zflB c.1) && c.2.2.1.all (zklB c.1) && c.2.2.2.all (zplB c.1)
def zC0 : zCls := ("BorrowedLives$Deeds", [(9, 0, 0, 483), (15, 0, 1, 485), (30, 3, 0, 337), (45, 3, 1, 340), (49, 3, 2, 344), (52, 3, 3, 348), (61, 3, 4, 352), (67, 8, 11, 240)], [], [(55, 1, 1372), (64, 0, 1373)])
theorem zC0_ok : zCok zC0 = true := by decide +kernel
def zC1 : zCls := ("BorrowedLives$Forecast", [(9, 1, 4, 429), (15, 1, 5, 430), (21, 1, 6, 431), (25, 1, 7, 432), (28, 1, 8, 433), (32, 1, 9, 434), (35, 1, 10, 435), (38, 1, 11, 437), (42, 1, 12, 439), (45, 1, 13, 441), (48, 1, 14, 443), (51, 1, 0, 425), (55, 1, 1, 426), (59, 1, 2, 427), (68, 1, 3, 428), (71, 4, 1, 315), (82, 8, 9, 232), (91, 3, 1, 339), (121, 3, 4, 353), (131, 6, 0, 399), (134, 6, 1, 402), (137, 6, 2, 404), (144, 6, 3, 406), (151, 8, 0, 214)], [(115, .long 1000000000000, 1150)], [(94, 2, 1134), (157, 0, 1235)])
theorem zC1_ok : zCok zC1 = true := by decide +kernel
def zC2 : zCls := ("BorrowedLives$Laws", [(9, 2, 0, 189), (15, 2, 1, 190), (19, 2, 2, 192), (22, 2, 3, 193), (25, 2, 4, 194), (28, 2, 5, 195)], [], [(37, 2, 863)])
theorem zC2_ok : zCok zC2 = true := by decide +kernel
def zC3 : zCls := ("BorrowedLives$Lives", [(9, 3, 1, 338), (15, 3, 2, 342), (18, 3, 3, 346), (21, 3, 4, 350), (24, 3, 5, 354), (27, 3, 6, 356), (30, 3, 7, 357), (33, 3, 8, 358), (37, 3, 9, 360), (41, 3, 10, 362), (44, 3, 11, 364), (47, 3, 0, 335), (51, 8, 4, 220), (62, 8, 5, 223), (65, 8, 6, 226), (74, 4, 1, 316), (103, 8, 0, 213), (106, 8, 9, 233), (126, 8, 11, 242)], [], [(56, 2, 889), (142, 1, 1061), (147, 0, 956)])
theorem zC3_ok : zCok zC3 = true := by decide +kernel
def zC4 : zCls := ("BorrowedLives$Lots", [(9, 4, 0, 313), (15, 4, 1, 314), (18, 4, 2, 318), (22, 4, 3, 319), (25, 8, 0, 210)], [(45, .long 1000, 1160), (47, .long 1103515245, 998), (49, .long 12345, 999), (51, .long 2147483647, 1000), (53, .long 65536, 1004)], [(39, 2, 879)])
theorem zC4_ok : zCok zC4 = true := by decide +kernel
def zC5 : zCls := ("BorrowedLives$Pairs", [(9, 5, 0, 497), (15, 5, 1, 498), (19, 5, 2, 499), (22, 5, 3, 500), (25, 5, 4, 502), (28, 3, 0, 336), (34, 8, 0, 211), (59, 8, 11, 239), (67, 3, 2, 343), (70, 3, 3, 347)], [], [(37, 1, 1169), (92, 2, 1189)])
theorem zC5_ok : zCok zC5 = true := by decide +kernel
def zC6 : zCls := ("BorrowedLives$Tales", [(9, 6, 0, 398), (15, 6, 1, 401), (19, 6, 2, 403), (22, 6, 3, 405)], [], [(25, 2, 1277)])
theorem zC6_ok : zCok zC6 = true := by decide +kernel
def zC7 : zCls := ("BorrowedLives$Tape", [(11, 7, 0, 146), (15, 7, 1, 147), (19, 7, 2, 149), (23, 7, 3, 150), (26, 7, 4, 151), (30, 7, 5, 152), (33, 7, 6, 153), (36, 7, 7, 154)], [(39, .long 255, 578), (67, .long 27, 618)], [])
theorem zC7_ok : zCok zC7 = true := by decide +kernel
def zC8 : zCls := ("BorrowedLives$Town", [(9, 8, 0, 209), (15, 8, 1, 216), (19, 8, 2, 217), (23, 8, 3, 218), (26, 8, 4, 219), (29, 8, 5, 222), (32, 8, 6, 225), (35, 8, 7, 228), (38, 8, 8, 229), (41, 8, 9, 231), (44, 8, 10, 236), (51, 8, 11, 238)], [], [(64, 2, 856)])
theorem zC8_ok : zCok zC8 = true := by decide +kernel
def zC9 : zCls := ("BorrowedLives$TownReader", [(12, 9, 1, 277), (20, 9, 2, 279), (24, 9, 0, 276), (43, 7, 7, 155), (69, 8, 0, 212), (94, 8, 4, 221), (98, 8, 5, 224), (101, 8, 6, 227), (130, 8, 10, 237), (134, 8, 9, 234), (137, 8, 11, 241), (144, 2, 1, 191)], [], [])
theorem zC9_ok : zCok zC9 = true := by decide +kernel
def zC10 : zCls := ("BorrowedLives$Year", [(9, 10, 0, 293), (15, 10, 1, 295), (19, 10, 2, 296), (22, 10, 3, 297), (44, 7, 7, 156)], [], [(25, 2, 929)])
theorem zC10_ok : zCok zC10 = true := by decide +kernel
def zC11 : zCls := ("BorrowedLives", [(10, 11, 0, 515), (19, 11, 1, 516), (28, 11, 2, 517), (35, 11, 3, 518), (39, 11, 4, 519), (45, 11, 5, 520), (54, 11, 6, 521), (58, 11, 7, 522), (61, 11, 8, 523), (65, 11, 9, 524), (69, 11, 10, 525), (75, 11, 11, 526), (79, 11, 12, 527), (82, 11, 13, 528), (86, 11, 14, 529), (95, 11, 15, 530), (102, 11, 16, 531), (109, 11, 17, 532), (117, 7, 1, 148), (124, 9, 1, 278), (154, 3, 1, 341), (158, 3, 2, 345), (161, 3, 3, 349), (164, 3, 4, 351), (167, 3, 5, 355), (201, 3, 9, 361), (217, 3, 10, 363), (220, 3, 11, 365), (223, 4, 1, 317), (241, 1, 10, 436), (244, 1, 11, 438), (265, 0, 0, 484), (273, 5, 4, 503), (276, 5, 3, 501), (312, 1, 12, 440), (315, 1, 13, 442), (318, 1, 14, 444), (324, 8, 0, 215), (327, 8, 8, 230), (330, 8, 9, 235), (333, 3, 8, 359), (341, 10, 0, 294), (344, 6, 0, 400)], [(230, .int 1000000, 1118)], [(351, 1, 986)])
theorem zC11_ok : zCok zC11 = true := by decide +kernel
def zC12 : zCls := ("BorrowedLivesModel", [(1, 12, 0, 1473), (11, 12, 2, 1475), (14, 12, 1, 1474), (24, 12, 4, 1477), (27, 12, 5, 1478), (30, 12, 6, 1479), (88, 12, 9, 1482), (91, 12, 10, 1483), (94, 12, 11, 1484), (97, 12, 12, 1485), (100, 12, 14, 1487), (103, 12, 15, 1488), (106, 12, 20, 1493), (109, 12, 21, 1494), (112, 12, 22, 1495), (115, 12, 23, 1496), (118, 12, 25, 1498), (122, 12, 27, 1500), (125, 12, 28, 1501), (128, 12, 31, 1504), (131, 12, 32, 1505), (134, 12, 36, 1509), (137, 12, 37, 1510), (140, 12, 38, 1511), (143, 12, 40, 1513), (146, 12, 41, 1514), (160, 12, 3, 1476), (179, 12, 7, 1480), (182, 12, 8, 1481), (207, 12, 17, 1490), (210, 12, 16, 1489), (227, 12, 13, 1486), (230, 12, 18, 1491), (256, 12, 19, 1492), (297, 12, 26, 1499), (303, 12, 24, 1497), (313, 12, 29, 1502), (369, 12, 30, 1503), (422, 12, 35, 1508), (428, 12, 34, 1507), (431, 12, 33, 1506), (438, 12, 39, 1512), (447, 12, 42, 1515)], [(34, .long 1119812451, 1414), (36, .long 36179019, 1415), (38, .long 31075639, 1416), (40, .long 209551, 1417), (42, .long 426245, 1418), (44, .long 2793, 1419), (46, .long 975001, 1420), (48, .long 1347794357, 1421), (50, .long 24636691, 1422), (52, .long 375665, 1423), (54, .long 1178051, 1424), (56, .long 417698, 1425), (58, .long 17003, 1426), (60, .long 993947, 1427), (62, .long 5538, 1428), (64, .long 30596128, 1429), (66, .long 24846184, 1430), (68, .long 37900956, 1431), (70, .long 24449544, 1432), (72, .long 19741, 1433), (74, .long 1891, 1434), (76, .long 573, 1435), (78, .long 25143264, 1436), (80, .long 791471, 1437), (82, .long 716044, 1438), (84, .long 53840, 1439), (86, .long 38396496, 1440), (163, .long 37, 1614), (172, .long 10, 1621), (174, .long 48, 1622), (373, .long 1103515245, 1785), (375, .long 12345, 1786), (377, .long 2147483648, 1787), (379, .long 65536, 1788), (414, .int 1000000, 1892), (418, .long (-1), 1905), (420, .long 1000, 1906)], [])
theorem zC12_ok : zCok zC12 = true := by decide +kernel
def zC13 : zCls := ("java/util/Arrays", [], [], [])
theorem zC13_ok : zCok zC13 = true := by decide +kernel
