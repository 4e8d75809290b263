/-! ===== BorrowedLives itself: values, links ===== -/
abbrev VBl : Type := Int32 × Int32 × (Nat → Int32)
def Bl_nextUndo (v : VBl) : Int32 := v.1
def Bl_undoable (v : VBl) : Int32 := v.2.1
def Bl_laid (v : VBl) : (Nat → Int32) := v.2.2
def Bl_nextUndo_s (v : VBl) (x : Int32) : VBl := (x, v.2.1, v.2.2)
def Bl_undoable_s (v : VBl) (x : Int32) : VBl := (v.1, x, v.2.2)
def Bl_laid_s (v : VBl) (x : (Nat → Int32)) : VBl := (v.1, v.2.1, x)
def kBl (b : Nat) (v : VBl) : List zE := [.inr (11, [.ref (b + 1), .ref (b + 6), .ref (b + 20), .ref (b + 35), .ref (b + 39), .ref (b + 43), .ref (b + 46), .ref (b + 54), .ref (b + 62), .int (Bl_nextUndo v), .int (Bl_undoable v), .ref (b + 63), .ref (b + 67), .ref (b + 68), .ref (b + 69), .ref (b + 70), .ref (b + 83), .ref (b + 84)])]
def kBl_undos (b : Nat) : List zE := [.inl (4, 17, .inr (.inr (.inr (.inr (fun j => some (b + (88 + 8 * j)))))))]
def kBl_markedLives (b : Nat) : List zE := [.inl (4, 4, .inr (.inr (.inr (.inr (fun j => some (b + (224 + 12 * j)))))))]
def kBl_markedTales (b : Nat) : List zE := [.inl (5, 4, .inr (.inr (.inr (.inr (fun j => some (b + (232 + 12 * j)))))))]
def kBl_laid (x : Nat → Int32) : List zE := [.inl (3, 4, .inl x)]
theorem zK_BorrowedLives_180 : zLink "BorrowedLives" 180 ⟨"BorrowedLives", "keepForUndo", "()V"⟩ := Or.inl (zIn_mem (k := 970) (by decide +kernel))
theorem zK_BorrowedLives_183 : zLink "BorrowedLives" 183 ⟨"BorrowedLives$Lives", "hideCoins", "(II)Z"⟩ := Or.inl (zIn_mem (k := 978) (by decide +kernel))
theorem zK_BorrowedLives_186 : zLink "BorrowedLives" 186 ⟨"BorrowedLives", "byHand", "(Z)Z"⟩ := Or.inl (zIn_mem (k := 982) (by decide +kernel))
theorem zK_BorrowedLives_190 : zLink "BorrowedLives" 190 ⟨"BorrowedLives$Lives", "drawLot", "(LBorrowedLives$Lots;I)I"⟩ := Or.inl (zIn_mem (k := 991) (by decide +kernel))
theorem zK_BorrowedLives_194 : zLink "BorrowedLives" 194 ⟨"BorrowedLives$Lives", "changeLives", "(II)Z"⟩ := Or.inl (zIn_mem (k := 1017) (by decide +kernel))
theorem zK_BorrowedLives_197 : zLink "BorrowedLives" 197 ⟨"BorrowedLives$Lives", "nextDay", "()Z"⟩ := Or.inl (zIn_mem (k := 1027) (by decide +kernel))
theorem zK_BorrowedLives_204 : zLink "BorrowedLives" 204 ⟨"BorrowedLives$Lives", "goHome", "()I"⟩ := Or.inl (zIn_mem (k := 1078) (by decide +kernel))
theorem zK_BorrowedLives_207 : zLink "BorrowedLives" 207 ⟨"BorrowedLives$Lives", "copyFrom", "(LBorrowedLives$Lives;)V"⟩ := Or.inl (zIn_mem (k := 974) (by decide +kernel))
theorem zK_BorrowedLives_321 : zLink "BorrowedLives" 321 ⟨"BorrowedLives$Tales", "copyFrom", "(LBorrowedLives$Tales;)V"⟩ := Or.inl (zIn_mem (k := 1273) (by decide +kernel))
theorem zV_X11_byHand : zVirt ⟨"BorrowedLives", "byHand", "(Z)Z"⟩ 1 := ⟨⟨zIn_mem (k := 107) (by decide +kernel), by decide +kernel, by decide +kernel, by decide +kernel⟩, zIn_mem (k := 984) (by decide +kernel), zIn_mem (k := 18) (by decide +kernel)⟩
theorem zV_X11_keepForUndo : zVirt ⟨"BorrowedLives", "keepForUndo", "()V"⟩ 0 := ⟨⟨zIn_mem (k := 107) (by decide +kernel), by decide +kernel, by decide +kernel, by decide +kernel⟩, zIn_mem (k := 972) (by decide +kernel), zIn_mem (k := 17) (by decide +kernel)⟩
theorem zV_X6_copyFrom : zVirt ⟨"BorrowedLives$Tales", "copyFrom", "(LBorrowedLives$Tales;)V"⟩ 1 := ⟨⟨zIn_mem (k := 115) (by decide +kernel), by decide +kernel, by decide +kernel, by decide +kernel⟩, zIn_mem (k := 1274) (by decide +kernel), zIn_mem (k := 1275) (by decide +kernel)⟩
def Bl_s_nextUndo_undoable (v : VBl) (x_nextUndo : Int32) (x_undoable : Int32) : VBl := (x_nextUndo, x_undoable, v.2.2)
def Bl_s_undoable_laid (v : VBl) (x_undoable : Int32) (x_laid : (Nat → Int32)) : VBl := (v.1, x_undoable, x_laid)
/-! ===== a call in the same world ===== -/
theorem zrho_id (n j : Nat) : zrho (List.range n) n 0 j = j := by
  by_cases h : j < n
  · exact zrho_at (by simp [h])
  · exact zrho_far (by simp; omega)
theorem zv_id {r : Nat → Nat} (h : ∀ j, r j = j) (v : Value) : zv r v = v := by cases v <;> simp [zv, h]
theorem zvs_id {r : Nat → Nat} (h : ∀ j, r j = j) (l : List Value) : l.map (zv r) = l := by
  rw [List.map_congr_left (g := id) (fun v _ => zv_id h v), List.map_id]
theorem zA_id {r : Nat → Nat} (h : ∀ j, r j = j) (a : vp_A) : zA r a = a := by
  have e : r = fun j => j := funext h
  subst e
  rcases a with ⟨n, f | f | f | f | f⟩ <;> simp [zA]
theorem zre_id {r : Nat → Nat} (h : ∀ j, r j = j) (e : zE) : zre r e = e := by
  rcases e with a | o
  · simp only [zre, zA_id h]
  · simp only [zre, zvs_id h]
theorem zres_id {r : Nat → Nat} (h : ∀ j, r j = j) (l : List zE) : l.map (zre r) = l := by
  rw [List.map_congr_left (g := id) (fun v _ => zre_id h v), List.map_id]
theorem zjoin_all (cs es : List zE) (h : es.length = cs.length) : zjoin cs (List.range cs.length) es = es := by
  unfold zjoin
  rw [List.drop_of_length_le (by rw [List.length_range, h]; exact Nat.le_refl _), List.append_nil]
  apply List.ext_getElem?
  intro j
  by_cases hj : j < cs.length
  · have hj2 : j < es.length := by omega
    rw [List.getElem?_eq_getElem hj2]
    exact zset_in _ _ _ j j _ List.nodup_range (by simp [hj]) (List.getElem?_eq_getElem hj2) hj
  · rw [List.getElem?_eq_none (by rw [zset_len]; omega), List.getElem?_eq_none (by omega)]
theorem AW.callVi {Z : zCtx} {M M' : zMth} {k n d d' nf mc mc' ms ms' n0 pc b0 idx np : Nat} {lv : List (Option Value)} {st rest as : List Value} {X : List (List zE)} {it : zIt} {Post : Option Value → List zE → Prop} (hZ : zOk Z M) (hR : zCan Z d mc ms) (hN : zNew Z n0 nf) (hC : Ct M' d' 0 mc' ms' (.ref b0 :: as) X.flatten Post) (hM' : zMok M')
    (hit : zget M.2.2.2.2.1 pc = some it) (hop : it.2.1 = .invokevirtual idx) (hlk : zLink M.2.2.2.2.2.1 idx M'.1) (hce : zVirt M'.1 np) (hnp : as.length = np)
    (lens : List Nat) (hlens : X.map List.length = lens) (hfar : lens.sum ≤ 1000000)
    (hd : d' + 1 ≤ d) (hmL : M'.2.2.1 ≤ 45) (hmc : k + mc' ≤ mc) (hms : n + ms' ≤ ms)
    (hst : st = (Value.ref b0 :: as).reverse ++ rest) (hr4 : Nat.ble (zcsum rest) 8 = true)
    {ci : Nat} {fs : List Value} (hrv : X.flatten[b0]? = some (.inr (ci, fs))) {rc : vw_C} (hrc : zcl[ci]? = some rc) (hrn : rc.1 = M'.1.cls)
    (kk : ∀ (v : Option Value) (cc1 : List zE), Post v cc1 → AW Z (k + mc') (n + ms') (pc + 3) lv (v.toList ++ rest) cc1) :
    AW Z k n pc lv st X.flatten := by
  subst hlens
  have hsum : (X.map List.length).sum = X.flatten.length := by rw [List.length_flatten]
  rw [hsum] at hfar
  generalize X.flatten = cs at *
  have hid := zrho_id cs.length
  refine AW.callV hZ hR hN hC hM' hit hop hlk hce hnp (List.range cs.length) ?_ List.nodup_range (Or.inl rfl) (by simpa using hfar) hd hmL hmc hms (by rw [zvs_id hid]; exact hst) hr4 (by rw [hid]; exact hrv) hrc hrn (fun v cc1 h hl => ?_)
  · apply List.ext_getElem?
    intro j
    simp only [List.getElem?_map, zre_id hid]
    by_cases hj : j < cs.length
    · simp [hj]
    · rw [List.getElem?_eq_none (by simpa using Nat.le_of_not_lt hj), List.getElem?_eq_none (Nat.le_of_not_lt hj)]
      rfl
  · have e1 : v.map (zv (zrho (List.range cs.length) cs.length 0)) = v := by
      cases v with
      | none => rfl
      | some w => simp [zv_id hid]
    rw [zres_id hid, e1, zjoin_all _ _ (by omega)]
    exact kk v cc1 h
