/-! the words that every contract asks: all that stay good; worlds of places; the small machine -/
def zTg : List Cond := lw_tbl.filter goodWord
theorem zTg_mem {w : Cond} (h : w ∈ lw_tbl) (hg : goodWord w = true) : w ∈ zTg := List.mem_filter.mpr ⟨h, hg⟩
theorem zTg_good : GoodIn zTg zTg := fun w h => ⟨h, good_of_word (List.mem_filter.mp h).2⟩
theorem zTg_cons {w : Cond} (h : w ∈ zTg) : GoodIn zTg (w :: zTg) := fun v hv => by
  rcases List.mem_cons.mp hv with rfl | hv
  · exact zTg_good _ h
  · exact zTg_good _ hv
def zIn (k : Nat) (w : Cond) : Bool := decide (lw_tbl[k]? = some w) && goodWord w
theorem zIn_mem {k : Nat} {w : Cond} (h : zIn k w = true) : w ∈ zTg := by
  simp only [zIn, Bool.and_eq_true, decide_eq_true_eq] at h
  exact zTg_mem (List.mem_of_getElem? h.1) h.2
def zNst (w : Cond) : Bool := match w with
  | .fieldLinkNest _ _ _ _ _ _ => true
  | .methodLinkNest _ _ _ _ => true
  | _ => false
def zNw : List Cond := lw_tbl.filter zNst
def zInN (k : Nat) (w : Cond) : Bool := decide (lw_tbl[k]? = some w) && zNst w
theorem zInN_mem {k : Nat} {w : Cond} (h : zInN k w = true) : w ∈ zNw := by
  simp only [zInN, Bool.and_eq_true, decide_eq_true_eq] at h
  exact List.mem_filter.mpr ⟨List.mem_of_getElem? h.1, h.2⟩
theorem zNst_tab {w : Cond} (h : zNst w = true) : w.onTables = true := by
  cases w <;> first | rfl | simp [zNst] at h
theorem zNst_warm {w : Cond} (h : zNst w = true) {s U : State} (hW : s.WarmedH U.vm) (hZ : va_Nw w s) : va_Nw w U := by
  cases w <;> first | exact va_Nw.warmF hW hZ | exact va_Nw.warmM hW hZ | simp [zNst] at h
theorem zNst_same {w : Cond} (h : zNst w = true) {s U : State} (hW : s.vm = U.vm) (hZ : va_Nw w s) : va_Nw w U := va_Nw.same (zNst_tab h) hW hZ
abbrev zE : Type := (Nat × vp_A) ⊕ (Nat × List Value)
def zv (adr : Nat → Nat) (v : Value) : Value := match v with
  | .ref k => .ref (adr k)
  | w => w
def zA (adr : Nat → Nat) (a : vp_A) : vp_A := match a with
  | (n, .inr (.inr (.inr (.inr f)))) => (n, .inr (.inr (.inr (.inr (fun j => (f j).map adr)))))
  | a => a
def ze (dA : Nat → ClassId) (adr : Nat → Nat) (e : zE) : va_E := match e with
  | .inl a => .inl (dA a.1, zA adr a.2)
  | .inr o => .inr (o.1, o.2.map (zv adr))
def zws (dA : Nat → ClassId) (adr : Nat → Nat) (cs : List zE) : va_W := cs.mapIdx (fun k e => (adr k, ze dA adr e))
theorem zws_at {dA : Nat → ClassId} {adr : Nat → Nat} {cs : List zE} {q : Nat} {e : zE} (h : cs[q]? = some e) : (zws dA adr cs)[q]? = some (adr q, ze dA adr e) := by
  simp [zws, h]
theorem zws_set {dA : Nat → ClassId} {adr : Nat → Nat} {cs : List zE} {q : Nat} {e : zE} : zws dA adr (cs.set q e) = (zws dA adr cs).set q (adr q, ze dA adr e) := by
  apply List.ext_getElem?
  intro i
  simp only [zws, List.getElem?_mapIdx, List.getElem?_set, List.length_mapIdx]
  by_cases h : q = i
  · subst h
    by_cases h2 : q < cs.length <;> simp [h2]
  · simp [h]
theorem zws_app {dA : Nat → ClassId} {adr : Nat → Nat} {cs : List zE} {e : zE} : zws dA adr (cs ++ [e]) = zws dA adr cs ++ [(adr cs.length, ze dA adr e)] := by
  simp [zws, List.mapIdx_append]
theorem zws_len {dA : Nat → ClassId} {adr : Nat → Nat} {cs : List zE} : (zws dA adr cs).length = cs.length := by simp [zws]
theorem zv_cat (adr : Nat → Nat) (v : Value) : (zv adr v).category = v.category := by cases v <;> rfl
-- locals: by their places
def zLv (ls : Array Slot) (nL : Nat) (adr : Nat → Nat) (lv : List (Option Value)) : Prop := lv.length = nL ∧ ∃ l, lv_has ls nL l ∧ ∀ (i : Nat) (v : Value), lv[i]? = some (some v) → (i, zv adr v) ∈ l
theorem zLv.at {ls : Array Slot} {nL : Nat} {adr : Nat → Nat} {lv : List (Option Value)} (h : zLv ls nL adr lv) {i : Nat} {v : Value} (hi : lv[i]? = some (some v)) : ls[i]? = some (.val (zv adr v)) := by
  obtain ⟨-, l, h1, h2⟩ := h
  exact h1.2.2 _ (h2 i v hi)
def zst1 (lv : List (Option Value)) (i : Nat) (v : Value) : List (Option Value) := match i with
  | 0 => lv.set 0 (some v)
  | j + 1 => match lv[j]? with
    | some (some (.long _)) => (lv.set j none).set (j + 1) (some v)
    | some (some (.double _)) => (lv.set j none).set (j + 1) (some v)
    | _ => lv.set (j + 1) (some v)
def zst2 (lv : List (Option Value)) (i : Nat) (v : Value) : List (Option Value) := (zst1 lv i v).set (i + 1) none
theorem zst1_len (lv : List (Option Value)) (i : Nat) (v : Value) : (zst1 lv i v).length = lv.length := by
  unfold zst1
  split
  · simp
  · split <;> simp
theorem zst1_at {lv : List (Option Value)} {i : Nat} {v : Value} {j : Nat} {w : Value} (h : (zst1 lv i v)[j]? = some (some w)) : (j = i ∧ w = v) ∨ (j ≠ i ∧ lv[j]? = some (some w) ∧ ¬ (j + 1 = i ∧ w.category = 2)) := by
  by_cases hj : j = i
  · left
    refine ⟨hj, ?_⟩
    subst hj
    unfold zst1 at h
    split at h
    · simp only [List.getElem?_set] at h
      simp at h
      exact h.2.symm
    · split at h <;>
      · simp only [List.getElem?_set] at h
        simp at h
        exact h.2.symm
  · right
    refine ⟨hj, ?_⟩
    unfold zst1 at h
    split at h
    · rw [List.getElem?_set_ne (fun h9 => hj h9.symm)] at h
      exact ⟨h, fun h9 => absurd h9.1 (by omega)⟩
    · next k =>
      split at h
      · rw [List.getElem?_set_ne (fun h9 => hj h9.symm)] at h
        by_cases h8 : k = j
        · subst h8
          rw [List.getElem?_set] at h
          simp at h
        · rw [List.getElem?_set_ne h8] at h
          exact ⟨h, fun h9 => absurd h9.1 (by omega)⟩
      · rw [List.getElem?_set_ne (fun h9 => hj h9.symm)] at h
        by_cases h8 : k = j
        · subst h8
          rw [List.getElem?_set] at h
          simp at h
        · rw [List.getElem?_set_ne h8] at h
          exact ⟨h, fun h9 => absurd h9.1 (by omega)⟩
      · next h5 h6 =>
        rw [List.getElem?_set_ne (fun h9 => hj h9.symm)] at h
        refine ⟨h, fun h9 => ?_⟩
        have h8 : j = k := by omega
        subst h8
        cases w with
        | long x => exact h5 x h
        | double x => exact h6 x h
        | _ => exact absurd h9.2 (by simp [Value.category])
theorem zLv.st1 {ls' : Array Slot} {nL : Nat} {adr : Nat → Nat} {lv : List (Option Value)} {l : List (Nat × Value)} {i : Nat} {v : Value} (hn : lv.length = nL) (hl : ∀ (j : Nat) (w : Value), lv[j]? = some (some w) → (j, zv adr w) ∈ l)
    (h : lv_has ls' nL ((i, zv adr v) :: l.filter (fun q => !(q.1 == i) && !(q.1 + 1 == i && q.2.category == 2)))) : zLv ls' nL adr (zst1 lv i v) := by
  refine ⟨by rw [zst1_len]; exact hn, _, h, fun j w hj => ?_⟩
  rcases zst1_at hj with ⟨rfl, rfl⟩ | ⟨h1, h2, h3⟩
  · exact List.mem_cons_self
  · refine List.mem_cons_of_mem _ (List.mem_filter.mpr ⟨hl _ _ h2, ?_⟩)
    simp only [zv_cat]
    by_cases h4 : j + 1 = i
    · have : ¬ w.category = 2 := fun h5 => h3 ⟨h4, h5⟩
      simp [h1, this]
    · simp [h1, h4]
theorem zLv.st2 {ls' : Array Slot} {nL : Nat} {adr : Nat → Nat} {lv : List (Option Value)} {l : List (Nat × Value)} {i : Nat} {v : Value} (hn : lv.length = nL) (hl : ∀ (j : Nat) (w : Value), lv[j]? = some (some w) → (j, zv adr w) ∈ l)
    (h : lv_has ls' nL ((i, zv adr v) :: l.filter (fun q => !(q.1 == i) && (!(q.1 == i + 1) && !(q.1 + 1 == i && q.2.category == 2))))) : zLv ls' nL adr (zst2 lv i v) := by
  refine ⟨by rw [zst2, List.length_set, zst1_len]; exact hn, _, h, fun j w hj => ?_⟩
  rw [zst2] at hj
  by_cases h0 : i + 1 = j
  · subst h0
    rw [List.getElem?_set] at hj
    simp at hj
  · rw [List.getElem?_set_ne h0] at hj
    rcases zst1_at hj with ⟨rfl, rfl⟩ | ⟨h1, h2, h3⟩
    · exact List.mem_cons_self
    · refine List.mem_cons_of_mem _ (List.mem_filter.mpr ⟨hl _ _ h2, ?_⟩)
      simp only [zv_cat]
      have h9 : ¬ j = i + 1 := fun h => h0 h.symm
      by_cases h4 : j + 1 = i
      · have : ¬ w.category = 2 := fun h5 => h3 ⟨h4, h5⟩
        simp [h1, h9, this]
      · simp [h1, h4, h9]
