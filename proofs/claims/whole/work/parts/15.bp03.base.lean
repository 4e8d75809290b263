/-! ===== numbers: small rows for the pure part ===== -/
theorem zlit (n : Nat) : (OfNat.ofNat n : Int32) = nI (OfNat.ofNat n) := rfl
theorem zleF {a b : Nat} (h : b < a) : (a ≤ b) = False := eq_false (Nat.not_le.mpr h)
theorem zleT {a b : Nat} (h : a ≤ b) : (a ≤ b) = True := eq_true h
theorem zltF {a b : Nat} (h : b ≤ a) : (a < b) = False := eq_false (Nat.not_lt.mpr h)
theorem zltT {a b : Nat} (h : a < b) : (a < b) = True := eq_true h
theorem zeqF {a b : Nat} (h : ¬ a = b) : (a = b) = False := eq_false h
theorem zeqT {a b : Nat} (h : a = b) : (a = b) = True := eq_true h
theorem zsubm {a b : Nat} (h : b ≤ a) : nI a + -nI b = nI (a - b) := by
  rw [← pk_sub h]
  grind
theorem zneg1 {n : Nat} (h : n < 2 ^ 31) : (nI n = -nI 1) = False := by
  apply eq_false
  intro e
  have h2 := congrArg Int32.toInt e
  rw [nI_toInt h] at h2
  have h3 : (-nI 1).toInt = -1 := by decide
  omega
theorem nI_nem1 {n : Nat} (h : n < 2 ^ 31) : ¬ nI n = (-1) := of_eq_false (zneg1 h)
theorem zneg1L {n : Nat} (h : n < 2 ^ 31) : (-nI 1 = nI n) = False := by
  apply eq_false
  intro e
  exact of_eq_true ((zneg1 h).symm.trans (eq_true e.symm)) |>.elim
theorem zneg0 : (-nI 1 < nI 0) = True := by decide
theorem fa_le2 (a b : Int32) : a ≤ b ↔ a.toInt ≤ b.toInt := Int32.le_iff_toInt_le
theorem fa_lt2 (a b : Int32) : a < b ↔ a.toInt < b.toInt := Int32.lt_iff_toInt_lt
theorem zneg2 {n : Nat} (h : n < 2 ^ 31) : (nI n ≤ -nI 1) = False := by
  apply eq_false
  rw [fa_le2]
  have h3 : (-nI 1).toInt = -1 := by decide
  rw [nI_toInt h, h3]
  omega
theorem bnd {α β : Type} {x : Option α} {a : α} {f : α → Option β} {R : Option β} (h : x = some a) (h2 : f a = R) : x.bind f = R := by
  rw [h]; exact h2
theorem zifn {α : Type} {c : Prop} [Decidable c] {a b R : Option α} (h : ¬ c) (h2 : b = R) : (if c then a else b) = R := (if_neg h).trans h2
theorem zifp {α : Type} {c : Prop} [Decidable c] {a b R : Option α} (h : c) (h2 : a = R) : (if c then a else b) = R := (if_pos h).trans h2
theorem zletE {α β : Type} {x : α} {f : α → Option β} {R : Option β} (h : f x = R) : zlet x f = R := h
theorem zletG {α β : Type} {x y : α} {f : α → Option β} {R : Option β} (h : x = y) (h2 : f y = R) : zlet x f = R := by
  subst h; exact h2
/-- it comes to something of which Q holds -/
def Ev {α : Type} (x : Option α) (Q : α → Prop) : Prop := ∃ r, x = some r ∧ Q r
theorem Ev.ret {α : Type} {r : α} {Q : α → Prop} (h : Q r) : Ev (some r) Q := ⟨r, rfl, h⟩
theorem Ev.of {α : Type} {x : Option α} {r : α} {Q : α → Prop} (h : x = some r) (h2 : Q r) : Ev x Q := ⟨r, h, h2⟩
theorem Ev.bnd {α β : Type} {x : Option α} {a : α} {f : α → Option β} {Q : β → Prop} (h : x = some a) (h2 : Ev (f a) Q) : Ev (x.bind f) Q := by
  rw [h]; exact h2
theorem Ev.bnx {α β : Type} {x : Option α} {f : α → Option β} {Q1 : α → Prop} {Q : β → Prop} (h : Ev x Q1) (h2 : ∀ a, Q1 a → Ev (f a) Q) : Ev (x.bind f) Q := by
  obtain ⟨a, h3, h4⟩ := h
  rw [h3]
  exact h2 a h4
theorem Ev.ifn {α : Type} {c : Prop} [Decidable c] {a b : Option α} {Q : α → Prop} (h : ¬ c) (h2 : Ev b Q) : Ev (if c then a else b) Q := by
  rw [if_neg h]; exact h2
theorem Ev.ifp {α : Type} {c : Prop} [Decidable c] {a b : Option α} {Q : α → Prop} (h : c) (h2 : Ev a Q) : Ev (if c then a else b) Q := by
  rw [if_pos h]; exact h2
theorem Ev.letE {α β : Type} {x : α} {f : α → Option β} {Q : β → Prop} (h : Ev (f x) Q) : Ev (zlet x f) Q := h
theorem Ev.letG {α β : Type} {x y : α} {f : α → Option β} {Q : β → Prop} (h : x = y) (h2 : Ev (f y) Q) : Ev (zlet x f) Q := by
  subst h; exact h2
theorem Ev.mono {α : Type} {x : Option α} {Q Q1 : α → Prop} (h : Ev x Q1) (h2 : ∀ r, Q1 r → Q r) : Ev x Q := by
  obtain ⟨r, h3, h4⟩ := h
  exact ⟨r, h3, h2 r h4⟩
