/-! ===== bars as bits ===== -/
theorem bit_ok (x : Int32) {s : Nat} (hs : s < 6) : ((x >>> (nI s &&& 31)) &&& 1) = 0 ↔ x.toBitVec.getLsbD s = false := by
  have e : ∀ s, s < 6 → ((nI s &&& 31).toBitVec.smod 32).toNat = s := by decide +kernel
  rw [← Int32.toBitVec_inj, Int32.toBitVec_and, Int32.toBitVec_shiftRight, BitVec.sshiftRight_eq', e s hs]
  constructor
  · intro q
    have := congrArg (fun b => b.getLsbD 0) q
    simp only [BitVec.getLsbD_and, BitVec.getLsbD_sshiftRight] at this
    simpa [show s < 32 by omega] using this
  · intro q
    apply BitVec.eq_of_getLsbD_eq
    intro i hi
    rw [BitVec.getLsbD_and]
    by_cases e2 : i = 0
    · subst e2
      rw [BitVec.getLsbD_sshiftRight]
      simpa [show s < 32 by omega] using q
    · have : (1 : Int32).toBitVec.getLsbD i = false := by
        show (1#32).getLsbD i = false
        rw [BitVec.getLsbD_one]
        simp [e2]
      rw [this]
      simp
theorem bit_or (x : Int32) {l s : Nat} (hl : l < 6) (hs : s < 6) : (x ||| ((1 : Int32) <<< (nI l &&& 31))).toBitVec.getLsbD s = (x.toBitVec.getLsbD s || decide (l = s)) := by
  rw [Int32.toBitVec_or, BitVec.getLsbD_or]
  have e : ∀ l, l < 6 → ∀ s, s < 6 → ((1 : Int32) <<< (nI l &&& 31)).toBitVec.getLsbD s = decide (l = s) := by decide +kernel
  rw [e l hl s hs]
