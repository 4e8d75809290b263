/-! ===== a walk's standing place in the small machine; one instruction; a run of them ===== -/
abbrev zIt : Type := Nat × Instr × Nat × Value × Nat × Nat × Nat × List (Int32 × Nat)
abbrev zK : Type := Nat → List (Option Value) → List Value → List zE → Prop
/-- a switch by its keys -/
def zsw (x : Int32) (K : Nat → Prop) (d : Nat) : List (Int32 × Nat) → Prop
  | [] => K d
  | q :: r => (x = q.1 → K q.2) ∧ (¬ x = q.1 → zsw x K d r)
def zswT (x : Int32) (d : Nat) : List (Int32 × Nat) → Nat
  | [] => d
  | q :: r => if x = q.1 then q.2 else zswT x d r
theorem zsw_T {x : Int32} {K : Nat → Prop} {d : Nat} : ∀ {l : List (Int32 × Nat)}, zsw x K d l → K (zswT x d l)
  | [], h => h
  | q :: r, h => by
    by_cases hx : x = q.1
    · rw [zswT, if_pos hx]; exact h.1 hx
    · rw [zswT, if_neg hx]; exact zsw_T (h.2 hx)
/-- how many words stand on a stack -/
def zcsum : List Value → Nat
  | [] => 0
  | v :: r => v.category + zcsum r
def zcpyOk (sp dp n : Int32) (n0 n1 : Nat) : Prop := ¬ sp < 0 ∧ ¬ dp < 0 ∧ ¬ n < 0 ∧ sp.toNatClampNeg + n.toNatClampNeg ≤ n0 ∧ dp.toNatClampNeg + n.toNatClampNeg ≤ n1
def zstep (it : zIt) (pc : Nat) (lv : List (Option Value)) (st : List Value) (cs : List zE) (K : zK) (D : Prop) : Prop :=
  match it with
  | (_, op, _, v, a, b, c, sw) =>
  match op with
  | .iconst _ => K (pc + 1) lv (v :: st) cs
  | .bipush _ => K (pc + 2) lv (v :: st) cs
  | .sipush _ => K (pc + 3) lv (v :: st) cs
  | .lconst _ => K (pc + 1) lv (v :: st) cs
  | .ldc _ => match a with | 1 => K (pc + 2) lv (v :: st) cs | _ => D
  | .ldc_w _ => match a with | 1 => K (pc + 3) lv (v :: st) cs | _ => D
  | .ldc2_w _ => K (pc + 3) lv (v :: st) cs
  | .iload i => match lv[i]? with | some (some (.int x)) => K (pc + 2) lv (.int x :: st) cs | _ => D
  | .iload_n i => match lv[i.val]? with | some (some (.int x)) => K (pc + 1) lv (.int x :: st) cs | _ => D
  | .lload i => match lv[i]? with | some (some (.long x)) => K (pc + 2) lv (.long x :: st) cs | _ => D
  | .lload_n i => match lv[i.val]? with | some (some (.long x)) => K (pc + 1) lv (.long x :: st) cs | _ => D
  | .aload i => match lv[i]? with | some (some (.ref x)) => K (pc + 2) lv (.ref x :: st) cs | _ => D
  | .aload_n i => match lv[i.val]? with | some (some (.ref x)) => K (pc + 1) lv (.ref x :: st) cs | _ => D
  | .istore i => match st, lv[i]? with | .int x :: r, some _ => K (pc + 2) (zst1 lv i (.int x)) r cs | _, _ => D
  | .istore_n i => match st, lv[i.val]? with | .int x :: r, some _ => K (pc + 1) (zst1 lv i.val (.int x)) r cs | _, _ => D
  | .lstore i => match st, lv[i + 1]? with | .long x :: r, some _ => K (pc + 2) (zst2 lv i (.long x)) r cs | _, _ => D
  | .lstore_n i => match st, lv[i.val + 1]? with | .long x :: r, some _ => K (pc + 1) (zst2 lv i.val (.long x)) r cs | _, _ => D
  | .astore i => match st, lv[i]? with | .ref x :: r, some _ => K (pc + 2) (zst1 lv i (.ref x)) r cs | _, _ => D
  | .astore_n i => match st, lv[i.val]? with | .ref x :: r, some _ => K (pc + 1) (zst1 lv i.val (.ref x)) r cs | _, _ => D
  | .iinc i _ => match lv[i]?, v with | some (some (.int x)), .int w => K (pc + 3) (zst1 lv i (.int (x + w))) st cs | _, _ => D
  | .iadd => match st with | .int y :: .int x :: r => K (pc + 1) lv (.int (x + y) :: r) cs | _ => D
  | .isub => match st with | .int y :: .int x :: r => K (pc + 1) lv (.int (x - y) :: r) cs | _ => D
  | .imul => match st with | .int y :: .int x :: r => K (pc + 1) lv (.int (x * y) :: r) cs | _ => D
  | .iand => match st with | .int y :: .int x :: r => K (pc + 1) lv (.int (x &&& y) :: r) cs | _ => D
  | .ior => match st with | .int y :: .int x :: r => K (pc + 1) lv (.int (x ||| y) :: r) cs | _ => D
  | .idiv => match st with | .int y :: .int x :: r => ¬ y = 0 ∧ K (pc + 1) lv (.int (x / y) :: r) cs | _ => D
  | .irem => match st with | .int y :: .int x :: r => ¬ y = 0 ∧ K (pc + 1) lv (.int (x - x / y * y) :: r) cs | _ => D
  | .ineg => match st with | .int x :: r => K (pc + 1) lv (.int (-x) :: r) cs | _ => D
  | .ishl => match st with | .int y :: .int x :: r => K (pc + 1) lv (.int (x <<< (y &&& 31)) :: r) cs | _ => D
  | .ishr => match st with | .int y :: .int x :: r => K (pc + 1) lv (.int (x >>> (y &&& 31)) :: r) cs | _ => D
  | .ladd => match st with | .long y :: .long x :: r => K (pc + 1) lv (.long (x + y) :: r) cs | _ => D
  | .lsub => match st with | .long y :: .long x :: r => K (pc + 1) lv (.long (x - y) :: r) cs | _ => D
  | .lmul => match st with | .long y :: .long x :: r => K (pc + 1) lv (.long (x * y) :: r) cs | _ => D
  | .land => match st with | .long y :: .long x :: r => K (pc + 1) lv (.long (x &&& y) :: r) cs | _ => D
  | .lor => match st with | .long y :: .long x :: r => K (pc + 1) lv (.long (x ||| y) :: r) cs | _ => D
  | .ldiv => match st with | .long y :: .long x :: r => ¬ y = 0 ∧ K (pc + 1) lv (.long (x / y) :: r) cs | _ => D
  | .lrem => match st with | .long y :: .long x :: r => ¬ y = 0 ∧ K (pc + 1) lv (.long (x - x / y * y) :: r) cs | _ => D
  | .lshl => match st with | .int y :: .long x :: r => K (pc + 1) lv (.long (x <<< (y.toInt64 &&& 63)) :: r) cs | _ => D
  | .lshr => match st with | .int y :: .long x :: r => K (pc + 1) lv (.long (x >>> (y.toInt64 &&& 63)) :: r) cs | _ => D
  | .lushr => match st with | .int y :: .long x :: r => K (pc + 1) lv (.long (x.toUInt64 >>> (y.toInt64.toUInt64 &&& Int64.toUInt64 63)).toInt64 :: r) cs | _ => D
  | .lcmp => match st with | .long y :: .long x :: r => K (pc + 1) lv (.int (lg_cmp x y) :: r) cs | _ => D
  | .i2l => match st with | .int x :: r => K (pc + 1) lv (.long x.toInt64 :: r) cs | _ => D
  | .l2i => match st with | .long x :: r => K (pc + 1) lv (.int x.toInt32 :: r) cs | _ => D
  | .i2c => match st with | .int x :: r => K (pc + 1) lv (.int (x.toUInt32 % 65536).toInt32 :: r) cs | _ => D
  | .i2b => match st with | .int x :: r => K (pc + 1) lv (.int x.toInt8.toInt32 :: r) cs | _ => D
  | .dup => match st with | .int x :: r => K (pc + 1) lv (.int x :: .int x :: r) cs | .ref x :: r => K (pc + 1) lv (.ref x :: .ref x :: r) cs | _ => D
  | .dup2 => match st with
    | .int y :: .int x :: r => K (pc + 1) lv (.int y :: .int x :: .int y :: .int x :: r) cs
    | .int y :: .ref x :: r => K (pc + 1) lv (.int y :: .ref x :: .int y :: .ref x :: r) cs
    | .long x :: r => K (pc + 1) lv (.long x :: .long x :: r) cs
    | _ => D
  | .pop => match st with | .int _ :: r => K (pc + 1) lv r cs | .ref _ :: r => K (pc + 1) lv r cs | _ => D
  | .goto _ => K a lv st cs
  | .if_icmp q _ => match st with
    | .int y :: .int x :: r => match q with
      | .eq => (x = y → K a lv r cs) ∧ (¬ x = y → K (pc + 3) lv r cs)
      | .ne => (¬ x = y → K a lv r cs) ∧ (x = y → K (pc + 3) lv r cs)
      | .lt => (x < y → K a lv r cs) ∧ (¬ x < y → K (pc + 3) lv r cs)
      | .ge => (y ≤ x → K a lv r cs) ∧ (¬ y ≤ x → K (pc + 3) lv r cs)
      | .gt => (y < x → K a lv r cs) ∧ (¬ y < x → K (pc + 3) lv r cs)
      | .le => (x ≤ y → K a lv r cs) ∧ (¬ x ≤ y → K (pc + 3) lv r cs)
    | _ => D
  | .ifCond q _ => match st with
    | .int x :: r => match q with
      | .eq => (x = 0 → K a lv r cs) ∧ (¬ x = 0 → K (pc + 3) lv r cs)
      | .ne => (¬ x = 0 → K a lv r cs) ∧ (x = 0 → K (pc + 3) lv r cs)
      | .lt => (x < 0 → K a lv r cs) ∧ (¬ x < 0 → K (pc + 3) lv r cs)
      | .ge => (0 ≤ x → K a lv r cs) ∧ (¬ 0 ≤ x → K (pc + 3) lv r cs)
      | .gt => (0 < x → K a lv r cs) ∧ (¬ 0 < x → K (pc + 3) lv r cs)
      | .le => (x ≤ 0 → K a lv r cs) ∧ (¬ x ≤ 0 → K (pc + 3) lv r cs)
    | _ => D
  | .tableswitch _ _ _ _ => match st with | .int x :: r => zsw x (fun t => K t lv r cs) a sw | _ => D
  | .lookupswitch _ _ => match st with | .int x :: r => zsw x (fun t => K t lv r cs) a sw | _ => D
  | .getfield _ => match c, st with
    | 0, .ref q :: r => match cs[q]? with
      | some (.inr (ci, fs)) => match fs[b]? with
        | some w => match Nat.beq ci a with | true => K (pc + 3) lv (w :: r) cs | false => D
        | none => D
      | _ => D
    | _, _ => D
  | .putfield _ => match st with
    | w :: .ref q :: r => match cs[q]? with
      | some (.inr (ci, fs)) => match Nat.beq ci a, Nat.blt b fs.length with
        | true, true => match c, w with
          | 1, .int x => K (pc + 3) lv r (cs.set q (.inr (ci, fs.set b (.int x))))
          | 2, .int x => (x = 0 ∨ x = 1) ∧ K (pc + 3) lv r (cs.set q (.inr (ci, fs.set b (.int x))))
          | 3, .long x => K (pc + 3) lv r (cs.set q (.inr (ci, fs.set b (.long x))))
          | _, _ => D
        | _, _ => D
      | _ => D
    | _ => D
  | .iaload => match st with
    | .int i :: .ref q :: r => match cs[q]? with
      | some (.inl (0, n, .inl f)) => vp_in i n ∧ K (pc + 1) lv (.int (f i.toNatClampNeg) :: r) cs
      | _ => D
    | _ => D
  | .laload => match st with
    | .int i :: .ref q :: r => match cs[q]? with
      | some (.inl (1, n, .inr (.inl f))) => vp_in i n ∧ K (pc + 1) lv (.long (f i.toNatClampNeg) :: r) cs
      | _ => D
    | _ => D
  | .caload => match st with
    | .int i :: .ref q :: r => match cs[q]? with
      | some (.inl (2, n, .inl f)) => vp_in i n ∧ K (pc + 1) lv (.int (f i.toNatClampNeg) :: r) cs
      | _ => D
    | _ => D
  | .baload => match st with
    | .int i :: .ref q :: r => match cs[q]? with
      | some (.inl (3, n, .inl f)) => vp_in i n ∧ K (pc + 1) lv (.int (f i.toNatClampNeg) :: r) cs
      | _ => D
    | _ => D
  | .aaload => match st with
    | .int i :: .ref q :: r => match cs[q]? with
      | some (.inl (4, n, .inr (.inr (.inr (.inr f))))) => vp_in i n ∧ K (pc + 1) lv (va_rf (f i.toNatClampNeg) :: r) cs
      | some (.inl (5, n, .inr (.inr (.inr (.inr f))))) => vp_in i n ∧ K (pc + 1) lv (va_rf (f i.toNatClampNeg) :: r) cs
      | _ => D
    | _ => D
  | .iastore => match st with
    | .int x :: .int i :: .ref q :: r => match cs[q]? with
      | some (.inl (0, n, .inl f)) => vp_in i n ∧ K (pc + 1) lv r (cs.set q (.inl (0, n, .inl (upd f i.toNatClampNeg x))))
      | _ => D
    | _ => D
  | .lastore => match st with
    | .long x :: .int i :: .ref q :: r => match cs[q]? with
      | some (.inl (1, n, .inr (.inl f))) => vp_in i n ∧ K (pc + 1) lv r (cs.set q (.inl (1, n, .inr (.inl (vp_updL f i.toNatClampNeg x)))))
      | _ => D
    | _ => D
  | .castore => match st with
    | .int x :: .int i :: .ref q :: r => match cs[q]? with
      | some (.inl (2, n, .inl f)) => vp_in i n ∧ K (pc + 1) lv r (cs.set q (.inl (2, n, .inl (upd f i.toNatClampNeg (vp_nar .char x)))))
      | _ => D
    | _ => D
  | .bastore => match st with
    | .int x :: .int i :: .ref q :: r => match cs[q]? with
      | some (.inl (3, n, .inl f)) => vp_in i n ∧ K (pc + 1) lv r (cs.set q (.inl (3, n, .inl (upd f i.toNatClampNeg (vp_nar .boolean x)))))
      | _ => D
    | _ => D
  | .arraylength => match st with
    | .ref q :: r => match cs[q]? with
      | some (.inl (t, x)) => match Nat.blt t 6 with | true => K (pc + 1) lv (.int (Int32.ofNat x.1) :: r) cs | false => D
      | _ => D
    | _ => D
  | .invokestatic _ => match b, a with
    | 1, 0 => match st with
      | .int y :: .int x :: r => match Nat.ble (zcsum r) 8 with | true => K (pc + 3) lv (.int (if x < y then y else x) :: r) cs | false => D
      | _ => D
    | 1, 1 => match st with
      | .int y :: .int x :: r => match Nat.ble (zcsum r) 8 with | true => K (pc + 3) lv (.int (if y < x then y else x) :: r) cs | false => D
      | _ => D
    | 1, 2 => match st with
      | .int n :: .int dp :: .ref q1 :: .int sp :: .ref q0 :: r => match Nat.ble (zcsum r) 8, cs[q0]?, cs[q1]? with
        | true, some (.inl (0, n0, .inl f)), some (.inl (0, n1, .inl g)) => zcpyOk sp dp n n0 n1 ∧ K (pc + 3) lv r (cs.set q1 (.inl (0, n1, .inl (va_cpy f g sp.toNatClampNeg dp.toNatClampNeg n.toNatClampNeg))))
        | true, some (.inl (1, n0, .inr (.inl f))), some (.inl (1, n1, .inr (.inl g))) => zcpyOk sp dp n n0 n1 ∧ K (pc + 3) lv r (cs.set q1 (.inl (1, n1, .inr (.inl (va_cpy f g sp.toNatClampNeg dp.toNatClampNeg n.toNatClampNeg)))))
        | _, _, _ => D
      | _ => D
    | _, _ => D
  | _ => D
def zget (l : List zIt) (pc : Nat) : Option zIt := match l with
  | [] => none
  | it :: r => match Nat.beq it.1 pc with | true => some it | false => zget r pc
def zmem (l : List Nat) (pc : Nat) : Bool := match l with
  | [] => false
  | q :: r => match Nat.beq q pc with | true => true | false => zmem r pc
def zrun (l : List zIt) (cuts : List Nat) (E : zK) (f : Nat) : zK := match f with
  | 0 => E
  | f + 1 => fun pc lv st cs => match zget l pc with
    | none => E pc lv st cs
    | some it => zstep it pc lv st cs (fun pc1 lv1 st1 cs1 => match zmem cuts pc1 with | true => E pc1 lv1 st1 cs1 | false => zrun l cuts E f pc1 lv1 st1 cs1) (E pc lv st cs)
/-- an entry of a listing is as the tables and the decoder say -/
def zofT (pc : Nat) (off : Int) (a : Nat) : Bool := decide ((pc : Int) + off = (a : Int))
def zvI (v : Value) (w : Int32) : Bool := match v with | .int x => decide (w = x) | _ => false
def zvL (v : Value) (w : Int64) : Bool := match v with | .long x => decide (w = x) | _ => false
def zfieldB (C : zCls) (i a b : Nat) : Bool := C.2.1.any (fun q => q.1 == i && q.2.1 == a && q.2.2.1 == b)
def zputB (a b c : Nat) : Bool := match c with
  | 0 => true
  | 1 => decide (zft a b = .int) && (match zcl[a]? with | some r => !(r.2.1 b).2.2.2 | none => false)
  | 2 => decide (zft a b = .boolean) && (match zcl[a]? with | some r => !(r.2.1 b).2.2.2 | none => false)
  | 3 => decide (zft a b = .long) && (match zcl[a]? with | some r => !(r.2.1 b).2.2.2 | none => false)
  | _ => false
def ztabB (pc : Nat) (dflt lo hi : Int) (offs : Array Int) (a : Nat) (sw : List (Int32 × Nat)) : Bool :=
  zofT pc dflt a && decide (lo ≤ hi) && sw.all (fun q => decide (lo ≤ q.1.toInt) && decide (q.1.toInt ≤ hi)) && (List.range (hi - lo + 1).toNat).all (fun j => match offs[j]? with | some o => zofT pc o (zswT (Int32.ofInt (lo + j)) a sw) | none => false) && decide (-2147483648 ≤ lo) && decide (hi ≤ 2147483647)
def zlookB (pc : Nat) (dflt : Int) (a : Nat) : List (Int × Int) → List (Int32 × Nat) → Bool
  | [], [] => zofT pc dflt a
  | p :: ps, q :: qs => decide (p.1 = q.1.toInt) && zofT pc p.2 q.2 && zlookB pc dflt a ps qs
  | _, _ => false
def zitB (C : zCls) (it : zIt) : Bool := match it with
  | (pc, op, len, v, a, b, c, sw) => match op with
    | .iconst n => len == 1 && zvI v (Int32.ofInt n)
    | .bipush n => len == 2 && zvI v (Int8.ofInt n).toInt32
    | .sipush n => len == 3 && zvI v (Int16.ofInt n).toInt32
    | .lconst n => len == 1 && zvL v (Int64.ofNat n.val)
    | .ldc i => len == 2 && (a != 1 || (C.2.2.1.any (fun q => q.1 == i && (match q.2.1 with | .int x => zvI v x | _ => false))))
    | .ldc_w i => len == 3 && (a != 1 || (C.2.2.1.any (fun q => q.1 == i && (match q.2.1 with | .int x => zvI v x | _ => false))))
    | .ldc2_w i => len == 3 && C.2.2.1.any (fun q => q.1 == i && (match q.2.1 with | .long x => zvL v x | _ => false))
    | .iload _ | .lload _ | .aload _ | .istore _ | .lstore _ | .astore _ => len == 2
    | .iinc _ n => len == 3 && zvI v (Int32.ofInt n)
    | .goto off | .if_icmp _ off | .ifCond _ off => len == 3 && zofT pc off a
    | .tableswitch d lo hi o => ztabB pc d lo hi o a sw
    | .lookupswitch d ps => zlookB pc d a ps.toList sw && (ps.toList.zip (ps.toList.drop 1)).all (fun (a, next) => a.1 < next.1)
    | .getfield i => len == 3 && (c != 0 || zfieldB C i a b)
    | .getstatic _ => len == 3
    | .putfield i => len == 3 && zfieldB C i a b && zputB a b c
    | .invokestatic i => len == 3 && (b != 1 || C.2.2.2.any (fun q => q.1 == i && q.2.1 == a))
    | .invokevirtual _ | .invokespecial _ | .new _ | .anewarray _ => len == 3
    | .newarray _ => len == 2
    | _ => len == 1
abbrev zMth : Type := MethodName × ByteArray × Nat × Option FieldType × List zIt × zCls
def zMdec (cc : ByteArray) (l : List zIt) : Bool := l.all (fun q => decide (decode cc q.1 = .ok (q.2.1, q.2.2.1)))
def zMok (M : zMth) : Prop := zMdec M.2.1 M.2.2.2.2.1 = true ∧ M.2.2.2.2.1.all (zitB M.2.2.2.2.2) = true ∧ zCok M.2.2.2.2.2 = true ∧ M.1.cls = M.2.2.2.2.2.1 ∧ Cond.code M.1 M.2.1 M.2.2.1 M.2.2.2.1 ∈ zTg ∧ plainName M.1.cls = true
theorem zget_mem {l : List zIt} {pc : Nat} {it : zIt} (h : zget l pc = some it) : it ∈ l ∧ it.1 = pc := by
  induction l with
  | nil => cases h
  | cons q r ih =>
    unfold zget at h
    split at h
    · next hq =>
      cases h
      exact ⟨List.mem_cons_self, Nat.eq_of_beq_eq_true hq⟩
    · exact ⟨List.mem_cons_of_mem _ (ih h).1, (ih h).2⟩
theorem zMok.dec {M : zMth} (h : zMok M) {it : zIt} (hi : it ∈ M.2.2.2.2.1) : decode M.2.1 it.1 = .ok (it.2.1, it.2.2.1) := of_decide_eq_true (List.all_eq_true.mp h.1 it hi)
theorem zMok.itB {M : zMth} (h : zMok M) {it : zIt} (hi : it ∈ M.2.2.2.2.1) : zitB M.2.2.2.2.2 it = true := List.all_eq_true.mp h.2.1 it hi
-- ===== the strings, the words of nest mates: what stands outside every world =====
def zS0 : List Int32 := [40, 41, 60, 61, 43, 45, 42, 59]
def zS1 : List Int32 := "person  skill   purse   debt    home    bar     sign    spends  mends   good    wish    hide    lot     swap    day     plain   miser   thief   mayor   not     and     or      money   owed    neat    able    trade   ".toList.map (fun c => Int32.ofNat c.toNat)
def zTx0 : String := "no such person, life or number of days"
def zTx1 : String := "no such deed"
def zTx2 : String := "no such care"
def zTx3 : String := "no such rest"
def zSIO : String := "Ljava/util/function/BiFunction;"
def zStr (adr : Nat → Nat) (A : Nat → Prop) (U : State) (H : Heap) : Prop :=
  vk_S 2 [8, 216] [zS0, zS1] (fun i => adr (1000000 + i)) (fun i => adr (1000010 + i)) A U H ∧ vk_R "BorrowedLives$Tape" 59 "()<=+-*;" (adr 1000000) U ∧ vk_R "BorrowedLives$Tape" 69 "person  skill   purse   debt    home    bar     sign    spends  mends   good    wish    hide    lot     swap    day     plain   miser   thief   mayor   not     and     or      money   owed    neat    able    trade   " (adr 1000001) U ∧
  va_Z "java/lang/String" "COMPACT_STRINGS" "Z" (.int 1) A U H ∧ (va_Z "jdk/internal/util/Preconditions" "SIOOBE_FORMATTER" zSIO .null A U H ∨ va_Z "jdk/internal/util/Preconditions" "SIOOBE_FORMATTER" zSIO (.ref (adr 1000020)) A U H) ∧
  (vk_R "BorrowedLives" 254 zTx0 (adr 1000030) U ∧ vk_R "BorrowedLives" 259 zTx1 (adr 1000031) U ∧ vk_R "BorrowedLives" 300 zTx2 (adr 1000032) U ∧ vk_R "BorrowedLives" 306 zTx3 (adr 1000033) U)
def zAm (adr : Nat → Nat) (A : Nat → Prop) (U : State) (H : Heap) : Prop := (∀ w ∈ zNw, va_Nw w U) ∧ zStr adr A U H
theorem zAm.moved {adr : Nat → Nat} {A B : Nat → Prop} {s U : State} {H H1 : Heap} (h : zAm adr A s H) (hW : s.WarmedH U.vm) (hq : ∀ a : Nat, a < H.size → ¬ A a → H1[a]? = H[a]?) (hAB : ∀ q, B q → A q) : zAm adr B U H1 := by
  obtain ⟨h0, h1, h2, h3, h4, h5, h6, h7, h8, h9⟩ := h
  refine ⟨fun w hw => zNst_warm (List.mem_filter.mp hw).2 hW (h0 w hw), ((h1.moved hW.alike).kept hq).narrow hAB, vk_R.warm hW h2, vk_R.warm hW h3, ((h4.moved hW.alike).kept hq).narrow hAB, ?_, vk_R.warm hW h6, vk_R.warm hW h7, vk_R.warm hW h8, vk_R.warm hW h9⟩
  rcases h5 with h5 | h5
  · exact Or.inl (((h5.moved hW.alike).kept hq).narrow hAB)
  · exact Or.inr (((h5.moved hW.alike).kept hq).narrow hAB)
theorem zAm.same {adr : Nat → Nat} {A : Nat → Prop} {s U : State} {H : Heap} (h : zAm adr A s H) (hv : s.vm = U.vm) : zAm adr A U H := by
  obtain ⟨h0, h1, h2, h3, h4, h5, h6, h7, h8, h9⟩ := h
  have ha : s.vm.Alike U.vm := by rw [hv]; exact Vm.Alike.refl _
  refine ⟨fun w hw => zNst_same (List.mem_filter.mp hw).2 hv (h0 w hw), h1.moved ha, vk_R.same hv.symm h2, vk_R.same hv.symm h3, h4.moved ha, ?_, vk_R.same hv.symm h6, vk_R.same hv.symm h7, vk_R.same hv.symm h8, vk_R.same hv.symm h9⟩
  rcases h5 with h5 | h5
  · exact Or.inl (h5.moved ha)
  · exact Or.inr (h5.moved ha)
theorem zAm.adr {adr adr' : Nat → Nat} {A : Nat → Prop} {s : State} {H : Heap} (h : zAm adr A s H) (ha : ∀ k, 1000000 ≤ k → adr' k = adr k) : zAm adr' A s H := by
  obtain ⟨h0, h1, h2, h3, h4, h5, h6, h7, h8, h9⟩ := h
  have e0 : (fun i => adr' (1000000 + i)) = (fun i => adr (1000000 + i)) := funext fun i => ha _ (by omega)
  have e1 : (fun i => adr' (1000010 + i)) = (fun i => adr (1000010 + i)) := funext fun i => ha _ (by omega)
  refine ⟨h0, ?_, ?_, ?_, h4, ?_, ?_, ?_, ?_, ?_⟩
  · rw [e0, e1]; exact h1
  · rw [ha _ (by decide)]; exact h2
  · rw [ha _ (by decide)]; exact h3
  · rw [ha _ (by decide)]; exact h5
  · rw [ha _ (by decide)]; exact h6
  · rw [ha _ (by decide)]; exact h7
  · rw [ha _ (by decide)]; exact h8
  · rw [ha _ (by decide)]; exact h9
-- ===== the walk =====
abbrev zCtx : Type := Launch × Program × Env × Room × State × MethodId × Array Value × List Frame × Method × Code × va_G × (Nat → ClassId) × (Nat → Nat) × (Nat → Prop) × (State → Prop)
def zty (dA : Nat → ClassId) : List (ClassId × FieldType) := zTy.mapIdx (fun k t => (dA k, t))
def AW (Z : zCtx) (k n : Nat) (pc : Nat) (lv : List (Option Value)) (st : List Value) (cs : List zE) : Prop := match Z with
  | (l, p, e, R, s, m, args, below, meth, c, D, dA, adr, A, Q) => ∀ (H : Heap) (locs : List Loc) (ls : Array Slot), va_P D zcl (zws dA adr cs) H → va_D A (zws dA adr cs) → va_S A s.heap H locs → zLv ls c.maxLocals adr lv → W p l e R s m args below meth c H locs k n Q (F0 m pc ls (st.map (zv adr)))
def zOk (Z : zCtx) (M : zMth) : Prop := match Z with
  | (_, p, _, R, s, m, args, _, meth, c, D, dA, adr, A, _) => p.tables.exec = Jvm.exec ∧ c.code = M.2.1 ∧ c.maxLocals = M.2.2.1 ∧ meth.sig.returnType = M.2.2.2.1 ∧ s.vm.findClass M.2.2.2.2.2.1 = some m.cls ∧ (∀ w ∈ zTg, w.before args s = true) ∧ meth.locks = false ∧ va_K D zcl (zty dA) s ∧ (∀ q : Nat, s.heap.size ≤ q → A q) ∧ zAm adr A s s.heap ∧ (1 ≤ R.frames ∧ 64 ≤ R.locals) ∧ zMok M ∧ meth.name = M.1.name
def zRoom (Z : zCtx) (k n : Nat) : Prop := match Z with
  | (_, _, _, R, _, _, _, _, _, _, _, _, _, _, _) => k ≤ R.cells ∧ n ≤ R.slots
