/-! a small machine over tables: values, memory by regions, one instruction, runs with fuel -/
abbrev AV : Type := Int32 ⊕ (Int64 ⊕ (Nat × Option Nat))
abbrev LV : Type := List (Option AV)
abbrev MM : Type := (Nat → Nat → Nat → Int32) × (Nat → Nat → Nat → Int64) × (Nat → Nat → Nat → Option Nat) × (Nat → Nat) × (Nat → Nat → Nat) × Nat × Nat
abbrev RS : Type := Option AV × MM
abbrev CF : Type := Nat × Nat × LV × List AV × MM
abbrev OC : Type := CF ⊕ (RS ⊕ (CF × (Nat × Nat × LV × List AV)))
def mI (m : MM) (r n k : Nat) : Int32 := m.1 r n k
def mL (m : MM) (r n k : Nat) : Int64 := m.2.1 r n k
def mR (m : MM) (r n k : Nat) : Option Nat := m.2.2.1 r n k
def mC (m : MM) (r : Nat) : Nat := m.2.2.2.1 r
def mN (m : MM) (r n : Nat) : Nat := m.2.2.2.2.1 r n
def mT (m : MM) : Nat := m.2.2.2.2.2.1
def mS (m : MM) : Nat := m.2.2.2.2.2.2
def sI (m : MM) (r n k : Nat) (v : Int32) : MM := (fun a b c => if a = r ∧ b = n ∧ c = k then v else m.1 a b c, m.2)
def sL (m : MM) (r n k : Nat) (v : Int64) : MM := (m.1, fun a b c => if a = r ∧ b = n ∧ c = k then v else m.2.1 a b c, m.2.2)
def sR (m : MM) (r n k : Nat) (v : Option Nat) : MM := (m.1, m.2.1, fun a b c => if a = r ∧ b = n ∧ c = k then v else m.2.2.1 a b c, m.2.2.2)
def al (m : MM) (r len sz : Nat) : MM :=
  (fun a b c => if a = r ∧ b = mC m r then 0 else mI m a b c, fun a b c => if a = r ∧ b = mC m r then 0 else mL m a b c, fun a b c => if a = r ∧ b = mC m r then none else mR m a b c,
   fun a => if a = r then mC m r + 1 else mC m a, fun a b => if a = r ∧ b = mC m r then len else mN m a b, mT m + 1, mS m + sz)
def xc (m : MM) (r n k : Nat) (e : Nat) : AV := match e with
  | 0 => .inl (mI m r n k)
  | 1 => .inl (mI m r n k)
  | 2 => .inl (mI m r n k)
  | 3 => .inr (.inl (mL m r n k))
  | t + 4 => .inr (.inr (t, mR m r n k))
def xg (m : MM) (r n k : Nat) : AV := xc m r n k (tk r k)
/-- may this value stand in a place of that sort -/
def fc (e : Nat) (v : AV) : Bool := match v with
  | .inl x => e == 0 || (e == 1 && (x == 0 || x == 1)) || (e == 2 && x.toInt8.toInt32 == x)
  | .inr (.inl _) => e == 3
  | .inr (.inr (t, o)) => o == none && 4 ≤ e || e == t + 4
def wr (m : MM) (r n k : Nat) (v : AV) : MM := match v with
  | .inl x => sI m r n k x
  | .inr (.inl x) => sL m r n k x
  | .inr (.inr (_, o)) => sR m r n k o
def lg : LV → Nat → Option AV
  | [], _ => none
  | o :: _, 0 => o
  | _ :: l, n + 1 => lg l n
def sg : LV → Nat → AV → LV
  | [], _, _ => []
  | _ :: l, 0, v => some v :: l
  | o :: l, n + 1, v => o :: sg l n v
/-- nothing of a long value stands at the place before -/
def lf (ls : LV) (k : Nat) : Bool := match lg ls (k - 1) with
  | some (.inr (.inl _)) => false
  | _ => true
def cat (v : AV) : Nat := match v with
  | .inr (.inl _) => 2
  | _ => 1
def cats (st : List AV) : Nat := match st with
  | [] => 0
  | v :: r => cat v + cats r
def ent : List AV → LV
  | [] => []
  | .inr (.inl x) :: l => some (.inr (.inl x)) :: none :: ent l
  | v :: l => some v :: ent l
def enl (n : Nat) (as : List AV) : LV := ent as ++ List.replicate (n - (ent as).length) none
def hc (q : Jvm.ClassFile.Cond) (x y : Int32) : Bool := match q with
  | .eq => decide (x = y)
  | .ne => decide (¬ x = y)
  | .lt => decide (x < y)
  | .ge => decide (y ≤ x)
  | .gt => decide (y < x)
  | .le => decide (x ≤ y)
def ra (x y : Nat × Option Nat) : Bool := match x.2, y.2 with
  | none, none => true
  | some a, some b => decide (x.1 = y.1 ∧ a = b)
  | _, _ => false
def jm (pc : Nat) (off : Int) : Option Nat := if 0 ≤ (pc : Int) + off then some ((pc : Int) + off).toNat else none
def ix (i : Int32) (n : Nat) : Option Nat := if ¬ (i < 0 ∨ n ≤ i.toNatClampNeg) then some i.toNatClampNeg else none
def onI (v : Option AV) (k : Int32 → Option OC) : Option OC := match v with
  | some (.inl x) => k x
  | _ => none
def onL (v : Option AV) (k : Int64 → Option OC) : Option OC := match v with
  | some (.inr (.inl x)) => k x
  | _ => none
def onR (v : Option AV) (k : Nat → Option Nat → Option OC) : Option OC := match v with
  | some (.inr (.inr q)) => k q.1 q.2
  | _ => none
def pop (st : List AV) (k : AV → List AV → Option OC) : Option OC := match st with
  | v :: r => k v r
  | [] => none
def pI (st : List AV) (k : Int32 → List AV → Option OC) : Option OC := match st with
  | .inl x :: r => k x r
  | _ => none
def pL (st : List AV) (k : Int64 → List AV → Option OC) : Option OC := match st with
  | .inr (.inl x) :: r => k x r
  | _ => none
def pR (st : List AV) (k : Nat → Option Nat → List AV → Option OC) : Option OC := match st with
  | .inr (.inr q) :: r => k q.1 q.2 r
  | _ => none
/-- a reference that is not null -/
def pA (st : List AV) (k : Nat → Nat → List AV → Option OC) : Option OC := match st with
  | .inr (.inr (t, some n)) :: r => k t n r
  | _ => none
def atc (a : ArrayType) : Nat := match a with
  | .int => 0
  | .boolean => 1
  | .byte => 2
  | .long => 3
  | _ => 99
/-- one instruction: the next place, or the answer, or a call -/
def xi (i : Instr) (y pc : Nat) (ls : LV) (st : List AV) (m : MM) : Option OC := match i with
  | .iconst k => some (.inl (y, pc + 1, ls, .inl (Int32.ofInt k) :: st, m))
  | .bipush k => some (.inl (y, pc + 2, ls, .inl (Int8.ofInt k).toInt32 :: st, m))
  | .sipush k => some (.inl (y, pc + 3, ls, .inl (Int16.ofInt k).toInt32 :: st, m))
  | .lconst k => some (.inl (y, pc + 1, ls, .inr (.inl (Int64.ofNat (k : Nat))) :: st, m))
  | .ldc k => (lk ciL (mt y).2.2.1 k).bind fun v => some (.inl (y, pc + 2, ls, .inl v :: st, m))
  | .ldc2_w k => (lk c2L (mt y).2.2.1 k).bind fun v => some (.inl (y, pc + 3, ls, .inr (.inl v) :: st, m))
  | .aconst_null => some (.inl (y, pc + 1, ls, .inr (.inr (0, none)) :: st, m))
  | .iload k => onI (lg ls k) fun x => some (.inl (y, pc + 2, ls, .inl x :: st, m))
  | .iload_n k => onI (lg ls k) fun x => some (.inl (y, pc + 1, ls, .inl x :: st, m))
  | .lload k => onL (lg ls k) fun x => some (.inl (y, pc + 2, ls, .inr (.inl x) :: st, m))
  | .lload_n k => onL (lg ls k) fun x => some (.inl (y, pc + 1, ls, .inr (.inl x) :: st, m))
  | .aload k => onR (lg ls k) fun t o => some (.inl (y, pc + 2, ls, .inr (.inr (t, o)) :: st, m))
  | .aload_n k => onR (lg ls k) fun t o => some (.inl (y, pc + 1, ls, .inr (.inr (t, o)) :: st, m))
  | .istore k => pI st fun x r => if lf ls k && decide (k < (mt y).2.2.2.1) then some (.inl (y, pc + 2, sg ls k (.inl x), r, m)) else none
  | .istore_n k => pI st fun x r => if lf ls k && decide ((k : Nat) < (mt y).2.2.2.1) then some (.inl (y, pc + 1, sg ls k (.inl x), r, m)) else none
  | .astore k => pR st fun t o r => if lf ls k && decide (k < (mt y).2.2.2.1) then some (.inl (y, pc + 2, sg ls k (.inr (.inr (t, o))), r, m)) else none
  | .astore_n k => pR st fun t o r => if lf ls k && decide ((k : Nat) < (mt y).2.2.2.1) then some (.inl (y, pc + 1, sg ls k (.inr (.inr (t, o))), r, m)) else none
  | .iinc k n => onI (lg ls k) fun x => if lf ls k && decide (k < (mt y).2.2.2.1) then some (.inl (y, pc + 3, sg ls k (.inl (x + Int32.ofInt n)), st, m)) else none
  | .iadd => pI st fun b r => pI r fun a r => some (.inl (y, pc + 1, ls, .inl (a + b) :: r, m))
  | .isub => pI st fun b r => pI r fun a r => some (.inl (y, pc + 1, ls, .inl (a - b) :: r, m))
  | .imul => pI st fun b r => pI r fun a r => some (.inl (y, pc + 1, ls, .inl (a * b) :: r, m))
  | .iand => pI st fun b r => pI r fun a r => some (.inl (y, pc + 1, ls, .inl (a &&& b) :: r, m))
  | .ixor => pI st fun b r => pI r fun a r => some (.inl (y, pc + 1, ls, .inl (a ^^^ b) :: r, m))
  | .ishl => pI st fun b r => pI r fun a r => some (.inl (y, pc + 1, ls, .inl (a <<< (b &&& 31)) :: r, m))
  | .ishr => pI st fun b r => pI r fun a r => some (.inl (y, pc + 1, ls, .inl (a >>> (b &&& 31)) :: r, m))
  | .i2l => pI st fun a r => some (.inl (y, pc + 1, ls, .inr (.inl a.toInt64) :: r, m))
  | .i2b => pI st fun a r => some (.inl (y, pc + 1, ls, .inl a.toInt8.toInt32 :: r, m))
  | .lcmp => pL st fun b r => pL r fun a r => some (.inl (y, pc + 1, ls, .inl (lg_cmp a b) :: r, m))
  | .land => pL st fun b r => pL r fun a r => some (.inl (y, pc + 1, ls, .inr (.inl (a &&& b)) :: r, m))
  | .lor => pL st fun b r => pL r fun a r => some (.inl (y, pc + 1, ls, .inr (.inl (a ||| b)) :: r, m))
  | .lshl => pI st fun b r => pL r fun a r => some (.inl (y, pc + 1, ls, .inr (.inl (a <<< (b.toInt64 &&& 63))) :: r, m))
  | .dup => pop st fun v r => if cat v = 1 then some (.inl (y, pc + 1, ls, v :: v :: r, m)) else none
  | .dup2 => pop st fun v r => pop r fun w r => if cat v = 1 ∧ cat w = 1 then some (.inl (y, pc + 1, ls, v :: w :: v :: w :: r, m)) else none
  | .pop => pop st fun v r => if cat v = 1 then some (.inl (y, pc + 1, ls, r, m)) else none
  | .goto off => (jm pc off).bind fun t => some (.inl (y, t, ls, st, m))
  | .if_icmp q off => pI st fun b r => pI r fun a r => (jm pc off).bind fun t => some (.inl (y, if hc q a b then t else pc + 3, ls, r, m))
  | .ifCond q off => pI st fun a r => (jm pc off).bind fun t => some (.inl (y, if hc q a 0 then t else pc + 3, ls, r, m))
  | .ifnull off => pR st fun _ o r => (jm pc off).bind fun t => some (.inl (y, if o.isNone then t else pc + 3, ls, r, m))
  | .ifnonnull off => pR st fun _ o r => (jm pc off).bind fun t => some (.inl (y, if o.isNone then pc + 3 else t, ls, r, m))
  | .if_acmp q off => pR st fun t2 o2 r => pR r fun t1 o1 r => (jm pc off).bind fun t => match q with
      | .eq => some (.inl (y, if ra (t1, o1) (t2, o2) then t else pc + 3, ls, r, m))
      | .ne => some (.inl (y, if ra (t1, o1) (t2, o2) then pc + 3 else t, ls, r, m))
  | .tableswitch d lo hi offs => pI st fun a r => (jm pc (if a.toInt < lo ∨ hi < a.toInt then d else offs.getD (a.toInt - lo).toNat 0)).bind fun t =>
      if a.toInt < lo ∨ hi < a.toInt ∨ (a.toInt - lo).toNat < offs.size then some (.inl (y, t, ls, r, m)) else none
  | .getfield k => pA st fun t n r => (lk fdL (mt y).2.2.1 k).bind fun q => if q.1 = t then some (.inl (y, pc + 3, ls, xg m t n q.2 :: r, m)) else none
  | .putfield k => pop st fun v r => pA r fun t n r => (lk fdL (mt y).2.2.1 k).bind fun q =>
      if q.1 = t ∧ fc (tk t q.2) v = true ∧ ((TT (t - 1) q.2).2.2.2 = false ∨ ((mt y).1.name = "<init>" ∧ (mt y).2.2.1 = t - 1)) then some (.inl (y, pc + 3, ls, r, wr m t n q.2 v)) else none
  | .arraylength => pA st fun t n r => if (ek t).isSome then some (.inl (y, pc + 1, ls, .inl (Int32.ofNat (mN m t n)) :: r, m)) else none
  | .iaload => pI st fun i r => pA r fun t n r => (ix i (mN m t n)).bind fun j => if ek t = some 0 then some (.inl (y, pc + 1, ls, .inl (mI m t n j) :: r, m)) else none
  | .baload => pI st fun i r => pA r fun t n r => (ix i (mN m t n)).bind fun j => if ek t = some 1 ∨ ek t = some 2 then some (.inl (y, pc + 1, ls, .inl (mI m t n j) :: r, m)) else none
  | .laload => pI st fun i r => pA r fun t n r => (ix i (mN m t n)).bind fun j => if ek t = some 3 then some (.inl (y, pc + 1, ls, .inr (.inl (mL m t n j)) :: r, m)) else none
  | .aaload => pI st fun i r => pA r fun t n r => (ix i (mN m t n)).bind fun j => match ek t with
      | some (u + 4) => some (.inl (y, pc + 1, ls, .inr (.inr (u, mR m t n j)) :: r, m))
      | _ => none
  | .iastore => pI st fun x r => pI r fun i r => pA r fun t n r => (ix i (mN m t n)).bind fun j => if ek t = some 0 ∧ t ≠ 0 then some (.inl (y, pc + 1, ls, r, sI m t n j x)) else none
  | .bastore => pI st fun x r => pI r fun i r => pA r fun t n r => (ix i (mN m t n)).bind fun j => if (ek t = some 1 ∧ (x = 0 ∨ x = 1)) ∨ (ek t = some 2 ∧ x.toInt8.toInt32 = x) then some (.inl (y, pc + 1, ls, r, sI m t n j x)) else none
  | .lastore => pL st fun x r => pI r fun i r => pA r fun t n r => (ix i (mN m t n)).bind fun j => if ek t = some 3 then some (.inl (y, pc + 1, ls, r, sL m t n j x)) else none
  | .aastore => pR st fun u o r => pI r fun i r => pA r fun t n r => (ix i (mN m t n)).bind fun j => if ek t = some (u + 4) ∨ (o = none ∧ 4 ≤ (ek t).getD 0) then some (.inl (y, pc + 1, ls, r, sR m t n j o)) else none
  | .new k => (lk nwL (mt y).2.2.1 k).bind fun t => some (.inl (y, pc + 3, ls, .inr (.inr (t, some (mC m t))) :: st, al m t 0 (NN (t - 1))))
  | .newarray a => pI st fun x r => (lk naL y pc).bind fun t => if ek t = some (atc a) ∧ atc a < 4 ∧ ¬ x < 0 ∧ x.toNatClampNeg ≤ 10000 then some (.inl (y, pc + 2, ls, .inr (.inr (t, some (mC m t))) :: r, al m t x.toNatClampNeg x.toNatClampNeg)) else none
  | .anewarray k => pI st fun x r => (lk naL y pc).bind fun t => (lk nwL (mt y).2.2.1 k).bind fun u => if ek t = some (u + 4) ∧ ¬ x < 0 ∧ x.toNatClampNeg ≤ 10000 then some (.inl (y, pc + 3, ls, .inr (.inr (t, some (mC m t))) :: r, al m t x.toNatClampNeg x.toNatClampNeg)) else none
  | .invokevirtual k => (lk clL (mt y).2.2.1 k).bind fun q => if q.2 ≤ st.length then pA (st.drop q.2) fun t n r =>
      if t = (mt q.1).2.2.1 + 1 ∧ t ≤ 8 ∧ 1 ≤ t ∧ kd q.1 = 0 ∧ (ent (.inr (.inr (t, some n)) :: (st.take q.2).reverse)).length ≤ (mt q.1).2.2.2.1 ∧ cats r ≤ 8 ∧ (mt q.1).2.2.2.2.2.1 + 1 ≤ (mt y).2.2.2.2.2.1 ∧ 8 + ((mt q.1).2.2.2.1 + 11) + (mt q.1).2.2.2.2.2.2 ≤ (mt y).2.2.2.2.2.2 then
        some (.inr (.inr ((q.1, 0, enl (mt q.1).2.2.2.1 (.inr (.inr (t, some n)) :: (st.take q.2).reverse), [], m), (y, pc + 3, ls, r)))) else none else none
  | .invokestatic k => (lk clL (mt y).2.2.1 k).bind fun q => if q.1 = iMax ∨ q.1 = iMin then pI st fun b r => pI r fun a r =>
        if cats r ≤ 8 ∧ 1 ≤ (mt y).2.2.2.2.2.1 ∧ 21 ≤ (mt y).2.2.2.2.2.2 then some (.inl (y, pc + 3, ls, .inl (if q.1 = iMax then (if a < b then b else a) else (if b < a then b else a)) :: r, m)) else none
      else if q.2 ≤ st.length then
      if kd q.1 = 1 ∧ (ent (st.take q.2).reverse).length ≤ (mt q.1).2.2.2.1 ∧ cats (st.drop q.2) ≤ 8 ∧ (mt q.1).2.2.2.2.2.1 + 1 ≤ (mt y).2.2.2.2.2.1 ∧ 8 + ((mt q.1).2.2.2.1 + 11) + (mt q.1).2.2.2.2.2.2 ≤ (mt y).2.2.2.2.2.2 then
        some (.inr (.inr ((q.1, 0, enl (mt q.1).2.2.2.1 (st.take q.2).reverse, [], m), (y, pc + 3, ls, st.drop q.2)))) else none else none
  | .invokespecial k => match lk clL (mt y).2.2.1 k with
      | some q => if q.1 = 9999 then pA st fun _ _ r => if cats r ≤ 8 ∧ 1 ≤ (mt y).2.2.2.2.2.1 ∧ 20 ≤ (mt y).2.2.2.2.2.2 then some (.inl (y, pc + 3, ls, r, m)) else none
          else if q.2 ≤ st.length then pA (st.drop q.2) fun t n r =>
            if kd q.1 = 2 ∧ (ent (.inr (.inr (t, some n)) :: (st.take q.2).reverse)).length ≤ (mt q.1).2.2.2.1 ∧ cats r ≤ 8 ∧ (mt q.1).2.2.2.2.2.1 + 1 ≤ (mt y).2.2.2.2.2.1 ∧ 8 + ((mt q.1).2.2.2.1 + 11) + (mt q.1).2.2.2.2.2.2 ≤ (mt y).2.2.2.2.2.2 then
              some (.inr (.inr ((q.1, 0, enl (mt q.1).2.2.2.1 (.inr (.inr (t, some n)) :: (st.take q.2).reverse), [], m), (y, pc + 3, ls, r)))) else none else none
      | none => (lk csL (mt y).2.2.1 k).bind fun q => if q.2 ≤ st.length then pA (st.drop q.2) fun t n r =>
            if kd q.1 = 2 ∧ (ent (.inr (.inr (t, some n)) :: (st.take q.2).reverse)).length ≤ (mt q.1).2.2.2.1 ∧ cats r ≤ 8 ∧ (mt q.1).2.2.2.2.2.1 + 1 ≤ (mt y).2.2.2.2.2.1 ∧ 8 + ((mt q.1).2.2.2.1 + 11) + (mt q.1).2.2.2.2.2.2 ≤ (mt y).2.2.2.2.2.2 then
              some (.inr (.inr ((q.1, 0, enl (mt q.1).2.2.2.1 (.inr (.inr (t, some n)) :: (st.take q.2).reverse), [], m), (y, pc + 3, ls, r)))) else none else none
  | .ireturn => pI st fun x r => if r = [] ∧ ((mt y).2.2.2.2.1 = some .int ∨ ((mt y).2.2.2.2.1 = some .boolean ∧ (x = 0 ∨ x = 1))) then some (.inr (.inl (some (.inl x), m))) else none
  | .lreturn => pL st fun x r => if r = [] ∧ (mt y).2.2.2.2.1 = some .long then some (.inr (.inl (some (.inr (.inl x)), m))) else none
  | .areturn => pR st fun t o r => if r = [] ∧ (match (mt y).2.2.2.2.1 with | some (.object _) => true | _ => false) = true then some (.inr (.inl (some (.inr (.inr (t, o))), m))) else none
  | .return_ => if st = [] ∧ (mt y).2.2.2.2.1 = none then some (.inr (.inl (none, m))) else none
  | _ => none
def il (i : Instr) : Nat := match i with
  | .bipush _ => 2
  | .sipush _ => 3
  | .ldc _ => 2
  | .ldc2_w _ => 3
  | .iload _ => 2
  | .lload _ => 2
  | .aload _ => 2
  | .istore _ => 2
  | .astore _ => 2
  | .iinc _ _ => 3
  | .goto _ => 3
  | .if_icmp _ _ => 3
  | .ifCond _ _ => 3
  | .ifnull _ => 3
  | .ifnonnull _ => 3
  | .if_acmp _ _ => 3
  | .getfield _ => 3
  | .putfield _ => 3
  | .new _ => 3
  | .newarray _ => 2
  | .anewarray _ => 3
  | .invokevirtual _ => 3
  | .invokestatic _ => 3
  | .invokespecial _ => 3
  | .tableswitch _ _ _ _ => 0
  | _ => 1
def ps (c : CF) : Option OC := match decode (mt c.1).2.1 c.2.1 with
  | .ok (i, n) => if n = il i ∨ il i = 0 then xi i c.1 c.2.1 c.2.2.1 c.2.2.2.1 c.2.2.2.2 else none
  | .error _ => none
def bk (k : Nat × Nat × LV × List AV) (q : RS) : CF := (k.1, k.2.1, k.2.2.1, q.1.toList ++ k.2.2.2, q.2)
def fi (K : CF → Option RS) (o : Option OC) : Option RS := match o with
  | none => none
  | some (.inl c) => K c
  | some (.inr (.inl r)) => some r
  | some (.inr (.inr q)) => (K q.1).bind fun r => K (bk q.2 r)
def ex : Nat → CF → Option RS
  | 0, _ => none
  | f + 1, c => fi (ex f) (ps c)
theorem fi_mono {K K' : CF → Option RS} (h : ∀ c r, K c = some r → K' c = some r) (o : Option OC) (r : RS) (hr : fi K o = some r) : fi K' o = some r := by
  rcases o with _ | c | q | q
  · exact hr
  · exact h c r hr
  · exact hr
  · simp only [fi] at hr ⊢
    cases hq : K q.1 with
    | none => rw [hq] at hr; cases hr
    | some v =>
      rw [hq] at hr
      rw [h _ _ hq]
      exact h _ _ hr
theorem ex_succ : ∀ (f : Nat) (c : CF) (r : RS), ex f c = some r → ex (f + 1) c = some r
  | 0, _, _, h => by cases h
  | f + 1, c, r, h => fi_mono (ex_succ f) (ps c) r h
theorem ex_mono {f g : Nat} (h : f ≤ g) {c : CF} {r : RS} (hr : ex f c = some r) : ex g c = some r := by
  induction h with
  | refl => exact hr
  | step _ ih => exact ex_succ _ _ _ ih
theorem ex_det {f g : Nat} {c : CF} {r r' : RS} (h : ex f c = some r) (h' : ex g c = some r') : r = r' := by
  have h1 := ex_mono (Nat.le_max_left f g) h
  have h2 := ex_mono (Nat.le_max_right f g) h'
  exact Option.some.inj (h1.symm.trans h2)
/-- the answer of a run, with whatever fuel it takes -/
noncomputable def gc (c : CF) : Option RS := Classical.epsilon fun o => match o with
  | some r => ∃ f, ex f c = some r
  | none => ¬ ∃ f r, ex f c = some r
theorem gc_some {f : Nat} {c : CF} {r : RS} (h : ex f c = some r) : gc c = some r := by
  have hs : ∃ o : Option RS, (match o with | some r => ∃ f, ex f c = some r | none => ¬ ∃ f r, ex f c = some r) := ⟨some r, f, h⟩
  have h1 := Classical.epsilon_spec hs
  unfold gc
  revert h1
  generalize (Classical.epsilon fun o : Option RS => match o with | some r => ∃ f, ex f c = some r | none => ¬ ∃ f r, ex f c = some r) = o
  intro h1
  cases o with
  | none => exact absurd ⟨f, r, h⟩ h1
  | some r' =>
    obtain ⟨g, hg⟩ := h1
    rw [ex_det h hg]
theorem gc_inv {c : CF} {r : RS} (h : gc c = some r) : ∃ f, ex f c = some r := by
  by_cases hs : ∃ f r, ex f c = some r
  · obtain ⟨f, r', hf⟩ := hs
    rw [gc_some hf] at h
    cases h
    exact ⟨f, hf⟩
  · exfalso
    have hs' : ∃ o : Option RS, (match o with | some r => ∃ f, ex f c = some r | none => ¬ ∃ f r, ex f c = some r) := ⟨none, hs⟩
    have h1 := Classical.epsilon_spec hs'
    unfold gc at h
    rw [h] at h1
    obtain ⟨f, hf⟩ := h1
    exact hs ⟨f, r, hf⟩
theorem gc_none {c : CF} (h : ∀ f r, ¬ ex f c = some r) : gc c = none := by
  cases hq : gc c with
  | none => rfl
  | some r =>
    obtain ⟨f, hf⟩ := gc_inv hq
    exact absurd hf (h f r)
theorem gc_eq (c : CF) : gc c = fi gc (ps c) := by
  cases hp : ps c with
  | none =>
    refine gc_none fun f r h => ?_
    cases f with
    | zero => cases h
    | succ f => rw [ex, hp] at h; cases h
  | some o =>
    rcases o with c' | r | q
    · show gc c = gc c'
      cases hq : gc c' with
      | none =>
        refine gc_none fun f r h => ?_
        cases f with
        | zero => cases h
        | succ f =>
          rw [ex, hp] at h
          rw [gc_some (c := c') h] at hq
          cases hq
      | some r =>
        obtain ⟨f, hf⟩ := gc_inv hq
        exact gc_some (f := f + 1) (by rw [ex, hp]; exact hf)
    · exact gc_some (f := 1) (by rw [ex, hp]; rfl)
    · show gc c = (gc q.1).bind fun r => gc (bk q.2 r)
      cases hq : gc q.1 with
      | none =>
        refine gc_none fun f r h => ?_
        cases f with
        | zero => cases h
        | succ f =>
          rw [ex, hp] at h
          simp only [fi] at h
          cases h1 : ex f q.1 with
          | none => rw [h1] at h; cases h
          | some v => rw [gc_some h1] at hq; cases hq
      | some v =>
        show gc c = gc (bk q.2 v)
        obtain ⟨f, hf⟩ := gc_inv hq
        cases hb : gc (bk q.2 v) with
        | none =>
          refine gc_none fun g r h => ?_
          cases g with
          | zero => cases h
          | succ g =>
            rw [ex, hp] at h
            simp only [fi] at h
            cases h1 : ex g q.1 with
            | none => rw [h1] at h; cases h
            | some v' =>
              rw [h1] at h
              rw [ex_det hf h1] at hb
              rw [gc_some (c := bk q.2 v') h] at hb
              cases hb
        | some r =>
          obtain ⟨g, hg⟩ := gc_inv hb
          refine gc_some (f := max f g + 1) ?_
          rw [ex, hp]
          simp only [fi]
          rw [ex_mono (Nat.le_max_left f g) hf]
          exact ex_mono (Nat.le_max_right f g) hg
noncomputable def go (y pc : Nat) (ls : LV) (st : List AV) (m : MM) : Option RS := gc (y, pc, ls, st, m)
theorem go_eq {y pc n : Nat} {i : Instr} (hd : decode (mt y).2.1 pc = .ok (i, n)) (hn : n = il i ∨ il i = 0) (ls : LV) (st : List AV) (m : MM) : go y pc ls st m = fi gc (xi i y pc ls st m) := by
  unfold go
  rw [gc_eq]
  unfold ps
  simp only [hd]
  rw [if_pos hn]
