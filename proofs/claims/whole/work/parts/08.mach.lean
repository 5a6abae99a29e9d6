/-! THE SMALL MACHINE: a step function over ints, longs and references into a heap of fixed shape -/
abbrev AV : Type := Int32 ⊕ (Int64 ⊕ (Nat × Nat))
abbrev vI (x : Int32) : AV := Sum.inl x
abbrev vL (x : Int64) : AV := Sum.inr (Sum.inl x)
abbrev vR (g j : Nat) : AV := Sum.inr (Sum.inr (g, j))
abbrev HP : Type := Nat → Nat → Nat → Int32
def hrow (h : HP) (g j : Nat) (f : Nat → Int32) : HP := fun a b => if a = g ∧ b = j then f else h a b
def hset (h : HP) (g j k : Nat) (x : Int32) : HP := hrow h g j (upd (h g j) k x)
def isL : AV → Bool
  | .inr (.inl _) => true
  | _ => false
def lst (lv : List (Nat × AV)) (i : Nat) (x : AV) : List (Nat × AV) := (i, x) :: lv.filter (fun q => !(q.1 == i) && !(q.1 + 1 == i && isL q.2))
def lk {α : Type} : List (Nat × α) → Nat → Option α
  | [], _ => none
  | q :: r, i => cond (Nat.beq q.1 i) (some q.2) (lk r i)
def ent : Nat → List AV → List (Nat × AV)
  | _, [] => []
  | i, v :: vs => (i, v) :: ent (cond (isL v) (i + 2) (i + 1)) vs
/-- object cells: their class and number of fields -/
def oC : Nat → Option (Nat × Nat)
  | 0 => some (0, 12)
  | 9 => some (4, 6)
  | 10 => some (1, 4)
  | 13 => some (2, 3)
  | 15 => some (3, 5)
  | 20 => some (5, 12)
  | _ => none
/-- arrays of numbers: 0 int, 1 char, 2 boolean; their length -/
def aC : Nat → Option (Nat × Nat)
  | 1 => some (0, 8)
  | 2 => some (0, 5)
  | 3 => some (0, 6)
  | 4 => some (0, 6)
  | 5 => some (0, 40)
  | 6 => some (0, 40)
  | 7 => some (0, 8)
  | 8 => some (0, 8)
  | 11 => some (1, 300)
  | 12 => some (0, 4)
  | 16 => some (0, 64)
  | 17 => some (2, 64)
  | 18 => some (0, 2048)
  | 19 => some (0, 2048)
  | 21 => some (0, 125)
  | 22 => some (0, 125)
  | 23 => some (0, 625)
  | 24 => some (0, 300)
  | 25 => some (0, 2048)
  | 26 => some (0, 2048)
  | 27 => some (0, 64)
  | 28 => some (0, 8)
  | _ => none
/-- the fields that are references -/
def tg (g : Nat) : Nat → Nat → Option (Nat × Nat)
  | 0, 4 => some (g, 1)
  | 0, 5 => some (g, 2)
  | 0, 6 => some (g, 3)
  | 0, 7 => some (g, 4)
  | 0, 8 => some (g, 5)
  | 0, 9 => some (g, 6)
  | 0, 10 => some (g, 7)
  | 0, 11 => some (g, 8)
  | 9, 0 => some (7, 10)
  | 9, 1 => some (0, 0)
  | 9, 2 => some (1, 0)
  | 9, 3 => some (7, 13)
  | 9, 4 => some (7, 15)
  | 10, 0 => some (7, 11)
  | 10, 2 => some (7, 12)
  | 13, 0 => some (7, 14)
  | 15, 1 => some (7, 16)
  | 15, 2 => some (7, 17)
  | 15, 3 => some (7, 18)
  | 15, 4 => some (7, 19)
  | 20, 0 => some (8, 21)
  | 20, 1 => some (8, 22)
  | 20, 2 => some (8, 23)
  | 20, 4 => some (8, 24)
  | 20, 8 => some (8, 25)
  | 20, 9 => some (8, 26)
  | 20, 10 => some (8, 27)
  | 20, 11 => some (8, 28)
  | _, _ => none
def fA (h : HP) (g j k : Nat) : AV := match tg g j k with
  | some q => vR q.1 q.2
  | none => vI (h g j k)
def inb (i : Int32) (n : Nat) : Bool := !(decide (i < 0) || decide (n ≤ i.toNatClampNeg))
abbrev mN (M : MR) : MethodName := M.1
abbrev mC (M : MR) : ByteArray := M.2.1
abbrev mL (M : MR) : Nat := M.2.2.1
abbrev mR (M : MR) : Option FieldType := M.2.2.2.1
abbrev mK (M : MR) : Nat := M.2.2.2.2.1
abbrev mA (M : MR) : Nat := M.2.2.2.2.2.1
abbrev mS (M : MR) : Bool := M.2.2.2.2.2.2.1
abbrev mI (M : MR) : List (Nat × Instr × Nat) := M.2.2.2.2.2.2.2
abbrev CF : Type := Nat × List (Nat × AV) × List AV × HP
/-- what a step gives: the next place, an answer, or a call (callee, arguments, rest of the stack) -/
abbrev SR : Type := CF ⊕ ((Option AV × HP) ⊕ (MR × List AV × List AV))
def tgo (pc : Nat) (off : Int) : Option Nat := match (pc : Int) + off with
  | .ofNat t => some t
  | _ => none
def nx (pc : Nat) (lv : List (Nat × AV)) (st : List AV) (h : HP) : Option SR := some (.inl (pc, lv, st, h))
def jmp (c : Bool) (pc : Nat) (off : Int) (lv : List (Nat × AV)) (st : List AV) (h : HP) : Option SR := match tgo pc off with
  | some t => some (.inl (cond c t (pc + 3), lv, st, h))
  | none => none
def ldI (lv : List (Nat × AV)) (k : Nat) (pc : Nat) (st : List AV) (h : HP) : Option SR := match lk lv k with
  | some (.inl x) => nx pc lv (vI x :: st) h
  | _ => none
def ldL (lv : List (Nat × AV)) (k : Nat) (pc : Nat) (st : List AV) (h : HP) : Option SR := match lk lv k with
  | some (.inr (.inl x)) => nx pc lv (vL x :: st) h
  | _ => none
def ldR (lv : List (Nat × AV)) (k : Nat) (pc : Nat) (st : List AV) (h : HP) : Option SR := match lk lv k with
  | some (.inr (.inr q)) => nx pc lv (vR q.1 q.2 :: st) h
  | _ => none
def stI (M : MR) (lv : List (Nat × AV)) (k : Nat) (pc : Nat) (st : List AV) (h : HP) : Option SR := match st with
  | .inl x :: r => cond (Nat.blt k (mL M)) (nx pc (lst lv k (vI x)) r h) none
  | _ => none
def stR (M : MR) (lv : List (Nat × AV)) (k : Nat) (pc : Nat) (st : List AV) (h : HP) : Option SR := match st with
  | .inr (.inr q) :: r => cond (Nat.blt k (mL M)) (nx pc (lst lv k (vR q.1 q.2)) r h) none
  | _ => none
def o2 (f : Int32 → Int32 → Int32) (pc : Nat) (lv : List (Nat × AV)) (st : List AV) (h : HP) : Option SR := match st with
  | .inl y :: .inl x :: r => nx (pc + 1) lv (vI (f x y) :: r) h
  | _ => none
def o1 (f : Int32 → AV) (pc : Nat) (lv : List (Nat × AV)) (st : List AV) (h : HP) : Option SR := match st with
  | .inl x :: r => nx (pc + 1) lv (f x :: r) h
  | _ => none
def aLd (t : Nat) (pc : Nat) (lv : List (Nat × AV)) (st : List AV) (h : HP) : Option SR := match st with
  | .inl i :: .inr (.inr (g, j)) :: r => match aC j with
    | some (t', n) => cond (Nat.beq t t' && inb i n) (nx (pc + 1) lv (vI (h g j i.toNatClampNeg) :: r) h) none
    | none => none
  | _ => none
def aSt (t : Nat) (f : Int32 → Int32) (pc : Nat) (lv : List (Nat × AV)) (st : List AV) (h : HP) : Option SR := match st with
  | .inl x :: .inl i :: .inr (.inr (g, j)) :: r => match aC j with
    | some (t', n) => cond (Nat.beq t t' && inb i n) (nx (pc + 1) lv r (hset h g j i.toNatClampNeg (f x))) none
    | none => none
  | _ => none
def if0 (c : ClassFile.Cond) (x : Int32) : Bool := match c with
  | .eq => decide (x = 0)
  | .ne => decide (¬ x = 0)
  | .lt => decide (x < 0)
  | .ge => decide (0 ≤ x)
  | .gt => decide (0 < x)
  | .le => decide (x ≤ 0)
def if2 (c : ClassFile.Cond) (x y : Int32) : Bool := match c with
  | .eq => decide (x = y)
  | .ne => decide (¬ x = y)
  | .lt => decide (x < y)
  | .ge => decide (y ≤ x)
  | .gt => decide (y < x)
  | .le => decide (x ≤ y)
def opt {α β : Type} (o : Option α) (f : α → Option β) : Option β := match o with
  | some a => f a
  | none => none
def getF (M : MR) (idx pc : Nat) (lv : List (Nat × AV)) (st : List AV) (h : HP) : Option SR := match st with
  | .inr (.inr (g, j)) :: r => opt (lk (fldT (mK M)) idx) fun f => opt (oC j) fun o =>
      cond (Nat.beq f.1 o.1 && Nat.blt f.2.1 o.2) (nx (pc + 3) lv (fA h g j f.2.1 :: r) h) none
  | _ => none
def isZ (j k : Nat) : Bool := Nat.beq j 9 && Nat.beq k 5
def zero1 (x : Int32) : Bool := x == 0 || x == 1
def putF (M : MR) (idx pc : Nat) (lv : List (Nat × AV)) (st : List AV) (h : HP) : Option SR := match st with
  | .inl x :: .inr (.inr (g, j)) :: r => opt (lk (fldT (mK M)) idx) fun f => opt (oC j) fun o =>
      cond (Nat.beq f.1 o.1 && Nat.blt f.2.1 o.2 && (tg g j f.2.1).isNone && (!(isZ j f.2.1) || zero1 x)) (nx (pc + 3) lv r (hset h g j f.2.1 x)) none
  | _ => none
def acp (d pc : Nat) (lv : List (Nat × AV)) (st : List AV) (h : HP) : Option SR := match st with
  | [.inl n, .inl dp, .inr (.inr (g1, j1)), .inl sp, .inr (.inr (g0, j0))] => opt (aC j0) fun a0 => opt (aC j1) fun a1 =>
      cond (Nat.blt 0 d && Nat.beq a0.1 0 && Nat.beq a1.1 0 && (sp == 0) && (dp == 0) && !(decide (n < 0)) && Nat.ble n.toNatClampNeg a0.2 && Nat.ble n.toNatClampNeg a1.2)
        (nx (pc + 3) lv [] (hrow h g1 j1 (va_cpy (h g0 j0) (h g1 j1) 0 0 n.toNatClampNeg))) none
  | _ => none
def mth (d op pc : Nat) (lv : List (Nat × AV)) (st : List AV) (h : HP) : Option SR := match op, st with
  | 1, .inl y :: .inl x :: r => cond (Nat.blt 0 d && Nat.ble r.length 4) (nx (pc + 3) lv (vI (if x < y then y else x) :: r) h) none
  | 2, .inl y :: .inl x :: r => cond (Nat.blt 0 d && Nat.ble r.length 4) (nx (pc + 3) lv (vI (if y < x then y else x) :: r) h) none
  | 3, .inl x :: r => cond (Nat.blt 0 d && Nat.ble r.length 4) (nx (pc + 3) lv (vI (if 0 ≤ x then x else 0 - x) :: r) h) none
  | _, _ => none
def wds : List AV → Nat
  | [] => 0
  | v :: r => cond (isL v) 2 1 + wds r
def inv (M : MR) (idx : Nat) (st : List AV) : Option SR := opt (lk (calT (mK M)) idx) fun q =>
  cond (mS q.1) none (match st.drop (mA q.1) with
    | .inr (.inr (g, j)) :: r => opt (oC j) fun o => cond (Nat.beq o.1 (mK q.1) && Nat.ble r.length 4 && Nat.ble (1 + wds (st.take (mA q.1)).reverse) (mL q.1) && Nat.ble (mA q.1) st.length) (some (.inr (.inr (q.1, vR g j :: (st.take (mA q.1)).reverse, r)))) none
    | _ => none)
def ins (M : MR) (idx : Nat) (st : List AV) : Option SR := opt (lk (calT (mK M)) idx) fun q =>
  cond (mS q.1 && Nat.ble (mA q.1) st.length && Nat.ble (st.drop (mA q.1)).length 4 && Nat.ble (wds (st.take (mA q.1)).reverse) (mL q.1)) (some (.inr (.inr (q.1, (st.take (mA q.1)).reverse, st.drop (mA q.1))))) none
def sti (d : Nat) (M : MR) (i : Instr) (pc : Nat) (lv : List (Nat × AV)) (st : List AV) (h : HP) : Option SR := match i with
  | .iconst n => nx (pc + 1) lv (vI (Int32.ofInt n) :: st) h
  | .bipush n => nx (pc + 2) lv (vI (Int8.ofInt n).toInt32 :: st) h
  | .sipush n => nx (pc + 3) lv (vI (Int16.ofInt n).toInt32 :: st) h
  | .lconst n => nx (pc + 1) lv (vL (Int64.ofNat (n : Nat)) :: st) h
  | .ldc k => opt (lk (cstT (mK M)) k) fun q => nx (pc + 2) lv (vI q.1 :: st) h
  | .ldc_w k => opt (lk (cstT (mK M)) k) fun q => nx (pc + 3) lv (vI q.1 :: st) h
  | .ldc2_w k => opt (lk (cslT (mK M)) k) fun q => nx (pc + 3) lv (vL q.1 :: st) h
  | .iload_n k => ldI lv k (pc + 1) st h
  | .iload k => ldI lv k (pc + 2) st h
  | .lload_n k => ldL lv k (pc + 1) st h
  | .lload k => ldL lv k (pc + 2) st h
  | .aload_n k => ldR lv k (pc + 1) st h
  | .aload k => ldR lv k (pc + 2) st h
  | .istore_n k => stI M lv k (pc + 1) st h
  | .istore k => stI M lv k (pc + 2) st h
  | .astore_n k => stR M lv k (pc + 1) st h
  | .iinc k n => match lk lv k with
    | some (.inl x) => cond (Nat.blt k (mL M)) (nx (pc + 3) (lst lv k (vI (x + Int32.ofInt n))) st h) none
    | _ => none
  | .iadd => o2 (fun x y => x + y) pc lv st h
  | .isub => o2 (fun x y => x - y) pc lv st h
  | .imul => o2 (fun x y => x * y) pc lv st h
  | .iand => o2 (fun x y => x &&& y) pc lv st h
  | .ior => o2 (fun x y => x ||| y) pc lv st h
  | .ixor => o2 (fun x y => x ^^^ y) pc lv st h
  | .ishl => o2 (fun x y => x <<< (y &&& 31)) pc lv st h
  | .ishr => o2 (fun x y => x >>> (y &&& 31)) pc lv st h
  | .iushr => o2 (fun x y => (x.toUInt32 >>> (y.toUInt32 &&& Int32.toUInt32 31)).toInt32) pc lv st h
  | .irem => match st with
    | .inl y :: .inl x :: r => cond (y == 0) none (nx (pc + 1) lv (vI (x - x / y * y) :: r) h)
    | _ => none
  | .ineg => o1 (fun x => vI (-x)) pc lv st h
  | .i2l => o1 (fun x => vL x.toInt64) pc lv st h
  | .i2c => o1 (fun x => vI (x.toUInt32 % 65536).toInt32) pc lv st h
  | .lcmp => match st with
    | .inr (.inl y) :: .inr (.inl x) :: r => nx (pc + 1) lv (vI (lg_cmp x y) :: r) h
    | _ => none
  | .dup => match st with
    | v :: r => cond (isL v) none (nx (pc + 1) lv (v :: v :: r) h)
    | _ => none
  | .pop => match st with
    | v :: r => cond (isL v) none (nx (pc + 1) lv r h)
    | _ => none
  | .dup2 => match st with
    | v :: w :: r => cond (isL v || isL w) none (nx (pc + 1) lv (v :: w :: v :: w :: r) h)
    | _ => none
  | .ifCond c off => match st with
    | .inl x :: r => jmp (if0 c x) pc off lv r h
    | _ => none
  | .if_icmp c off => match st with
    | .inl y :: .inl x :: r => jmp (if2 c x y) pc off lv r h
    | _ => none
  | .goto off => opt (tgo pc off) fun t => nx t lv st h
  | .tableswitch dflt lo hi offs => match st with
    | .inl x :: r => cond (decide (x.toInt < lo) || decide (hi < x.toInt)) (opt (tgo pc dflt) fun t => nx t lv r h)
        (opt (offs[(x.toInt - lo).toNat]?) fun off => opt (tgo pc off) fun t => nx t lv r h)
    | _ => none
  | .lookupswitch dflt ps => match st with
    | .inl x :: r => cond ((ps.toList.zip (ps.toList.drop 1)).all (fun (a, next) => a.1 < next.1)) (opt (tgo pc (Op.lookupswitch.offset ps.toList dflt x.toInt)) fun t => nx t lv r h) none
    | _ => none
  | .getfield idx => getF M idx pc lv st h
  | .putfield idx => putF M idx pc lv st h
  | .arraylength => match st with
    | .inr (.inr (_, j)) :: r => opt (aC j) fun a => nx (pc + 1) lv (vI (Int32.ofNat a.2) :: r) h
    | _ => none
  | .iaload => aLd 0 pc lv st h
  | .caload => aLd 1 pc lv st h
  | .baload => aLd 2 pc lv st h
  | .aaload => match st with
    | .inl i :: .inr (.inr (_, j)) :: r => cond (Nat.beq j 14 && inb i 5) (nx (pc + 1) lv (vR (i.toNatClampNeg + 2) 0 :: r) h) none
    | _ => none
  | .iastore => aSt 0 (fun x => x) pc lv st h
  | .castore => aSt 1 (vp_nar .char) pc lv st h
  | .bastore => aSt 2 (vp_nar .boolean) pc lv st h
  | .ireturn => match st with
    | [.inl x] => match mR M with
      | some .int => some (.inr (.inl (some (vI x), h)))
      | some .boolean => cond (zero1 x) (some (.inr (.inl (some (vI x), h)))) none
      | _ => none
    | _ => none
  | .areturn => match st with
    | [.inr (.inr q)] => match mR M with
      | some (.object _) => some (.inr (.inl (some (vR q.1 q.2), h)))
      | _ => none
    | _ => none
  | .return_ => match st with
    | [] => match mR M with
      | none => some (.inr (.inl (none, h)))
      | _ => none
    | _ => none
  | .invokevirtual idx => inv M idx st
  | .invokestatic idx => match lk (mthT (mK M)) idx with
    | some q => mth d q.1 pc lv st h
    | none => cond (Nat.beq (mK M) 0 && Nat.beq idx 49) (acp d pc lv st h) (ins M idx st)
  | _ => none
def stp (d : Nat) (M : MR) (c : CF) : Option SR := opt (lk (mI M) c.1) fun q => sti d M q.1 c.1 c.2.1 c.2.2.1 c.2.2.2
def ex : Nat → Nat → MR → CF → Option (Option AV × HP)
  | 0, _, _, _ => none
  | n + 1, d, M, c => match stp d M c with
    | none => none
    | some (.inl c') => ex n d M c'
    | some (.inr (.inl r)) => some r
    | some (.inr (.inr (M', as, rest))) => match d with
      | 0 => none
      | d' + 1 => match ex n d' M' (0, ent 0 as, [], c.2.2.2) with
        | none => none
        | some (r, h') => ex n (d' + 1) M (c.1 + 3, c.2.1, r.toList ++ rest, h')
