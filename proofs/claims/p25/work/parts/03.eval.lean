/-! AN EVALUATOR OF THE CLAIM'S BYTECODE over a plain world: cells are numbered from 0 on; ints, references and shapes are functions; what it answers, the machine does (ev_sound in a later part). -/
abbrev evL : Type := List (Nat × Value)
abbrev evM : Type := Nat → Nat → Int32
/-- the fixed side of a world: number of cells, number of slots, kind and length of a cell, references, the rows of ints that lie outside -/
abbrev evH : Type := Nat × Nat × (Nat → Nat × Nat) × (Nat → Nat → Option Nat) × (Nat → Nat × (Nat → Int32))
abbrev evC : Type := Nat × evL × List Value × evH × evM
abbrev evO : Type := Option Value × evH × evM
def evN (h : evH) : Nat := h.1
def evSl (h : evH) : Nat := h.2.1
def evK (h : evH) (a : Nat) : Nat := (h.2.2.1 a).1
def evLen (h : evH) (a : Nat) : Nat := (h.2.2.1 a).2
def evR (h : evH) (a j : Nat) : Option Nat := h.2.2.2.1 a j
def evSp (h : evH) (k : Nat) : Nat × (Nat → Int32) := h.2.2.2.2 k
/-- where the numbers of what lies outside begin -/
def evO9 : Nat := 1000000000
/-- a new cell of kind k and length n -/
def evNew (h : evH) (k n : Nat) : evH := (h.1 + 1, h.2.1 + n, (fun a => if a = h.1 then (k, n) else h.2.2.1 a), (fun a j => if a = h.1 then none else h.2.2.2.1 a j), h.2.2.2.2)
def evNewM (h : evH) (mi : evM) : evM := fun a j => if a = h.1 then 0 else mi a j
def evSetR (h : evH) (a j : Nat) (v : Option Nat) : evH := (h.1, h.2.1, h.2.2.1, (fun b i => if b = a ∧ i = j then v else h.2.2.2.1 b i), h.2.2.2.2)
def evSetM (mi : evM) (a j : Nat) (v : Int32) : evM := fun b i => if b = a ∧ i = j then v else mi b i
def evRowM (mi : evM) (a : Nat) (f : Nat → Int32) : evM := fun b i => if b = a then f i else mi b i
-- locals
def evLk (i : Nat) : evL → Option Value
  | [] => none
  | q :: t => if q.1 = i then some q.2 else evLk i t
def evIn (i : Nat) (v : Value) : evL → evL
  | [] => [(i, v)]
  | q :: t => if q.1 < i then q :: evIn i v t else (i, v) :: q :: t
def evS1 (i : Nat) (v : Value) (l : evL) : evL := evIn i v (l.filter (fun q => !(q.1 == i) && !(q.1 + 1 == i && q.2.category == 2)))
def evS2 (i : Nat) (v : Value) (l : evL) : evL := evIn i v (l.filter (fun q => !(q.1 == i) && (!(q.1 == i + 1) && !(q.1 + 1 == i && q.2.category == 2))))
-- the stack
section EVP
variable {α : Type}
def evPi (st : List Value) (f : Int32 → List Value → Option α) : Option α := match st with
  | .int x :: r => f x r
  | _ => none
def evPl (st : List Value) (f : Int64 → List Value → Option α) : Option α := match st with
  | .long x :: r => f x r
  | _ => none
def evPf (st : List Value) (f : UInt32 → List Value → Option α) : Option α := match st with
  | .float x :: r => f x r
  | _ => none
def evPd (st : List Value) (f : UInt64 → List Value → Option α) : Option α := match st with
  | .double x :: r => f x r
  | _ => none
def evPr (st : List Value) (f : Nat → List Value → Option α) : Option α := match st with
  | .ref x :: r => f x r
  | _ => none
/-- a reference or null -/
def evPq (st : List Value) (f : Option Nat → List Value → Option α) : Option α := match st with
  | .ref x :: r => f (some x) r
  | .null :: r => f none r
  | _ => none
def evPv (st : List Value) (f : Value → List Value → Option α) : Option α := match st with
  | v :: r => f v r
  | [] => none
def evIf (c : Prop) [Decidable c] (x : Option α) : Option α := if c then x else none
end EVP
def evJ (pc : Nat) (off : Int) : Option Nat := if 0 ≤ (pc : Int) + off then some ((pc : Int) + off).toNat else none
def evIc (c : Jvm.ClassFile.Cond) (x y : Int32) : Bool := match c with
  | .eq => decide (x = y)
  | .ne => !decide (x = y)
  | .lt => decide (x < y)
  | .ge => decide (y ≤ x)
  | .gt => decide (y < x)
  | .le => decide (x ≤ y)
/-- a row of ints: one of the world's, or one outside -/
def evRow (h : evH) (mi : evM) (a : Nat) : Option (Nat × (Nat → Int32)) :=
  if evO9 ≤ a then evIf (a < evO9 + 3) (some (evSp h (a - evO9))) else evIf (a < evN h ∧ evK h a = 9) (some (evLen h a, mi a))
def evALen (h : evH) (a : Nat) : Option Nat :=
  if evO9 ≤ a then evIf (a < evO9 + 3) (some (evSp h (a - evO9)).1) else evIf (a < evN h ∧ 9 ≤ evK h a ∧ evK h a ≤ 13) (some (evLen h a))
def evFit (k j : Nat) (x : Int32) : Bool := decide (narrow (evTy k j) (.int x) = .int x) && fits (evTy k j) (.int x)
def evInit (y k : Nat) : Bool := (evName y).name == "<init>" && evOw y == k
def evMay (y k j : Nat) (ne : Bool) : Bool := !(evFin k j) || (evInit y k && !ne)
def evCs (st : List Value) : Nat := (st.map fun v => v.category).sum
/-- one step that is no call and no end -/
def evStep (y pc : Nat) (i : Instr) (lv : evL) (st : List Value) (h : evH) (mi : evM) : Option evC := match i with
  | .aload k => (evLk k lv).bind fun v => evPq (v :: st) fun q r => some (pc + 2, lv, va_rf q :: r, h, mi)
  | .aload_n k => (evLk k.val lv).bind fun v => evPq (v :: st) fun q r => some (pc + 1, lv, va_rf q :: r, h, mi)
  | .iload k => (evLk k lv).bind fun v => evPi (v :: st) fun x r => some (pc + 2, lv, .int x :: r, h, mi)
  | .iload_n k => (evLk k.val lv).bind fun v => evPi (v :: st) fun x r => some (pc + 1, lv, .int x :: r, h, mi)
  | .lload k => (evLk k lv).bind fun v => evPl (v :: st) fun x r => some (pc + 2, lv, .long x :: r, h, mi)
  | .lload_n k => (evLk k.val lv).bind fun v => evPl (v :: st) fun x r => some (pc + 1, lv, .long x :: r, h, mi)
  | .fload_n k => (evLk k.val lv).bind fun v => evPf (v :: st) fun x r => some (pc + 1, lv, .float x :: r, h, mi)
  | .dload_n k => (evLk k.val lv).bind fun v => evPd (v :: st) fun x r => some (pc + 1, lv, .double x :: r, h, mi)
  | .astore k => evPq st fun q r => evIf (k < evML y) (some (pc + 2, evS1 k (va_rf q) lv, r, h, mi))
  | .astore_n k => evPq st fun q r => evIf (k.val < evML y) (some (pc + 1, evS1 k.val (va_rf q) lv, r, h, mi))
  | .istore k => evPi st fun x r => evIf (k < evML y) (some (pc + 2, evS1 k (.int x) lv, r, h, mi))
  | .istore_n k => evPi st fun x r => evIf (k.val < evML y) (some (pc + 1, evS1 k.val (.int x) lv, r, h, mi))
  | .lstore k => evPl st fun x r => evIf (k + 1 < evML y) (some (pc + 2, evS2 k (.long x) lv, r, h, mi))
  | .lstore_n k => evPl st fun x r => evIf (k.val + 1 < evML y) (some (pc + 1, evS2 k.val (.long x) lv, r, h, mi))
  | .fstore_n k => evPf st fun x r => evIf (k.val < evML y) (some (pc + 1, evS1 k.val (.float x) lv, r, h, mi))
  | .dstore_n k => evPd st fun x r => evIf (k.val + 1 < evML y) (some (pc + 1, evS2 k.val (.double x) lv, r, h, mi))
  | .iinc k n => (evLk k lv).bind fun v => evPi [v] fun x _ => evIf (k < evML y) (some (pc + 3, evS1 k (.int (x + Int32.ofInt n)) lv, st, h, mi))
  | .iconst n => some (pc + 1, lv, .int (Int32.ofInt n) :: st, h, mi)
  | .bipush n => some (pc + 2, lv, .int (Int8.ofInt n).toInt32 :: st, h, mi)
  | .sipush n => some (pc + 3, lv, .int (Int16.ofInt n).toInt32 :: st, h, mi)
  | .lconst n => some (pc + 1, lv, .long (Int64.ofNat (n : Nat)) :: st, h, mi)
  | .fconst n => match n with
    | 0 => some (pc + 1, lv, .float FP.fconst0 :: st, h, mi)
    | 1 => some (pc + 1, lv, .float FP.fconst1 :: st, h, mi)
    | 2 => some (pc + 1, lv, .float FP.fconst2 :: st, h, mi)
  | .dconst n => match n with
    | 0 => some (pc + 1, lv, .double FP.dconst0 :: st, h, mi)
    | 1 => some (pc + 1, lv, .double FP.dconst1 :: st, h, mi)
  | .aconst_null => some (pc + 1, lv, .null :: st, h, mi)
  | .ldc k => (evLd y k).bind fun q => match q.1 with
    | .int x => some (pc + 2, lv, .int x :: st, h, mi)
    | .float x => some (pc + 2, lv, .float x :: st, h, mi)
    | _ => none
  | .ldc2_w k => (evLd y k).bind fun q => match q.1 with
    | .long x => some (pc + 3, lv, .long x :: st, h, mi)
    | .double x => some (pc + 3, lv, .double x :: st, h, mi)
    | _ => none
  | .iadd => evPi st fun b r => evPi r fun a r => some (pc + 1, lv, .int (a + b) :: r, h, mi)
  | .isub => evPi st fun b r => evPi r fun a r => some (pc + 1, lv, .int (a - b) :: r, h, mi)
  | .imul => evPi st fun b r => evPi r fun a r => some (pc + 1, lv, .int (a * b) :: r, h, mi)
  | .iand => evPi st fun b r => evPi r fun a r => some (pc + 1, lv, .int (a &&& b) :: r, h, mi)
  | .ior => evPi st fun b r => evPi r fun a r => some (pc + 1, lv, .int (a ||| b) :: r, h, mi)
  | .ixor => evPi st fun b r => evPi r fun a r => some (pc + 1, lv, .int (a ^^^ b) :: r, h, mi)
  | .ishl => evPi st fun b r => evPi r fun a r => some (pc + 1, lv, .int (a <<< (b &&& 31)) :: r, h, mi)
  | .ishr => evPi st fun b r => evPi r fun a r => some (pc + 1, lv, .int (a >>> (b &&& 31)) :: r, h, mi)
  | .iushr => evPi st fun b r => evPi r fun a r => some (pc + 1, lv, .int (a.toUInt32 >>> (b.toUInt32 &&& Int32.toUInt32 31)).toInt32 :: r, h, mi)
  | .idiv => evPi st fun b r => evPi r fun a r => evIf (¬ b = 0) (some (pc + 1, lv, .int (a / b) :: r, h, mi))
  | .irem => evPi st fun b r => evPi r fun a r => evIf (¬ b = 0) (some (pc + 1, lv, .int (a - a / b * b) :: r, h, mi))
  | .ineg => evPi st fun a r => some (pc + 1, lv, .int (-a) :: r, h, mi)
  | .ladd => evPl st fun b r => evPl r fun a r => some (pc + 1, lv, .long (a + b) :: r, h, mi)
  | .lsub => evPl st fun b r => evPl r fun a r => some (pc + 1, lv, .long (a - b) :: r, h, mi)
  | .land => evPl st fun b r => evPl r fun a r => some (pc + 1, lv, .long (a &&& b) :: r, h, mi)
  | .lor => evPl st fun b r => evPl r fun a r => some (pc + 1, lv, .long (a ||| b) :: r, h, mi)
  | .lshl => evPi st fun b r => evPl r fun a r => some (pc + 1, lv, .long (a <<< (b.toInt64 &&& 63)) :: r, h, mi)
  | .lushr => evPi st fun b r => evPl r fun a r => some (pc + 1, lv, .long (a.toUInt64 >>> (b.toInt64.toUInt64 &&& Int64.toUInt64 63)).toInt64 :: r, h, mi)
  | .lcmp => evPl st fun b r => evPl r fun a r => some (pc + 1, lv, .int (lg_cmp a b) :: r, h, mi)
  | .i2l => evPi st fun a r => some (pc + 1, lv, .long a.toInt64 :: r, h, mi)
  | .l2i => evPl st fun a r => some (pc + 1, lv, .int a.toInt32 :: r, h, mi)
  | .i2f => evPi st fun a r => some (pc + 1, lv, .float (FP.i2f a) :: r, h, mi)
  | .i2d => evPi st fun a r => some (pc + 1, lv, .double (FP.i2d a) :: r, h, mi)
  | .f2i => evPf st fun a r => some (pc + 1, lv, .int (FP.f2i a) :: r, h, mi)
  | .d2l => evPd st fun a r => some (pc + 1, lv, .long (FP.d2l a) :: r, h, mi)
  | .fmul => evPf st fun b r => evPf r fun a r => evIf (FP.fmul a b &&& 0x7fffffff ≤ 0x7f800000) (some (pc + 1, lv, .float (FP.fmul a b) :: r, h, mi))
  | .fdiv => evPf st fun b r => evPf r fun a r => evIf (FP.fdiv a b &&& 0x7fffffff ≤ 0x7f800000) (some (pc + 1, lv, .float (FP.fdiv a b) :: r, h, mi))
  | .dmul => evPd st fun b r => evPd r fun a r => evIf (FP.dmul a b &&& 0x7fffffffffffffff ≤ 0x7ff0000000000000) (some (pc + 1, lv, .double (FP.dmul a b) :: r, h, mi))
  | .ddiv => evPd st fun b r => evPd r fun a r => evIf (FP.ddiv a b &&& 0x7fffffffffffffff ≤ 0x7ff0000000000000) (some (pc + 1, lv, .double (FP.ddiv a b) :: r, h, mi))
  | .fcmp op => evPf st fun b r => evPf r fun a r => some (pc + 1, lv, .int (Op.cmpValue (FP.fcmp a b) op) :: r, h, mi)
  | .dcmp op => evPd st fun b r => evPd r fun a r => some (pc + 1, lv, .int (Op.cmpValue (FP.dcmp a b) op) :: r, h, mi)
  | .dup => evPv st fun v r => evIf (v.category = 1) (some (pc + 1, lv, v :: v :: r, h, mi))
  | .pop => evPv st fun v r => evIf (v.category = 1) (some (pc + 1, lv, r, h, mi))
  | .dup_x2 => evPv st fun v r => evPv r fun u r => evPv r fun w r => evIf (v.category = 1 ∧ u.category = 1 ∧ w.category = 1) (some (pc + 1, lv, v :: u :: w :: v :: r, h, mi))
  | .dup2 => evPv st fun v r => evPv r fun u r => evIf (v.category = 1 ∧ u.category = 1) (some (pc + 1, lv, v :: u :: v :: u :: r, h, mi))
  | .goto off => (evJ pc off).bind fun t => some (t, lv, st, h, mi)
  | .ifCond c off => evPi st fun x r => (evJ pc off).bind fun t => some (if evIc c x 0 = true then t else pc + 3, lv, r, h, mi)
  | .if_icmp c off => evPi st fun b r => evPi r fun a r => (evJ pc off).bind fun t => some (if evIc c a b = true then t else pc + 3, lv, r, h, mi)
  | .ifnull off => evPq st fun q r => (evJ pc off).bind fun t => some (if q.isNone = true then t else pc + 3, lv, r, h, mi)
  | .ifnonnull off => evPq st fun q r => (evJ pc off).bind fun t => some (if q.isNone = true then pc + 3 else t, lv, r, h, mi)
  | .lookupswitch dflt ps => evPi st fun x r => evIf ((ps.toList.zip (ps.toList.drop 1)).all (fun (a, next) => a.1 < next.1) = true) ((evJ pc (Op.lookupswitch.offset ps.toList dflt x.toInt)).bind fun t => some (t, lv, r, h, mi))
  | .tableswitch dflt lo hi offs => evPi st fun x r => if x.toInt < lo ∨ hi < x.toInt then (evJ pc dflt).bind fun t => some (t, lv, r, h, mi) else (offs[(x.toInt - lo).toNat]?).bind fun off => (evJ pc off).bind fun t => some (t, lv, r, h, mi)
  | .getfield k => (evF y k).bind fun q => evPr st fun a r => evIf (a < evN h ∧ evK h a = q.1) (some (pc + 3, lv, (if evIsR q.1 q.2.1 = true then va_rf (evR h a q.2.1) else .int (mi a q.2.1)) :: r, h, mi))
  | .putfield k => (evF y k).bind fun q => evIf (evMay y q.1 q.2.1 q.2.2.1 = true) (if evIsR q.1 q.2.1 = true then evPq st fun v r => evPr r fun a r => evIf (a < evN h ∧ evK h a = q.1) (some (pc + 3, lv, r, evSetR h a q.2.1 v, mi))
      else evPi st fun x r => evPr r fun a r => evIf (a < evN h ∧ evK h a = q.1 ∧ evFit q.1 q.2.1 x = true) (some (pc + 3, lv, r, h, evSetM mi a q.2.1 x)))
  | .getstatic k => (evSt y k).bind fun q => some (pc + 3, lv, .ref (evO9 + q.1) :: st, h, mi)
  | .iaload => evPi st fun j r => evPr r fun a r => (evRow h mi a).bind fun q => evIf (¬ j < 0 ∧ j.toNatClampNeg < q.1) (some (pc + 1, lv, .int (q.2 j.toNatClampNeg) :: r, h, mi))
  | .iastore => evPi st fun x r => evPi r fun j r => evPr r fun a r => evIf (a < evN h ∧ evK h a = 9 ∧ ¬ j < 0 ∧ j.toNatClampNeg < evLen h a) (some (pc + 1, lv, r, h, evSetM mi a j.toNatClampNeg x))
  | .aaload => evPi st fun j r => evPr r fun a r => evIf (a < evN h ∧ 10 ≤ evK h a ∧ evK h a ≤ 13 ∧ ¬ j < 0 ∧ j.toNatClampNeg < evLen h a) (some (pc + 1, lv, va_rf (evR h a j.toNatClampNeg) :: r, h, mi))
  | .aastore => evPr st fun v r => evPi r fun j r => evPr r fun a r => evIf (a < evN h ∧ v < evN h ∧ 10 ≤ evK h a ∧ evK h a ≤ 13 ∧ evEl (evK h a) = evK h v ∧ ¬ j < 0 ∧ j.toNatClampNeg < evLen h a) (some (pc + 1, lv, r, evSetR h a j.toNatClampNeg (some v), mi))
  | .arraylength => evPr st fun a r => (evALen h a).bind fun n => some (pc + 1, lv, .int (Int32.ofNat n) :: r, h, mi)
  | .new k => (evWn y k).bind fun q => evIf (evN h < evO9) (some (pc + 3, lv, .ref (evN h) :: st, evNew h q.1 (evFN q.1), evNewM h mi))
  | .newarray t => match t with
    | .int => evPi st fun n r => evIf (evN h < evO9 ∧ ¬ n < 0 ∧ n.toNatClampNeg ≤ 100000000) (some (pc + 2, lv, .ref (evN h) :: r, evNew h 9 n.toNatClampNeg, evNewM h mi))
    | _ => none
  | .anewarray k => (evAn y k).bind fun q => evPi st fun n r => evIf (evN h < evO9 ∧ ¬ n < 0 ∧ n.toNatClampNeg ≤ 100000000) (some (pc + 3, lv, .ref (evN h) :: r, evNew h q.1 n.toNatClampNeg, evNewM h mi))
  | .invokestatic k => (evNa y k).bind fun q => evIf (1 ≤ evFr y ∧ 26 ≤ evLo y) (match q.1 with
    | 0 => evPi st fun n r => evPi r fun dp r => evPr r fun a r => evPi r fun sp r => evPr r fun b r =>
      evIf (a < evN h ∧ b < evN h ∧ evK h a = 9 ∧ evK h b = 9 ∧ ¬ sp < 0 ∧ ¬ dp < 0 ∧ ¬ n < 0 ∧ sp.toNatClampNeg + n.toNatClampNeg ≤ evLen h b ∧ dp.toNatClampNeg + n.toNatClampNeg ≤ evLen h a ∧ evCs r ≤ 8)
        (some (pc + 3, lv, r, h, evRowM mi a (va_cpy (mi b) (mi a) sp.toNatClampNeg dp.toNatClampNeg n.toNatClampNeg)))
    | 1 => evPf st fun x r => evIf (evCs r ≤ 8) (some (pc + 3, lv, .int x.toInt32 :: r, h, mi))
    | 2 => evPd st fun x r => evIf (evCs r ≤ 8) (some (pc + 3, lv, .long x.toInt64 :: r, h, mi))
    | _ => none)
  | .invokespecial k => (evNa y k).bind fun q => evIf (q.1 = 3 ∧ 1 ≤ evFr y ∧ 20 ≤ evLo y) (evPr st fun _ r => evIf (evCs r ≤ 8) (some (pc + 3, lv, r, h, mi)))
  | _ => none
/-- how long an instruction is; the two switches are as long as they are -/
def evLenOk (i : Instr) (len : Nat) : Bool := match i with
  | .lookupswitch .. | .tableswitch .. => true
  | .aload _ | .iload _ | .lload _ | .astore _ | .istore _ | .lstore _ | .bipush _ | .ldc _ | .newarray _ => len == 2
  | .iinc .. | .sipush _ | .ldc2_w _ | .goto _ | .ifCond .. | .if_icmp .. | .ifnull _ | .ifnonnull _ | .getfield _ | .putfield _ | .getstatic _ | .new _ | .anewarray _ | .invokestatic _ | .invokespecial _ | .invokevirtual _ => len == 3
  | _ => len == 1
/-- the end of a method -/
def evEnd (y : Nat) (i : Instr) (st : List Value) : Option (Option Value) := match i with
  | .return_ => match st with
    | [] => evIf (evRet y = none) (some none)
    | _ => none
  | .ireturn => match st, evRet y with
    | [.int x], some t => evIf (narrow t (.int x) = .int x) (some (some (.int x)))
    | _, _ => none
  | .lreturn => match st with
    | [.long x] => evIf (evRet y = some .long) (some (some (.long x)))
    | _ => none
  | .areturn => match st, evRet y with
    | [.ref a], some (.object _) => some (some (.ref a))
    | [.null], some (.object _) => some (some .null)
    | _, _ => none
  | _ => none
/-- a call: whom, with what, what stays below -/
def evCall (y : Nat) (i : Instr) (st : List Value) (h : evH) : Option (Nat × List Value × List Value) := match i with
  | .invokevirtual k => (evCl y k).bind fun q => evIf (q.1 = 0 ∧ evFr q.2.1 + 1 ≤ evFr y ∧ 19 + evML q.2.1 + evLo q.2.1 ≤ evLo y ∧ q.2.2.1 ≤ st.length) (evPr (st.drop q.2.2.1) fun a r => evIf (a < evN h ∧ evK h a = evOw q.2.1 ∧ evOw q.2.1 < 8 ∧ evCs r ≤ 8 ∧ 1 + evCs (st.take q.2.2.1) ≤ evML q.2.1) (some (q.2.1, .ref a :: (st.take q.2.2.1).reverse, r)))
  | .invokestatic k => (evCl y k).bind fun q => evIf (q.1 = 1 ∧ evFr q.2.1 + 1 ≤ evFr y ∧ 19 + evML q.2.1 + evLo q.2.1 ≤ evLo y ∧ q.2.2.1 ≤ st.length ∧ evCs (st.drop q.2.2.1) ≤ 8 ∧ evCs (st.take q.2.2.1) ≤ evML q.2.1) (some (q.2.1, (st.take q.2.2.1).reverse, st.drop q.2.2.1))
  | .invokespecial k => (evCl y k).bind fun q => evIf (q.1 = 2 ∧ evFr q.2.1 + 1 ≤ evFr y ∧ 19 + evML q.2.1 + evLo q.2.1 ≤ evLo y ∧ q.2.2.1 ≤ st.length) (evPr (st.drop q.2.2.1) fun a r => evIf (evCs r ≤ 8 ∧ 1 + evCs (st.take q.2.2.1) ≤ evML q.2.1) (some (q.2.1, .ref a :: (st.take q.2.2.1).reverse, r)))
  | _ => none
def evIns (y pc : Nat) : Option (Instr × Nat) := (((evBT[y]?).map (fun q => q.2)).bind fun T => (T.find? (fun q => q.1 == pc)).map (fun q => q.2)).bind fun q => evIf (evLenOk q.1 q.2 = true) (some q)
theorem evIns_dec {y pc : Nat} {q : Instr × Nat} (h : evIns y pc = some q) : decode (evCode y) pc = .ok q ∧ evLenOk q.1 q.2 = true := by
  unfold evIns at h
  cases hb : evBT[y]? with
  | none => rw [hb] at h; cases h
  | some T =>
    rw [hb] at h
    simp only [Option.map_some, Option.bind_some] at h
    cases hf : T.2.find? (fun q => q.1 == pc) with
    | none => rw [hf] at h; cases h
    | some z =>
      rw [hf] at h
      simp only [Option.map_some, Option.bind_some, evIf] at h
      split at h
      · rename_i hl
        cases h
        have hz := List.find?_some hf
        have hm := List.mem_of_find?_eq_some hf
        have hT := evBT_ok T (List.mem_of_getElem? hb)
        have h1 := List.all_eq_true.mp hT z hm
        have hz : z.1 = pc := by simpa using hz
        have hc : evCode y = T.1 := by
          have h2 : (evBT.map (fun q => q.1))[y]? = some T.1 := by rw [List.getElem?_map, hb]; rfl
          rw [evBT_codes, List.getElem?_map] at h2
          cases hm2 : evMT[y]? with
          | none => rw [hm2] at h2; cases h2
          | some w =>
            rw [hm2] at h2
            simp only [Option.map_some, Option.some.injEq] at h2
            unfold evCode
            rw [List.getD_eq_getElem?_getD, hm2]
            exact h2
        refine ⟨?_, hl⟩
        rw [hc, ← hz]
        exact of_decide_eq_true h1
      · cases h
def evRun : Nat → Nat → Nat → evL → List Value → evH → evM → Option evO
  | 0, _, _, _, _, _, _ => none
  | n + 1, y, pc, lv, st, h, mi => (evIns y pc).bind fun q => match evEnd y q.1 st with
    | some r => some (r, h, mi)
    | none => match evCall y q.1 st h with
      | some c => (evRun n c.1 0 (lv_args 0 c.2.1) [] h mi).bind fun o => evRun n y (pc + 3) lv (o.1.toList ++ c.2.2) o.2.1 o.2.2
      | none => (evStep y pc q.1 lv st h mi).bind fun s => evRun n y s.1 s.2.1 s.2.2.1 s.2.2.2.1 s.2.2.2.2
