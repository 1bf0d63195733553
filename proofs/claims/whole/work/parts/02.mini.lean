/-! THE MINI MACHINE: an abstract heap (cells by number), locals by place, one step a function; a run with fuel; its limit ev, by equations. -/
abbrev mE : Type := (Nat × Nat × (Nat → Int32)) ⊕ (Nat × List Value)
abbrev mH : Type := Nat → Option mE
/-- heap, number of cells, slots made, the script -/
abbrev mS : Type := mH × Nat × Nat × Nat × (Nat → Int32)
abbrev mL : Type := List (Option Value)
abbrev mR : Type := Option Value × mS
/-- an instruction, its length, and what its operand means: four numbers -/
abbrev mI : Type := Instr × Nat × Nat × Nat × Nat × Nat
/-- go on; return; call (method, arguments, and where it goes on) -/
abbrev mA : Type := (Nat × mL × List Value × mS) ⊕ (mR ⊕ (Nat × List Value × mS × Nat × mL × List Value))
/-- a method: name, bytes, locals, return type, depth of its calls, its class's number, number of arguments (without this), kind (0 virtual, 1 static, 2 init) -/
abbrev mM : Type := MethodName × ByteArray × Nat × Option FieldType × Nat × Nat × Nat × Nat
def hu (h : mH) (k : Nat) (e : mE) : mH := fun j => if j = k then some e else h j
def mset (σ : mS) (k : Nat) (e : mE) : mS := (hu σ.1 k e, σ.2)
def mnew (σ : mS) (e : mE) (n : Nat) : mS := (hu σ.1 σ.2.1 e, σ.2.1 + 1, σ.2.2.1 + n, σ.2.2.2)
/-- a table's row -/
def lk : List (Nat × mI) → Nat → Option mI
  | [], _ => none
  | (p, q) :: t, pc => cond (Nat.beq p pc) (some q) (lk t pc)
def lclr (ls : mL) : Nat → mL
  | 0 => ls
  | j + 1 => match ls[j]? with
    | some (some (.long _)) => ls.set j none
    | some (some (.double _)) => ls.set j none
    | _ => ls
def lst1 (ls : mL) (i : Nat) (v : Value) : mL := (lclr ls i).set i (some v)
def lst2 (ls : mL) (i : Nat) (v : Value) : mL := ((lclr ls i).set i (some v)).set (i + 1) none
/-- what a field of that tag may hold: 0 int, 1 boolean, 2 long, 3 reference -/
def okv (d : Nat) (v : Value) : Prop := match d, v with
  | 0, .int _ => True
  | 1, .int x => x = 0 ∨ x = 1
  | 2, .long _ => True
  | 3, .ref _ => True
  | _, _ => False
def gfK {α : Type} (x : Option mE) (ci k : Nat) (K : Value → Option α) : Option α := match x with
  | some (.inr (c, fs)) => if c = ci then (match fs[k]? with
    | some v => K v
    | none => none) else none
  | _ => none
def pfK {α : Type} (x : Option mE) (ci k : Nat) (v : Value) (K : mE → Option α) : Option α := match x with
  | some (.inr (c, fs)) => if c = ci ∧ k < fs.length then K (.inr (c, fs.set k v)) else none
  | _ => none
def alK {α : Type} (x : Option mE) (t : Nat) (i : Int32) (K : Int32 → Option α) : Option α := match x with
  | some (.inl (t', n, f)) => if t' = t ∧ ¬ (i < 0 ∨ n ≤ i.toNatClampNeg) then K (f i.toNatClampNeg) else none
  | _ => none
def asK {α : Type} (x : Option mE) (t : Nat) (i v : Int32) (K : mE → Option α) : Option α := match x with
  | some (.inl (t', n, f)) => if t' = t ∧ ¬ (i < 0 ∨ n ≤ i.toNatClampNeg) then K (.inl (t', n, upd f i.toNatClampNeg v)) else none
  | _ => none
def lnK {α : Type} (x : Option mE) (K : Int32 → Option α) : Option α := match x with
  | some (.inl (t', n, _)) => if t' = 0 then K (Int32.ofNat n) else none
  | _ => none
def opI {α : Type} (st : List Value) (K : Int32 → List Value → Option α) : Option α := match st with
  | .int x :: r => K x r
  | _ => none
def opII {α : Type} (st : List Value) (K : Int32 → Int32 → List Value → Option α) : Option α := match st with
  | .int y :: .int x :: r => K x y r
  | _ => none
def opL {α : Type} (st : List Value) (K : Int64 → List Value → Option α) : Option α := match st with
  | .long x :: r => K x r
  | _ => none
def opLL {α : Type} (st : List Value) (K : Int64 → Int64 → List Value → Option α) : Option α := match st with
  | .long y :: .long x :: r => K x y r
  | _ => none
def opLI {α : Type} (st : List Value) (K : Int64 → Int32 → List Value → Option α) : Option α := match st with
  | .int y :: .long x :: r => K x y r
  | _ => none
def opR {α : Type} (st : List Value) (K : Nat → List Value → Option α) : Option α := match st with
  | .ref x :: r => K x r
  | _ => none
def opV {α : Type} (st : List Value) (K : Value → List Value → Option α) : Option α := match st with
  | x :: r => K x r
  | _ => none
/-- a value that a place of the locals holds -/
def lvI {α : Type} (ls : mL) (i : Nat) (K : Int32 → Option α) : Option α := match ls[i]? with
  | some (some (.int x)) => K x
  | _ => none
def lvL {α : Type} (ls : mL) (i : Nat) (K : Int64 → Option α) : Option α := match ls[i]? with
  | some (some (.long x)) => K x
  | _ => none
def lvR {α : Type} (ls : mL) (i : Nat) (K : Value → Option α) : Option α := match ls[i]? with
  | some (some (.ref x)) => K (.ref x)
  | some (some (.float x)) => K (.float x)
  | _ => none
def isRf : Value → Prop
  | .ref _ => True
  | .float _ => True
  | _ => False
/-- the words of the four texts: their bytes -/
def sBy : Nat → List Int32
  | 0 => [110, 101, 118, 101, 114]
  | 1 => [103, 111, 97, 108]
  | 2 => [114, 101, 115, 116]
  | 3 => [98, 97, 114]
  | _ => []
/-- the target of a switch -/
def swT (df lo hi : Int) (off : Array Int) (x : Int32) : Int := if x.toInt < lo ∨ hi < x.toInt then df else (off[(x.toInt - lo).toNat]?).getD df
def mCat (st : List Value) : Nat := (st.map fun v => v.category).sum

def condI : Jvm.ClassFile.Cond → Int32 → Int32 → Prop
  | .eq, x, y => x = y
  | .ne, x, y => ¬ x = y
  | .lt, x, y => x < y
  | .ge, x, y => y ≤ x
  | .gt, x, y => y < x
  | .le, x, y => x ≤ y
def condD (c : Jvm.ClassFile.Cond) (x y : Int32) : Decidable (condI c x y) := match c with
  | .eq => inferInstanceAs (Decidable (x = y))
  | .ne => inferInstanceAs (Decidable (¬ x = y))
  | .lt => inferInstanceAs (Decidable (x < y))
  | .ge => inferInstanceAs (Decidable (y ≤ x))
  | .gt => inferInstanceAs (Decidable (y < x))
  | .le => inferInstanceAs (Decidable (x ≤ y))
noncomputable def okD (d : Nat) (v : Value) : Decidable (okv d v) := Classical.propDecidable _
def cstL (a c : Nat) : Int64 := if c = 1 then Int64.ofInt (-(a : Int)) else Int64.ofNat a
abbrev mgo (pc : Nat) (ls : mL) (st : List Value) (σ : mS) : Option mA := some (.inl (pc, ls, st, σ))
abbrev mret (v : Option Value) (σ : mS) : Option mA := some (.inr (.inl (v, σ)))
abbrev mcall (M : Nat) (as : List Value) (σ : mS) (pc : Nat) (ls : mL) (st : List Value) : Option mA := if mCat st ≤ 8 then some (.inr (.inr (M, as, σ, pc, ls, st))) else none
/-- the arguments of a call, out of the stack: the last first; none if there are fewer -/
def mpop : Nat → List Value → List Value → Option (List Value × List Value)
  | 0, st, acc => some (acc, st)
  | n + 1, v :: st, acc => mpop n st (v :: acc)
  | _ + 1, [], _ => none
/-- an object of that class -/
def isC {α : Type} (x : Option mE) (ci : Nat) (K : Option α) : Option α := match x with
  | some (.inr (c, _)) => if c = ci then K else none
  | _ => none
/-- the default value of a field of that tag -/
def dfv : Nat → Value
  | 3 => .null
  | 2 => .long 0
  | _ => .int 0
/-- one step; ct: the fields' tags of a class; rt: the method's return type -/
noncomputable def stp (ct : Nat → List Nat) (rt : Option FieldType) (q : mI) (pc : Nat) (ls : mL) (st : List Value) (σ : mS) : Option mA :=
  match q with
  | (ins, _, a, b, c, d) => match ins with
    | .iconst n => mgo (pc + 1) ls (.int (Int32.ofInt n) :: st) σ
    | .bipush n => mgo (pc + 2) ls (.int ((Int8.ofInt n).toInt32) :: st) σ
    | .sipush n => mgo (pc + 3) ls (.int ((Int16.ofInt n).toInt32) :: st) σ
    | .lconst n => mgo (pc + 1) ls (.long (Int64.ofNat (n : Nat)) :: st) σ
    | .ldc _ => if c = 1 then mgo (pc + 2) ls (.float (UInt32.ofNat a) :: st) σ else mgo (pc + 2) ls (.int (Int32.ofNat a) :: st) σ
    | .ldc_w _ => mgo (pc + 3) ls (.int (Int32.ofNat a) :: st) σ
    | .ldc2_w _ => mgo (pc + 3) ls (.long (cstL a c) :: st) σ
    | .iload_n n => lvI ls n fun x => mgo (pc + 1) ls (.int x :: st) σ
    | .iload n => lvI ls n fun x => mgo (pc + 2) ls (.int x :: st) σ
    | .lload_n n => lvL ls n fun x => mgo (pc + 1) ls (.long x :: st) σ
    | .lload n => lvL ls n fun x => mgo (pc + 2) ls (.long x :: st) σ
    | .aload_n n => lvR ls n fun x => mgo (pc + 1) ls (x :: st) σ
    | .aload n => lvR ls n fun x => mgo (pc + 2) ls (x :: st) σ
    | .istore_n n => opI st fun x r => if (n : Nat) < ls.length then mgo (pc + 1) (lst1 ls n (.int x)) r σ else none
    | .istore n => opI st fun x r => if n < ls.length then mgo (pc + 2) (lst1 ls n (.int x)) r σ else none
    | .lstore_n n => opL st fun x r => if (n : Nat) + 1 < ls.length then mgo (pc + 1) (lst2 ls n (.long x)) r σ else none
    | .lstore n => opL st fun x r => if n + 1 < ls.length then mgo (pc + 2) (lst2 ls n (.long x)) r σ else none
    | .astore_n n => opR st fun x r => if (n : Nat) < ls.length then mgo (pc + 1) (lst1 ls n (.ref x)) r σ else none
    | .astore n => opR st fun x r => if n < ls.length then mgo (pc + 2) (lst1 ls n (.ref x)) r σ else none
    | .iinc n z => lvI ls n fun x => if n < ls.length then mgo (pc + 3) (lst1 ls n (.int (x + Int32.ofInt z))) st σ else none
    | .iadd => opII st fun x y r => mgo (pc + 1) ls (.int (x + y) :: r) σ
    | .isub => opII st fun x y r => mgo (pc + 1) ls (.int (x - y) :: r) σ
    | .imul => opII st fun x y r => mgo (pc + 1) ls (.int (x * y) :: r) σ
    | .idiv => opII st fun x y r => if y = 0 then none else mgo (pc + 1) ls (.int (x / y) :: r) σ
    | .iand => opII st fun x y r => mgo (pc + 1) ls (.int (x &&& y) :: r) σ
    | .ior => opII st fun x y r => mgo (pc + 1) ls (.int (x ||| y) :: r) σ
    | .ixor => opII st fun x y r => mgo (pc + 1) ls (.int (x ^^^ y) :: r) σ
    | .ishl => opII st fun x y r => mgo (pc + 1) ls (.int (x <<< (y &&& 31)) :: r) σ
    | .ishr => opII st fun x y r => mgo (pc + 1) ls (.int (x >>> (y &&& 31)) :: r) σ
    | .iushr => opII st fun x y r => mgo (pc + 1) ls (.int (x.toUInt32 >>> (y.toUInt32 &&& Int32.toUInt32 31)).toInt32 :: r) σ
    | .ineg => opI st fun x r => mgo (pc + 1) ls (.int (-x) :: r) σ
    | .ladd => opLL st fun x y r => mgo (pc + 1) ls (.long (x + y) :: r) σ
    | .lmul => opLL st fun x y r => mgo (pc + 1) ls (.long (x * y) :: r) σ
    | .ldiv => opLL st fun x y r => if y = 0 then none else mgo (pc + 1) ls (.long (x / y) :: r) σ
    | .land => opLL st fun x y r => mgo (pc + 1) ls (.long (x &&& y) :: r) σ
    | .lor => opLL st fun x y r => mgo (pc + 1) ls (.long (x ||| y) :: r) σ
    | .lcmp => opLL st fun x y r => mgo (pc + 1) ls (.int (lg_cmp x y) :: r) σ
    | .lshl => opLI st fun x y r => mgo (pc + 1) ls (.long (x <<< (y.toInt64 &&& 63)) :: r) σ
    | .lshr => opLI st fun x y r => mgo (pc + 1) ls (.long (x >>> (y.toInt64 &&& 63)) :: r) σ
    | .lushr => opLI st fun x y r => mgo (pc + 1) ls (.long (x.toUInt64 >>> (y.toInt64.toUInt64 &&& Int64.toUInt64 63)).toInt64 :: r) σ
    | .i2l => opI st fun x r => mgo (pc + 1) ls (.long x.toInt64 :: r) σ
    | .l2i => opL st fun x r => mgo (pc + 1) ls (.int x.toInt32 :: r) σ
    | .pop => opI st fun _ r => mgo (pc + 1) ls r σ
    | .dup => opV st fun x r => if x.category = 1 then mgo (pc + 1) ls (x :: x :: r) σ else none
    | .dup2 => opV st fun x r => opV r fun y r => if x.category = 1 ∧ y.category = 1 then mgo (pc + 1) ls (x :: y :: x :: y :: r) σ else none
    | .ifCond k _ => opI st fun x r => mgo (@ite _ (condI k x 0) (condD k x 0) a (pc + 3)) ls r σ
    | .if_icmp k _ => opII st fun x y r => mgo (@ite _ (condI k x y) (condD k x y) a (pc + 3)) ls r σ
    | .goto _ => mgo a ls st σ
    | .tableswitch df lo hi off => opI st fun x r => mgo ((pc : Int) + swT df lo hi off x).toNat ls r σ
    | .ireturn => opI st fun x r => match r with
      | [] => if rt = some .int ∨ (rt = some .boolean ∧ (x = 0 ∨ x = 1)) then mret (some (.int x)) σ else none
      | _ :: _ => none
    | .lreturn => opL st fun x r => match r with
      | [] => if rt = some .long then mret (some (.long x)) σ else none
      | _ :: _ => none
    | .return_ => match st with
      | [] => if rt = none then mret none σ else none
      | _ :: _ => none
    | .getfield _ => opR st fun t r => gfK (σ.1 t) a b fun v => mgo (pc + 3) ls (v :: r) σ
    | .putfield _ => opV st fun v r => opR r fun t r => @ite _ (okv d v) (okD d v) (pfK (σ.1 t) a b v fun e => mgo (pc + 3) ls r (mset σ t e)) none
    | .iaload => opI st fun i r => match r with
      | .ref t :: r => alK (σ.1 t) 0 i fun v => mgo (pc + 1) ls (.int v :: r) σ
      | .float z :: r => if z = 9 ∧ ¬ (i < 0 ∨ σ.2.2.2.1 ≤ i.toNatClampNeg) then mgo (pc + 1) ls (.int (σ.2.2.2.2 i.toNatClampNeg) :: r) σ else none
      | _ => none
    | .baload => opI st fun i r => opR r fun t r => alK (σ.1 t) 1 i fun v => mgo (pc + 1) ls (.int v :: r) σ
    | .iastore => opII st fun i v r => opR r fun t r => asK (σ.1 t) 0 i v fun e => mgo (pc + 1) ls r (mset σ t e)
    | .bastore => opII st fun i v r => opR r fun t r => if v = 0 ∨ v = 1 then asK (σ.1 t) 1 i v fun e => mgo (pc + 1) ls r (mset σ t e) else none
    | .arraylength => match st with
      | .ref t :: r => lnK (σ.1 t) fun v => mgo (pc + 1) ls (.int v :: r) σ
      | .float z :: r => if z = 9 then mgo (pc + 1) ls (.int (Int32.ofNat σ.2.2.2.1) :: r) σ else none
      | _ => none
    | .new _ => mgo (pc + 3) ls (.ref σ.2.1 :: st) (mnew σ (.inr (a, (ct a).map dfv)) (ct a).length)
    | .newarray _ => opI st fun x r => if x < 0 ∨ 100000 < x.toNatClampNeg then none else mgo (pc + 2) ls (.ref σ.2.1 :: r) (mnew σ (.inl (a, x.toNatClampNeg, fun _ => 0)) x.toNatClampNeg)
    | .invokevirtual _ =>
      if c = 7 then (match st with
        | .float z :: r => if z.toNat < 4 ∧ mCat r ≤ 8 then mgo (pc + 3) ls (.int (Int32.ofNat (sBy z.toNat).length) :: r) σ else none
        | _ => none)
      else if c = 8 then (match st with
        | .int i :: .float z :: r => if z.toNat < 4 ∧ ¬ (i < 0 ∨ (sBy z.toNat).length ≤ i.toNatClampNeg) ∧ mCat r ≤ 8 then mgo (pc + 3) ls (.int ((sBy z.toNat).getD i.toNatClampNeg 0) :: r) σ else none
        | _ => none)
      else match mpop (b + 1) st [] with
        | some (.ref t :: as, r) => isC (σ.1 t) d (mcall a (.ref t :: as) σ (pc + 3) ls r)
        | _ => none
    | .invokespecial _ =>
      if c = 9 then opR st fun _ r => if mCat r ≤ 8 then mgo (pc + 3) ls r σ else none
      else match mpop (b + 1) st [] with
        | some (.ref t :: as, r) => mcall a (.ref t :: as) σ (pc + 3) ls r
        | _ => none
    | .invokestatic _ =>
      if c = 4 then opII st fun x y r => if mCat r ≤ 8 then mgo (pc + 3) ls (.int (if x < y then y else x) :: r) σ else none
      else if c = 5 then opII st fun x y r => if mCat r ≤ 8 then mgo (pc + 3) ls (.int (if y < x then y else x) :: r) σ else none
      else if c = 6 then opI st fun x r => if mCat r ≤ 8 then mgo (pc + 3) ls (.int (if 0 ≤ x then x else 0 - x) :: r) σ else none
      else match mpop b st [] with
        | some (as, r) => mcall a as σ (pc + 3) ls r
        | _ => none
    | _ => none
/-- the locals at a method's start -/
def mSl (vs : List Value) : mL := vs.flatMap fun v => if v.category = 2 then [some v, none] else [some v]
def mEnt (vs : List Value) (n : Nat) : mL := mSl vs ++ List.replicate (n - (mSl vs).length) none
