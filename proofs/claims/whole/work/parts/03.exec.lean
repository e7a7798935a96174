-- an abstract machine over whole numbers: cells by number, references in a shape, numbers in a store
abbrev AV : Type := Int ⊕ Int ⊕ Option Nat
abbrev Kd : Type := (Nat × List (Option (Option Nat))) ⊕ (FieldType × Nat) ⊕ List (Option Nat)
abbrev Sto : Type := Nat → Int → Int
abbrev Lcs : Type := List (Option AV)
abbrev Rs : Type := (Nat × Lcs × List AV × List Kd × Sto × Nat × Nat) ⊕ (MEnt × List AV × List AV) ⊕ (Option AV)
abbrev eC (e : MEnt) : Nat := e.1
abbrev eY (e : MEnt) : MethodName := e.2.1
abbrev eB (e : MEnt) : ByteArray := e.2.2.1
abbrev eL (e : MEnt) : Nat := e.2.2.2.1
abbrev eR (e : MEnt) : Option FieldType := e.2.2.2.2.1
abbrev eN (e : MEnt) : Nat := e.2.2.2.2.2.1
abbrev eS (e : MEnt) : Bool := e.2.2.2.2.2.2
def w32 (n : Int) : Int := n.bmod 4294967296
def w64 (n : Int) : Int := n.bmod 18446744073709551616
def w8 (n : Int) : Int := n.bmod 256
def zand (a b : Int) : Int := (Int32.ofInt a &&& Int32.ofInt b).toInt
def zor (a b : Int) : Int := (Int32.ofInt a ||| Int32.ofInt b).toInt
def zxor (a b : Int) : Int := (Int32.ofInt a ^^^ Int32.ofInt b).toInt
def zshl (a b : Int) : Int := (Int32.ofInt a <<< (Int32.ofInt b &&& 31)).toInt
def zshr (a b : Int) : Int := (Int32.ofInt a >>> (Int32.ofInt b &&& 31)).toInt
def zushr (a b : Int) : Int := ((Int32.ofInt a).toUInt32 >>> ((Int32.ofInt b).toUInt32 &&& Int32.toUInt32 31)).toInt32.toInt
def zdiv (a b : Int) : Int := (Int32.ofInt a / Int32.ofInt b).toInt
def zrem (a b : Int) : Int := (Int32.ofInt a - Int32.ofInt a / Int32.ofInt b * Int32.ofInt b).toInt
def jdiv (a b : Int) : Int := (Int64.ofInt a / Int64.ofInt b).toInt
def jrem (a b : Int) : Int := (Int64.ofInt a - Int64.ofInt a / Int64.ofInt b * Int64.ofInt b).toInt
def jushr (a b : Int) : Int := ((Int64.ofInt a).toUInt64 >>> ((Int32.ofInt b).toInt64.toUInt64 &&& Int64.toUInt64 63)).toInt64.toInt
def jcmp (a b : Int) : Int := if a > b then 1 else if a = b then 0 else -1
def cnd (c : Jvm.ClassFile.Cond) (a b : Int) : Bool := match c with
  | .eq => decide (a = b)
  | .ne => decide (¬ a = b)
  | .lt => decide (a < b)
  | .ge => decide (b ≤ a)
  | .gt => decide (b < a)
  | .le => decide (a ≤ b)
def up (σ : Sto) (k : Nat) (i v : Int) : Sto := fun k' i' => if k' = k ∧ i' = i then v else σ k' i'
def upz (σ : Sto) (k : Nat) : Sto := fun k' i' => if k' = k then 0 else σ k' i'
def upc (σ : Sto) (k' : Nat) (dp : Int) (k : Nat) (sp n : Int) : Sto := fun q j => if q = k' ∧ dp ≤ j ∧ j < dp + n then σ k (sp + (j - dp)) else σ q j
/-- length of the array at k of that type (0: there is none) -/
def aln (sh : List Kd) (ty : FieldType) (k : Nat) : Int := match sh[k]? with
  | some (.inr (.inl (t, n))) => if t = ty then n else 0
  | _ => 0
/-- the class's own static rows: what they hold -/
def xln (ty : FieldType) (k : Nat) : List Int := match ty, k with
  | .char, 1000 => [121, 100, 104, 109, 99]
  | .int, 1001 => [0, 1, 0, 1, 0]
  | .int, 1002 => [99, 360, 3, 6, 99]
  | .int, 1003 => [30, 1, -1, 3, 10]
  | _, _ => []
def xsr (k : Nat) : List Int := match k with
  | 1010 => [121]
  | 1011 => [97, 98, 120, 121, 110]
  | 1012 => [121, 100, 104]
  | 1013 => [109, 99]
  | _ => []
def okP (sh : List Kd) (k ci j : Nat) : Bool := match sh[k]? with
  | some (.inl (c, fs)) => c == ci && (match fs[j]? with | some none => true | _ => false)
  | _ => false
def okR (sh : List Kd) (k ci j : Nat) : Bool := match sh[k]? with
  | some (.inl (c, fs)) => c == ci && (match fs[j]? with | some (some _) => true | _ => false)
  | _ => false
def okC (sh : List Kd) (k ci : Nat) : Bool := match sh[k]? with
  | some (.inl (c, _)) => c == ci
  | _ => false
def tgt (sh : List Kd) (k j : Nat) : Option Nat := match sh[k]? with
  | some (.inl (_, fs)) => (match fs[j]? with | some (some r) => r | _ => none)
  | _ => none
def setR (sh : List Kd) (k j : Nat) (r : Option Nat) : List Kd := match sh[k]? with
  | some (.inl (c, fs)) => sh.set k (.inl (c, fs.set j (some r)))
  | _ => sh
/-- length of the array of references at k -/
def rln (sh : List Kd) (k : Nat) : Int := match sh[k]? with
  | some (.inr (.inr l)) => l.length
  | _ => 0
def rat (sh : List Kd) (k : Nat) (i : Int) : Option Nat := match sh[k]? with
  | some (.inr (.inr l)) => l.getD i.toNat none
  | _ => none
def setQ (sh : List Kd) (k : Nat) (i : Int) (r : Option Nat) : List Kd := match sh[k]? with
  | some (.inr (.inr l)) => sh.set k (.inr (.inr (l.set i.toNat r)))
  | _ => sh
def alnB (sh : List Kd) (k : Nat) : Int := match sh[k]? with
  | some (.inr (.inl (.byte, n))) => n
  | some (.inr (.inl (.boolean, n))) => n
  | _ => 0
/-- may v be stored in the row of bytes or booleans at k -/
def stB (sh : List Kd) (k : Nat) (v : Int) : Bool := match sh[k]? with
  | some (.inr (.inl (.byte, _))) => decide (-128 ≤ v) && decide (v ≤ 127)
  | some (.inr (.inl (.boolean, _))) => decide (v = 0) || decide (v = 1)
  | _ => false
def fitT (ty : FieldType) (v : AV) : Bool := match ty, v with
  | .int, .inl _ => true
  | .boolean, .inl n => decide (n = 0) || decide (n = 1)
  | .long, .inr (.inl _) => true
  | _, _ => false
def isP (ty : FieldType) : Bool := match ty with
  | .int => true
  | .boolean => true
  | _ => false
def isRf (ty : FieldType) : Bool := match ty with
  | .object _ => true
  | .array _ => true
  | _ => false
def isJ (ty : FieldType) : Bool := match ty with
  | .long => true
  | _ => false
def avC (v : AV) : Nat := match v with
  | .inr (.inl _) => 2
  | _ => 1
def catS (l : List AV) : Nat := match l with
  | [] => 0
  | v :: l => avC v + catS l
def clr (x : Option AV) : Option AV := match x with
  | some (.inr (.inl _)) => none
  | y => y
/-- storing a value of one slot, of two -/
def sto1 (ls : Lcs) (i : Nat) (v : AV) : Lcs := match ls, i with
  | [], _ => []
  | _ :: r, 0 => some v :: r
  | x :: _ :: r, 1 => clr x :: some v :: r
  | x :: r, i + 1 => x :: sto1 r i v
def sto2 (ls : Lcs) (i : Nat) (v : AV) : Lcs := match ls, i with
  | [], _ => []
  | _ :: _ :: r, 0 => some v :: none :: r
  | _ :: r, 0 => none :: r
  | x :: _ :: _ :: r, 1 => clr x :: some v :: none :: r
  | x :: r, i + 1 => x :: sto2 r i v
def entA (as : List AV) : Lcs := match as with
  | [] => []
  | .inr (.inl n) :: r => some (.inr (.inl n)) :: none :: entA r
  | v :: r => some v :: entA r
def entL (n : Nat) (as : List AV) : Lcs := entA as ++ List.replicate (n - (entA as).length) none
def nx (pc : Nat) (ls : Lcs) (st : List AV) (sh : List Kd) (σ : Sto) : Option Rs := some (.inl (pc, ls, st, sh, σ, 0, 0))
def gd (b : Bool) (r : Option Rs) : Option Rs := if b = true then r else none
def jmp (pc : Nat) (off : Int) : Nat := ((pc : Int) + off).toNat
def swT (lo : Int) (os : List Int) (d x : Int) : Int := match os with
  | [] => d
  | o :: os => if x = lo then o else swT (lo + 1) os d x
def lkT (ps : List (Int × Int)) (d x : Int) : Int := match ps with
  | [] => d
  | p :: ps => if x = p.1 then p.2 else lkT ps d x
def ldI (t : Nat) (ls : Lcs) (i : Nat) (pc : Nat) (st : List AV) (sh : List Kd) (σ : Sto) : Option Rs := match t, ls[i]? with
  | 0, some (some (.inl v)) => nx pc ls (.inl v :: st) sh σ
  | 1, some (some (.inr (.inl v))) => nx pc ls (.inr (.inl v) :: st) sh σ
  | 2, some (some (.inr (.inr (some v)))) => nx pc ls (.inr (.inr (some v)) :: st) sh σ
  | _, _ => none
def stI (t : Nat) (ls : Lcs) (i : Nat) (pc : Nat) (st : List AV) (sh : List Kd) (σ : Sto) : Option Rs := match t, st with
  | 0, .inl n :: st => gd (decide (i < ls.length)) (nx pc (sto1 ls i (.inl n)) st sh σ)
  | 1, .inr (.inl n) :: st => gd (decide (i + 1 < ls.length)) (nx pc (sto2 ls i (.inr (.inl n))) st sh σ)
  | 2, .inr (.inr (some k)) :: st => gd (decide (i < ls.length)) (nx pc (sto1 ls i (.inr (.inr (some k)))) st sh σ)
  | _, _ => none
def bi (f : Int → Int → Int) (pc : Nat) (ls : Lcs) (st : List AV) (sh : List Kd) (σ : Sto) : Option Rs := match st with
  | .inl b :: .inl a :: st => nx pc ls (.inl (f a b) :: st) sh σ
  | _ => none
def bj (f : Int → Int → Int) (pc : Nat) (ls : Lcs) (st : List AV) (sh : List Kd) (σ : Sto) : Option Rs := match st with
  | .inr (.inl b) :: .inr (.inl a) :: st => nx pc ls (.inr (.inl (f a b)) :: st) sh σ
  | _ => none
def callR (e y : MEnt) (kind : Nat) (st : List AV) (sh : List Kd) : Option Rs :=
  let as := (st.take (eN y)).reverse
  let r := st.drop (eN y)
  if as.length = eN y then
    (match kind, r with
     | 0, .inr (.inr (some k)) :: r => gd (okC sh k (eC y) && decide (catS r ≤ 8) && decide ((entA (.inr (.inr (some k)) :: as)).length ≤ eL y)) (some (.inr (.inl (y, .inr (.inr (some k)) :: as, r))))
     | 3, .inr (.inr (some k)) :: r => gd (okC sh k (eC y) && decide (catS r ≤ 8) && decide ((entA (.inr (.inr (some k)) :: as)).length ≤ eL y)) (some (.inr (.inl (y, .inr (.inr (some k)) :: as, r))))
     | 1, r => gd (decide (catS r ≤ 8) && decide ((entA as).length ≤ eL y)) (some (.inr (.inl (y, as, r))))
     | 2, r => gd (decide (catS r ≤ 8) && decide ((entA as).length ≤ eL y)) (some (.inr (.inl (y, as, r))))
     | _, _ => none)
  else none
def in0 (pc : Nat) (ls : Lcs) (st : List AV) (sh : List Kd) (σ : Sto) : Option Rs := match st with
  | .inl n :: .inl dp :: .inr (.inr (some k')) :: .inl sp :: .inr (.inr (some k)) :: st =>
    gd (decide (0 ≤ sp) && decide (0 ≤ dp) && decide (0 < n) && decide (sp + n ≤ aln sh .int k) && decide (dp + n ≤ aln sh .int k') && decide (catS st ≤ 8)) (nx (pc + 3) ls st sh (upc σ k' dp k sp n))
  | _ => none
def in1 (pc : Nat) (ls : Lcs) (st : List AV) (sh : List Kd) (σ : Sto) : Option Rs := match st with
  | .inr (.inr (some k)) :: st => gd (decide (1010 ≤ k) && decide (k < 1014) && decide (catS st ≤ 8)) (nx (pc + 3) ls (.inl (xsr k).length :: st) sh σ)
  | _ => none
def in2 (pc : Nat) (ls : Lcs) (st : List AV) (sh : List Kd) (σ : Sto) : Option Rs := match st with
  | .inl i :: .inr (.inr (some k)) :: st => gd (decide (1010 ≤ k) && decide (k < 1014) && decide (0 ≤ i) && decide (i < (xsr k).length) && decide (catS st ≤ 8)) (nx (pc + 3) ls (.inl ((xsr k).getD i.toNat 0) :: st) sh σ)
  | _ => none
def in3 (pc : Nat) (ls : Lcs) (st : List AV) (sh : List Kd) (σ : Sto) : Option Rs := match st with
  | .inr (.inr (some _)) :: st => gd (decide (catS st ≤ 8)) (nx (pc + 3) ls st sh σ)
  | _ => none
def intrR (i : Nat) (pc : Nat) (ls : Lcs) (st : List AV) (sh : List Kd) (σ : Sto) : Option Rs := match i with
  | 0 => in0 pc ls st sh σ
  | 1 => in1 pc ls st sh σ
  | 2 => in2 pc ls st sh σ
  | 3 => in3 pc ls st sh σ
  | _ => none
def invR (e : MEnt) (idx : Nat) (ks : List Nat) (ii : List Nat) (pc : Nat) (ls : Lcs) (st : List AV) (sh : List Kd) (σ : Sto) : Option Rs := match (axMt (eC e)).lookup idx with
  | some (y, k, _) => gd (ks.contains k) (callR e y k st sh)
  | none => match (axIt (eC e)).lookup idx with
    | some (i, _) => gd (ii.contains i) (intrR i pc ls st sh σ)
    | none => none
/-- one instruction -/
def stpI (e : MEnt) (i : Instr) (len pc : Nat) (ls : Lcs) (st : List AV) (sh : List Kd) (σ : Sto) : Option Rs := match i with
  | .iload i => ldI 0 ls i (pc + len) st sh σ
  | .iload_n i => ldI 0 ls i (pc + len) st sh σ
  | .lload i => ldI 1 ls i (pc + len) st sh σ
  | .lload_n i => ldI 1 ls i (pc + len) st sh σ
  | .aload i => ldI 2 ls i (pc + len) st sh σ
  | .aload_n i => ldI 2 ls i (pc + len) st sh σ
  | .istore i => stI 0 ls i (pc + len) st sh σ
  | .istore_n i => stI 0 ls i (pc + len) st sh σ
  | .lstore i => stI 1 ls i (pc + len) st sh σ
  | .lstore_n i => stI 1 ls i (pc + len) st sh σ
  | .astore i => stI 2 ls i (pc + len) st sh σ
  | .astore_n i => stI 2 ls i (pc + len) st sh σ
  | .iconst n => gd (decide (-128 ≤ n) && decide (n ≤ 127)) (nx (pc + len) ls (.inl n :: st) sh σ)
  | .bipush n => gd (decide (-128 ≤ n) && decide (n ≤ 127)) (nx (pc + len) ls (.inl n :: st) sh σ)
  | .sipush n => gd (decide (-32768 ≤ n) && decide (n ≤ 32767)) (nx (pc + len) ls (.inl n :: st) sh σ)
  | .lconst n => nx (pc + len) ls (.inr (.inl n) :: st) sh σ
  | .ldc idx => (match (axKt (eC e)).lookup idx with
    | some (n, _) => nx (pc + len) ls (.inl n :: st) sh σ
    | none => match (axSt (eC e)).lookup idx with
      | some (k, _) => nx (pc + len) ls (.inr (.inr (some k)) :: st) sh σ
      | none => none)
  | .ldc_w idx => (match (axKt (eC e)).lookup idx with
    | some (n, _) => nx (pc + len) ls (.inl n :: st) sh σ
    | none => none)
  | .ldc2_w idx => (match (axLt (eC e)).lookup idx with
    | some (n, _) => nx (pc + len) ls (.inr (.inl n) :: st) sh σ
    | none => none)
  | .dup => (match st with
    | v :: st => gd (decide (avC v = 1)) (nx (pc + len) ls (v :: v :: st) sh σ)
    | _ => none)
  | .dup2 => (match st with
    | v :: w :: st => gd (decide (avC v = 1) && decide (avC w = 1)) (nx (pc + len) ls (v :: w :: v :: w :: st) sh σ)
    | _ => none)
  | .pop => (match st with
    | v :: st => gd (decide (avC v = 1)) (nx (pc + len) ls st sh σ)
    | _ => none)
  | .iadd => bi (fun a b => w32 (a + b)) (pc + len) ls st sh σ
  | .isub => bi (fun a b => w32 (a - b)) (pc + len) ls st sh σ
  | .imul => bi (fun a b => w32 (a * b)) (pc + len) ls st sh σ
  | .iand => bi zand (pc + len) ls st sh σ
  | .ior => bi zor (pc + len) ls st sh σ
  | .ixor => bi zxor (pc + len) ls st sh σ
  | .ishl => bi zshl (pc + len) ls st sh σ
  | .ishr => bi zshr (pc + len) ls st sh σ
  | .iushr => bi zushr (pc + len) ls st sh σ
  | .idiv => (match st with
    | .inl b :: _ => gd (decide (¬ b = 0)) (bi zdiv (pc + len) ls st sh σ)
    | _ => none)
  | .irem => (match st with
    | .inl b :: _ => gd (decide (¬ b = 0)) (bi zrem (pc + len) ls st sh σ)
    | _ => none)
  | .ineg => (match st with
    | .inl a :: st => nx (pc + len) ls (.inl (w32 (-a)) :: st) sh σ
    | _ => none)
  | .ladd => bj (fun a b => w64 (a + b)) (pc + len) ls st sh σ
  | .lsub => bj (fun a b => w64 (a - b)) (pc + len) ls st sh σ
  | .lmul => bj (fun a b => w64 (a * b)) (pc + len) ls st sh σ
  | .ldiv => (match st with
    | .inr (.inl b) :: _ => gd (decide (¬ b = 0)) (bj jdiv (pc + len) ls st sh σ)
    | _ => none)
  | .lrem => (match st with
    | .inr (.inl b) :: _ => gd (decide (¬ b = 0)) (bj jrem (pc + len) ls st sh σ)
    | _ => none)
  | .lushr => (match st with
    | .inl b :: .inr (.inl a) :: st => nx (pc + len) ls (.inr (.inl (jushr a b)) :: st) sh σ
    | _ => none)
  | .lcmp => (match st with
    | .inr (.inl b) :: .inr (.inl a) :: st => nx (pc + len) ls (.inl (jcmp a b) :: st) sh σ
    | _ => none)
  | .i2l => (match st with
    | .inl a :: st => nx (pc + len) ls (.inr (.inl a) :: st) sh σ
    | _ => none)
  | .l2i => (match st with
    | .inr (.inl a) :: st => nx (pc + len) ls (.inl (w32 a) :: st) sh σ
    | _ => none)
  | .i2b => (match st with
    | .inl a :: st => nx (pc + len) ls (.inl (w8 a) :: st) sh σ
    | _ => none)
  | .iinc i n => (match ls[i]? with
    | some (some (.inl a)) => gd (decide (i < ls.length)) <| nx (pc + len) (sto1 ls i (.inl (w32 (a + n)))) st sh σ
    | _ => none)
  | .goto off => gd (decide (0 ≤ (pc : Int) + off)) (nx (jmp pc off) ls st sh σ)
  | .ifCond c off => (match st with
    | .inl a :: st => gd (decide (0 ≤ (pc : Int) + off)) (nx (if cnd c a 0 = true then jmp pc off else pc + len) ls st sh σ)
    | _ => none)
  | .if_icmp c off => (match st with
    | .inl b :: .inl a :: st => gd (decide (0 ≤ (pc : Int) + off)) (nx (if cnd c a b = true then jmp pc off else pc + len) ls st sh σ)
    | _ => none)
  | .tableswitch d lo hi os => (match st with
    | .inl x :: st => gd (decide (hi = lo + os.size - 1) && decide (0 ≤ (pc : Int) + swT lo os.toList d x)) (nx (jmp pc (swT lo os.toList d x)) ls st sh σ)
    | _ => none)
  | .lookupswitch d ps => (match st with
    | .inl x :: st => gd (((ps.toList.zip (ps.toList.drop 1)).all (fun (a, next) => a.1 < next.1)) && decide (0 ≤ (pc : Int) + lkT ps.toList d x)) (nx (jmp pc (lkT ps.toList d x)) ls st sh σ)
    | _ => none)
  | .iaload => (match st with
    | .inl i :: .inr (.inr (some k)) :: st => if k < 1000 then gd (decide (0 ≤ i) && decide (i < aln sh .int k)) (nx (pc + len) ls (.inl (σ k i) :: st) sh σ) else gd (decide (0 ≤ i) && decide (i < (xln .int k).length)) (nx (pc + len) ls (.inl ((xln .int k).getD i.toNat 0) :: st) sh σ)
    | _ => none)
  | .caload => (match st with
    | .inl i :: .inr (.inr (some k)) :: st => gd (decide (k = 1000) && decide (0 ≤ i) && decide (i < (xln .char k).length)) (nx (pc + len) ls (.inl ((xln .char k).getD i.toNat 0) :: st) sh σ)
    | _ => none)
  | .iastore => (match st with
    | .inl v :: .inl i :: .inr (.inr (some k)) :: st => gd (decide (0 ≤ i) && decide (i < aln sh .int k)) (nx (pc + len) ls st sh (up σ k i v))
    | _ => none)
  | .baload => (match st with
    | .inl i :: .inr (.inr (some k)) :: st => gd (decide (0 ≤ i) && decide (i < alnB sh k)) (nx (pc + len) ls (.inl (σ k i) :: st) sh σ)
    | _ => none)
  | .bastore => (match st with
    | .inl v :: .inl i :: .inr (.inr (some k)) :: st => gd (decide (0 ≤ i) && decide (i < alnB sh k) && stB sh k v) (nx (pc + len) ls st sh (up σ k i v))
    | _ => none)
  | .aaload => (match st with
    | .inl i :: .inr (.inr (some k)) :: st => gd (decide (0 ≤ i) && decide (i < rln sh k)) (nx (pc + len) ls (.inr (.inr (rat sh k i)) :: st) sh σ)
    | _ => none)
  | .aastore => (match st with
    | .inr (.inr (some v)) :: .inl i :: .inr (.inr (some k)) :: st => gd (decide (0 ≤ i) && decide (i < rln sh k) && okC sh v 8) (nx (pc + len) ls st (setQ sh k i (some v)) σ)
    | _ => none)
  | .getfield idx => (match (axFt (eC e)).lookup idx, st with
    | some (ci, j, _), .inr (.inr (some k)) :: st =>
      if isJ (axTy ci j) = true then gd (okP sh k ci j) (nx (pc + len) ls (.inr (.inl (σ k j)) :: st) sh σ)
      else if isP (axTy ci j) = true then gd (okP sh k ci j) (nx (pc + len) ls (.inl (σ k j) :: st) sh σ)
      else gd (okR sh k ci j) (nx (pc + len) ls (.inr (.inr (tgt sh k j)) :: st) sh σ)
    | _, _ => none)
  | .putfield idx => (match (axFt (eC e)).lookup idx, st with
    | some (ci, j, _), v :: .inr (.inr (some k)) :: st =>
      gd (!(axT ci j).2.2.2 || (((eY e).name == "<init>") && ((axT ci j).1 == axR (eC e))))
        (match v with
         | .inl n => gd (okP sh k ci j && fitT (axTy ci j) (.inl n)) (nx (pc + len) ls st sh (up σ k j n))
         | .inr (.inl n) => gd (okP sh k ci j && fitT (axTy ci j) (.inr (.inl n))) (nx (pc + len) ls st sh (up σ k j n))
         | .inr (.inr r) => gd (okR sh k ci j && isRf (axTy ci j)) (nx (pc + len) ls st (setR sh k j r) σ))
    | _, _ => none)
  | .getstatic idx => (match (axGt (eC e)).lookup idx with
    | some (k, _) => nx (pc + len) ls (.inr (.inr (some k)) :: st) sh σ
    | none => none)
  | .new idx => (match (axNt (eC e)).lookup idx with
    | some (ci, _) => if sh.length < 900 ∧ ci < 13 then some (.inl (pc + len, ls, .inr (.inr (some sh.length)) :: st, sh ++ [.inl (ci, axD ci)], upz σ sh.length, 1, axN ci)) else none
    | none => none)
  | .newarray t => (match st with
    | .inl n :: st => if sh.length < 900 ∧ 0 ≤ n ∧ n ≤ 10000 ∧ (newarray.typeOf t = .int ∨ newarray.typeOf t = .byte ∨ newarray.typeOf t = .boolean) then some (.inl (pc + len, ls, .inr (.inr (some sh.length)) :: st, sh ++ [.inr (.inl (newarray.typeOf t, n.toNat))], upz σ sh.length, 1, n.toNat)) else none
    | _ => none)
  | .anewarray idx => (match (axNt (eC e)).lookup idx, st with
    | some (ci, _), .inl n :: st => if sh.length < 900 ∧ 0 ≤ n ∧ n ≤ 10000 ∧ ci = 8 then some (.inl (pc + len, ls, .inr (.inr (some sh.length)) :: st, sh ++ [.inr (.inr (List.replicate n.toNat none))], upz σ sh.length, 1, n.toNat)) else none
    | _, _ => none)
  | .invokevirtual idx => invR e idx [0] [1, 2] pc ls st sh σ
  | .invokestatic idx => invR e idx [1, 2] [0] pc ls st sh σ
  | .invokespecial idx => invR e idx [3] [3] pc ls st sh σ
  | .ireturn => (match st, eR e with
    | [.inl n], some .int => some (.inr (.inr (some (.inl n))))
    | [.inl n], some .boolean => gd (decide (n = 0) || decide (n = 1)) (some (.inr (.inr (some (.inl n)))))
    | _, _ => none)
  | .lreturn => (match st, eR e with
    | [.inr (.inl n)], some .long => some (.inr (.inr (some (.inr (.inl n)))))
    | _, _ => none)
  | .return_ => (match st, eR e with
    | [], none => some (.inr (.inr none))
    | _, _ => none)
  | _ => none
def lnOK (i : Instr) (len : Nat) : Bool := match i with
  | .iload _ | .lload _ | .aload _ | .istore _ | .lstore _ | .astore _ | .bipush _ | .ldc _ | .newarray _ => len == 2
  | .sipush _ | .ldc_w _ | .ldc2_w _ | .iinc _ _ | .goto _ | .ifCond _ _ | .if_icmp _ _ | .getfield _ | .putfield _ | .getstatic _ | .new _ | .anewarray _ | .invokevirtual _ | .invokestatic _ | .invokespecial _ => len == 3
  | .tableswitch _ _ _ _ | .lookupswitch _ _ => true
  | _ => len == 1
abbrev decOK (e : MEnt) (pc : Nat) (i : Instr) (len : Nat) : Prop := decode (eB e) pc = .ok (i, len) ∧ lnOK i len = true
def stp (e : MEnt) (pc : Nat) (ls : Lcs) (st : List AV) (sh : List Kd) (σ : Sto) : Option Rs := match decode (eB e) pc with
  | .ok (i, len) => if lnOK i len = true then stpI e i len pc ls st sh σ else none
  | _ => none
abbrev Fin5 : Type := Option AV × List Kd × Sto × Nat × Nat
def exec : Nat → Nat → MEnt → Nat → Lcs → List AV → List Kd → Sto → Option Fin5
  | 0, _, _, _, _, _, _, _ => none
  | f + 1, d, e, pc, ls, st, sh, σ => match stp e pc ls st sh σ with
    | none => none
    | some (.inl (pc', ls', st', sh', σ', dc, ds)) => (match exec f d e pc' ls' st' sh' σ' with
      | none => none
      | some (r, sh2, σ2, c2, s2) => some (r, sh2, σ2, dc + c2, ds + s2))
    | some (.inr (.inl (y, as, rest))) => (match d with
      | 0 => none
      | d' + 1 => (match exec f d' y 0 (entL (eL y) as) [] sh σ with
        | none => none
        | some (r, sh1, σ1, c1, s1) => (match exec f (d' + 1) e (pc + 3) ls (r.toList ++ rest) sh1 σ1 with
          | none => none
          | some (r2, sh2, σ2, c2, s2) => some (r2, sh2, σ2, c1 + c2, s1 + s2))))
    | some (.inr (.inr r)) => some (r, sh, σ, 0, 0)
/-- the method comes to its end from here, making nothing, and then Q holds of its answer and the world -/
def Ex (d : Nat) (e : MEnt) (pc : Nat) (ls : Lcs) (st : List AV) (sh : List Kd) (σ : Sto) (Q : Option AV → List Kd → Sto → Prop) : Prop :=
  ∃ (f : Nat) (r : Option AV) (sh' : List Kd) (σ' : Sto), exec f d e pc ls st sh σ = some (r, sh', σ', 0, 0) ∧ Q r sh' σ'
theorem exec_mono {f : Nat} : ∀ {d : Nat} {e : MEnt} {pc : Nat} {ls : Lcs} {st : List AV} {sh : List Kd} {σ : Sto} {x : Fin5}, exec f d e pc ls st sh σ = some x → exec (f + 1) d e pc ls st sh σ = some x := by
  induction f with
  | zero => intro d e pc ls st sh σ x h; simp [exec] at h
  | succ f ih =>
    intro d e pc ls st sh σ x h
    rw [exec] at h
    rw [exec]
    cases hs : stp e pc ls st sh σ with
    | none => rw [hs] at h; cases h
    | some r =>
      rw [hs] at h
      rcases r with ⟨pc', ls', st', sh', σ', dc, ds⟩ | ⟨y, as, rest⟩ | r
      · dsimp only at h ⊢
        cases h1 : exec f d e pc' ls' st' sh' σ' with
        | none => rw [h1] at h; cases h
        | some z => rw [h1] at h; rw [ih h1]; exact h
      · cases d with
        | zero => cases h
        | succ d =>
          dsimp only at h ⊢
          cases h1 : exec f d y 0 (entL (eL y) as) [] sh σ with
          | none => rw [h1] at h; cases h
          | some z =>
            obtain ⟨r, sh1, σ1, c1, s1⟩ := z
            rw [h1] at h
            rw [ih h1]
            dsimp only at h ⊢
            cases h2 : exec f (d + 1) e (pc + 3) ls (r.toList ++ rest) sh1 σ1 with
            | none => rw [h2] at h; cases h
            | some z => rw [h2] at h; rw [ih h2]; exact h
      · exact h
theorem exec_le {f g d : Nat} {e : MEnt} {pc : Nat} {ls : Lcs} {st : List AV} {sh : List Kd} {σ : Sto} {x : Fin5} (hg : f ≤ g) (h : exec f d e pc ls st sh σ = some x) : exec g d e pc ls st sh σ = some x := by
  induction hg with
  | refl => exact h
  | step _ ih => exact exec_mono ih
section
variable {d : Nat} {e : MEnt} {pc : Nat} {ls : Lcs} {st : List AV} {sh : List Kd} {σ : Sto} {Q : Option AV → List Kd → Sto → Prop}
theorem Ex_nx {pc' : Nat} {ls' : Lcs} {st' : List AV} {sh' : List Kd} {σ' : Sto} (h : stp e pc ls st sh σ = some (.inl (pc', ls', st', sh', σ', 0, 0))) : Ex d e pc ls st sh σ Q = Ex d e pc' ls' st' sh' σ' Q := by
  apply propext
  constructor
  · rintro ⟨f, r, sh2, σ2, h1, h2⟩
    cases f with
    | zero => simp [exec] at h1
    | succ f =>
      rw [exec, h] at h1
      dsimp only at h1
      cases h3 : exec f d e pc' ls' st' sh' σ' with
      | none => rw [h3] at h1; cases h1
      | some z =>
        obtain ⟨r', sh3, σ3, c3, s3⟩ := z
        rw [h3] at h1
        simp only [Nat.zero_add, Option.some.injEq, Prod.mk.injEq] at h1
        obtain ⟨rfl, rfl, rfl, rfl, rfl⟩ := h1
        exact ⟨f, _, _, _, h3, h2⟩
  · rintro ⟨f, r, sh2, σ2, h1, h2⟩
    exact ⟨f + 1, r, sh2, σ2, by rw [exec, h]; dsimp only; rw [h1], h2⟩
theorem Ex_cl {y : MEnt} {as rest : List AV} (h : stp e pc ls st sh σ = some (.inr (.inl (y, as, rest)))) : Ex (d + 1) e pc ls st sh σ Q = Ex d y 0 (entL (eL y) as) [] sh σ (fun r sh' σ' => Ex (d + 1) e (pc + 3) ls (r.toList ++ rest) sh' σ' Q) := by
  apply propext
  constructor
  · rintro ⟨f, r, sh2, σ2, h1, h2⟩
    cases f with
    | zero => simp [exec] at h1
    | succ f =>
      rw [exec, h] at h1
      dsimp only at h1
      cases h3 : exec f d y 0 (entL (eL y) as) [] sh σ with
      | none => rw [h3] at h1; cases h1
      | some z =>
        obtain ⟨r', sh3, σ3, c3, s3⟩ := z
        rw [h3] at h1
        dsimp only at h1
        cases h4 : exec f (d + 1) e (pc + 3) ls (r'.toList ++ rest) sh3 σ3 with
        | none => rw [h4] at h1; cases h1
        | some z =>
          obtain ⟨r4, sh4, σ4, c4, s4⟩ := z
          rw [h4] at h1
          simp only [Option.some.injEq, Prod.mk.injEq] at h1
          obtain ⟨rfl, rfl, rfl, hc, hs⟩ := h1
          have hc3 : c3 = 0 := by omega
          have hc4 : c4 = 0 := by omega
          have hs3 : s3 = 0 := by omega
          have hs4 : s4 = 0 := by omega
          subst hc3 hc4 hs3 hs4
          exact ⟨f, _, _, _, h3, f, _, _, _, h4, h2⟩
  · rintro ⟨f, r, sh2, σ2, h1, g, r', sh3, σ3, h2, h3⟩
    refine ⟨max f g + 1, r', sh3, σ3, ?_, h3⟩
    rw [exec, h]
    dsimp only
    rw [exec_le (Nat.le_max_left f g) h1]
    dsimp only
    rw [exec_le (Nat.le_max_right f g) h2]
theorem Ex_rt {r : Option AV} (h : stp e pc ls st sh σ = some (.inr (.inr r))) : Ex d e pc ls st sh σ Q = Q r sh σ := by
  apply propext
  constructor
  · rintro ⟨f, r', sh2, σ2, h1, h2⟩
    cases f with
    | zero => simp [exec] at h1
    | succ f =>
      rw [exec, h] at h1
      simp only [Option.some.injEq, Prod.mk.injEq] at h1
      obtain ⟨rfl, rfl, rfl, -, -⟩ := h1
      exact h2
  · intro h2
    exact ⟨1, r, sh, σ, by rw [exec, h], h2⟩
theorem Ex_no (h : stp e pc ls st sh σ = none) : Ex d e pc ls st sh σ Q = False := by
  apply propext
  constructor
  · rintro ⟨f, r', sh2, σ2, h1, h2⟩
    cases f with
    | zero => simp [exec] at h1
    | succ f => rw [exec, h] at h1; cases h1
  · intro h2; exact h2.elim
theorem Ex_mono {Q' : Option AV → List Kd → Sto → Prop} (h : Ex d e pc ls st sh σ Q) (hq : ∀ r sh' σ', Q r sh' σ' → Q' r sh' σ') : Ex d e pc ls st sh σ Q' := by
  obtain ⟨f, r, sh', σ', h1, h2⟩ := h
  exact ⟨f, r, sh', σ', h1, hq _ _ _ h2⟩
theorem Ex_gd {b : Bool} {pc' : Nat} {ls' : Lcs} {st' : List AV} {sh' : List Kd} {σ' : Sto} (h : stp e pc ls st sh σ = gd b (nx pc' ls' st' sh' σ')) : Ex d e pc ls st sh σ Q = (b = true ∧ Ex d e pc' ls' st' sh' σ' Q) := by
  cases b with
  | false => rw [Ex_no (h.trans rfl)]; simp
  | true => rw [Ex_nx (h.trans rfl)]; simp
end
