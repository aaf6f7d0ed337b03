/-! THE INTERPRETER: a small machine over ids in place of addresses; its runs are tied to the Statement's machine once, in part 07 -/
abbrev Lo := List (Option Value)
/-- next id, cells made, slots made, what each id holds -/
abbrev Hp := Nat × Nat × Nat × (Nat → va_E)
abbrev Ot := (Option Value ⊕ String) × Hp
abbrev Ac := (Nat × Lo × List Value × Hp) ⊕ (Ot ⊕ (Nat × List Value × Nat × Lo × List Value × Hp))
def lget (L : Lo) (k : Nat) : Option Value := match L[k]? with | some (some v) => some v | _ => none
def ck : Option Value → Option Value
  | some (.long _) => none
  | some (.double _) => none
  | x => x
def lst1 : Nat → Lo → Value → Lo
  | _, [], _ => []
  | 0, _ :: L, v => some v :: L
  | k + 1, x :: L, v => (match k with | 0 => ck x | _ => x) :: lst1 k L v
def lst2 : Nat → Lo → Value → Lo
  | _, [], _ => []
  | _, [x], _ => [none]
  | 0, _ :: _ :: L, v => some v :: none :: L
  | k + 1, x :: y :: L, v => (match k with | 0 => ck x | _ => x) :: lst2 k (y :: L) v
def argL : List Value → Lo
  | [] => []
  | v :: vs => if v.category = 2 then some v :: none :: argL vs else some v :: argL vs
def entL (m : Nat) (vs : List Value) : Lo := argL vs ++ List.replicate (mMax m - (argL vs).length) none
def hset (h : Hp) (a : Nat) (e : va_E) : Hp := (h.1, h.2.1, h.2.2.1, fun j => if j = a then e else h.2.2.2 j)
def hnew (h : Hp) (e : va_E) (k : Nat) : Hp := (h.1 + 1, h.2.1 + 1, h.2.2.1 + k, fun j => if j = h.1 then e else h.2.2.2 j)
def hbump (h : Hp) : Hp := (h.1, h.2.1 + 1, h.2.2.1 + 6, h.2.2.2)
/-- a field of an object of class ci -/
def gf (h : Hp) (ci k a : Nat) : Option Value := match h.2.2.2 a with
  | .inr (c, fs) => if c = ci then fs[k]? else none
  | .inl _ => none
def fitV (ty : FieldType) (v : Value) : Bool := decide (narrow ty v = v) && fits ty v
def pf (h : Hp) (ci k a : Nat) (v : Value) : Option Hp := match h.2.2.2 a with
  | .inr (c, fs) => if c = ci ∧ k < fs.length ∧ fitV (yC ci k) v = true then some (hset h a (.inr (c, fs.set k v))) else none
  | .inl _ => none
def isO (h : Hp) (a ci : Nat) : Bool := match h.2.2.2 a with
  | .inr (c, _) => decide (c = ci)
  | .inl _ => false
def inB (i : Int32) (n : Nat) : Bool := !(decide (i < 0) || decide (n ≤ i.toNatClampNeg))
def gaI (h : Hp) (a : Nat) (i : Int32) : Option Int32 := match h.2.2.2 a with
  | .inl (t, n, .inl f) => if t = 0 ∧ inB i n = true then some (f i.toNatClampNeg) else none
  | _ => none
def paI (h : Hp) (a : Nat) (i : Int32) (x : Int32) : Option Hp := match h.2.2.2 a with
  | .inl (t, n, .inl f) => if t = 0 ∧ inB i n = true ∧ 3 ≤ a then some (hset h a (.inl (t, n, .inl (upd f i.toNatClampNeg x)))) else none
  | _ => none
def gaJ (h : Hp) (a : Nat) (i : Int32) : Option Int64 := match h.2.2.2 a with
  | .inl (t, n, .inr (.inl f)) => if t = 3 ∧ inB i n = true then some (f i.toNatClampNeg) else none
  | _ => none
def paJ (h : Hp) (a : Nat) (i : Int32) (x : Int64) : Option Hp := match h.2.2.2 a with
  | .inl (t, n, .inr (.inl f)) => if t = 3 ∧ inB i n = true then some (hset h a (.inl (t, n, .inr (.inl (vp_updL f i.toNatClampNeg x))))) else none
  | _ => none
def gaD (h : Hp) (a : Nat) (i : Int32) : Option UInt64 := match h.2.2.2 a with
  | .inl (t, n, .inr (.inr (.inr (.inl f)))) => if t = 4 ∧ inB i n = true then some (f i.toNatClampNeg) else none
  | _ => none
def paD (h : Hp) (a : Nat) (i : Int32) (x : UInt64) : Option Hp := match h.2.2.2 a with
  | .inl (t, n, .inr (.inr (.inr (.inl f)))) => if t = 4 ∧ inB i n = true then some (hset h a (.inl (t, n, .inr (.inr (.inr (.inl (vf_upd f i.toNatClampNeg x))))))) else none
  | _ => none
def gaR (h : Hp) (a : Nat) (i : Int32) : Option (Option Nat) := match h.2.2.2 a with
  | .inl (t, n, .inr (.inr (.inr (.inr f)))) => if (t = 1 ∨ t = 2) ∧ inB i n = true then some (f i.toNatClampNeg) else none
  | _ => none
/-- the class of the elements of an array of references -/
def elC (t : Nat) : Nat := if t = 1 then 7 else 6
def paR (h : Hp) (a : Nat) (i : Int32) (v : Nat) : Option Hp := match h.2.2.2 a with
  | .inl (t, n, .inr (.inr (.inr (.inr f)))) => if (t = 1 ∨ t = 2) ∧ inB i n = true ∧ isO h v (elC t) = true then some (hset h a (.inl (t, n, .inr (.inr (.inr (.inr (va_up f i.toNatClampNeg (some v)))))))) else none
  | _ => none
def alen (h : Hp) (a : Nat) : Option Nat := match h.2.2.2 a with
  | .inl (_, n, _) => some n
  | _ => none
def blank0 (t N : Nat) : va_E := match t with
  | 0 => .inl (0, N, .inl (fun _ => 0))
  | 3 => .inl (3, N, .inr (.inl (fun _ => 0)))
  | 4 => .inl (4, N, .inr (.inr (.inr (.inl (fun _ => 0)))))
  | t => .inl (t, N, .inr (.inr (.inr (.inr (fun _ => none)))))
def tyA : ArrayType → Option Nat
  | .int => some 0
  | _ => none
def blankO (ci : Nat) : va_E := .inr (ci, (List.range (NC ci)).map (fun k => defaultValue (yC ci k)))
/-- System.arraycopy of rows of ints, whole places -/
def cpI (h : Hp) (a0 : Nat) (sp : Int32) (a1 : Nat) (dp n : Int32) : Option Hp := match h.2.2.2 a0, h.2.2.2 a1 with
  | .inl (t0, n0, .inl f), .inl (t1, n1, .inl g) => if (t0 = 0 ∧ t1 = 0 ∧ 3 ≤ a0 ∧ 3 ≤ a1) ∧ (¬ sp < 0 ∧ ¬ dp < 0 ∧ ¬ n < 0) ∧ sp.toNatClampNeg + n.toNatClampNeg ≤ n0 ∧ dp.toNatClampNeg + n.toNatClampNeg ≤ n1 then some (hset h a1 (.inl (t1, n1, .inl (va_cpy f g sp.toNatClampNeg dp.toNatClampNeg n.toNatClampNeg)))) else none
  | _, _ => none
def go (pc : Nat) (L : Lo) (S : List Value) (h : Hp) : Option Ac := some (.inl (pc, L, S, h))
def tg (pc : Nat) (off : Int) : Option Nat := match (pc : Int) + off with
  | .ofNat t => some t
  | .negSucc _ => none
def br (c : Prop) [Decidable c] (pc : Nat) (off : Int) (L : Lo) (S : List Value) (h : Hp) : Option Ac := (tg pc off).bind fun t => if c then go t L S h else go (pc + 3) L S h
def cnd (op : ClassFile.Cond) (x y : Int32) : Bool := match op with
  | .eq => decide (x = y)
  | .ne => !decide (x = y)
  | .lt => decide (x < y)
  | .ge => decide (y ≤ x)
  | .gt => decide (y < x)
  | .le => decide (x ≤ y)
def csum (S : List Value) : Nat := (S.map fun v => v.category).sum
def isInit (m : Nat) : Bool := decide ((mY m).name = "<init>")
def finF (ci k : Nat) : Bool := (TC ci k).2.2.2
def call (m pc : Nat) (kind c : Nat) (L : Lo) (S : List Value) (h : Hp) : Option Ac :=
  if mF c + 1 ≤ mF m ∧ 19 + mMax c + mL c ≤ mL m ∧ mNa c ≤ S.length ∧ csum (S.drop (mNa c)) ≤ 8 ∧ (argL (S.take (mNa c)).reverse).length ≤ mMax c then
    match kind, (S.take (mNa c)).reverse with
    | 0, .ref b :: As => if isO h b (mOwn c) = true then some (.inr (.inr (c, .ref b :: As, pc + 3, L, S.drop (mNa c), h))) else none
    | 1, As => some (.inr (.inr (c, As, pc + 3, L, S.drop (mNa c), h)))
    | 2, .ref b :: As => some (.inr (.inr (c, .ref b :: As, pc + 3, L, S.drop (mNa c), h)))
    | 3, .ref b :: As => some (.inr (.inr (c, .ref b :: As, pc + 3, L, S.drop (mNa c), h)))
    | _, _ => none
  else none
def thrL : List (Nat × Nat × String × Nat × Nat × Nat × Bool × String) → Nat → Nat → Option (String × Nat × Nat × Nat × Bool × String)
  | [], _, _ => none
  | e :: l, m, pc => if e.1 = m ∧ e.2.1 = pc then some e.2.2 else thrL l m pc
def swi (m pc : Nat) (i : Instr) (x : Int32) (L : Lo) (S : List Value) (h : Hp) : Option Ac := match i with
  | .tableswitch d lo hi offs => if x.toInt < lo ∨ hi < x.toInt then (tg pc d).bind fun t => go t L S h else (offs[(x.toInt - lo).toNat]?).bind fun o => (tg pc o).bind fun t => go t L S h
  | .lookupswitch d ps => if (ps.toList.zip (ps.toList.drop 1)).all (fun (a, next) => a.1 < next.1) = true then (tg pc (Op.lookupswitch.offset ps.toList d x.toInt)).bind fun t => go t L S h else none
  | _ => none
/-- what one instruction does -/
def ins (m pc n : Nat) (i : Instr) (L : Lo) (S : List Value) (h : Hp) : Option Ac := match i with
  | .aload k => match lget L k with | some (.ref a) => go (pc + 2) L (.ref a :: S) h | _ => none
  | .aload_n k => match lget L k.val with | some (.ref a) => go (pc + 1) L (.ref a :: S) h | _ => none
  | .iload k => match lget L k with | some (.int a) => go (pc + 2) L (.int a :: S) h | _ => none
  | .iload_n k => match lget L k.val with | some (.int a) => go (pc + 1) L (.int a :: S) h | _ => none
  | .lload_n k => match lget L k.val with | some (.long a) => go (pc + 1) L (.long a :: S) h | _ => none
  | .dload k => match lget L k with | some (.double a) => go (pc + 2) L (.double a :: S) h | _ => none
  | .istore k => match S with | .int x :: S => if k < L.length then go (pc + 2) (lst1 k L (.int x)) S h else none | _ => none
  | .istore_n k => match S with | .int x :: S => if k.val < L.length then go (pc + 1) (lst1 k.val L (.int x)) S h else none | _ => none
  | .astore k => match S with | .ref x :: S => if k < L.length then go (pc + 2) (lst1 k L (.ref x)) S h else none | _ => none
  | .astore_n k => match S with | .ref x :: S => if k.val < L.length then go (pc + 1) (lst1 k.val L (.ref x)) S h else none | _ => none
  | .lstore_n k => match S with | .long x :: S => if k.val + 1 < L.length then go (pc + 1) (lst2 k.val L (.long x)) S h else none | _ => none
  | .dstore k => match S with | .double x :: S => if k + 1 < L.length then go (pc + 2) (lst2 k L (.double x)) S h else none | _ => none
  | .iinc k d => match lget L k with | some (.int x) => go (pc + 3) (L.set k (some (.int (x + Int32.ofInt d)))) S h | _ => none
  | .iconst d => go (pc + 1) L (.int (Int32.ofInt d) :: S) h
  | .bipush d => go (pc + 2) L (.int (Int8.ofInt d).toInt32 :: S) h
  | .sipush d => go (pc + 3) L (.int (Int16.ofInt d).toInt32 :: S) h
  | .dconst d => if d = 0 then go (pc + 1) L (.double FP.dconst0 :: S) h else if d = 1 then go (pc + 1) L (.double FP.dconst1 :: S) h else none
  | .ldc2_w k => match lk2 conT (mOwn m) k with | some (.long v) => go (pc + 3) L (.long v :: S) h | some (.double v) => go (pc + 3) L (.double v :: S) h | _ => none
  | .ldc k => match lk2 conT (mOwn m) k with | some (.int v) => go (pc + 2) L (.int v :: S) h | _ => none
  | .dup => match S with | v :: S => if v.category = 1 then go (pc + 1) L (v :: v :: S) h else none | _ => none
  | .dup2 => match S with | v :: w :: S => if v.category = 1 ∧ w.category = 1 then go (pc + 1) L (v :: w :: v :: w :: S) h else none | _ => none
  | .pop => match S with | v :: S => if v.category = 1 then go (pc + 1) L S h else none | _ => none
  | .iadd => match S with | .int y :: .int x :: S => go (pc + 1) L (.int (x + y) :: S) h | _ => none
  | .isub => match S with | .int y :: .int x :: S => go (pc + 1) L (.int (x - y) :: S) h | _ => none
  | .imul => match S with | .int y :: .int x :: S => go (pc + 1) L (.int (x * y) :: S) h | _ => none
  | .idiv => match S with | .int y :: .int x :: S => if y = 0 then none else go (pc + 1) L (.int (x / y) :: S) h | _ => none
  | .irem => match S with | .int y :: .int x :: S => if y = 0 then none else go (pc + 1) L (.int (x - x / y * y) :: S) h | _ => none
  | .ineg => match S with | .int x :: S => go (pc + 1) L (.int (-x) :: S) h | _ => none
  | .iand => match S with | .int y :: .int x :: S => go (pc + 1) L (.int (x &&& y) :: S) h | _ => none
  | .ior => match S with | .int y :: .int x :: S => go (pc + 1) L (.int (x ||| y) :: S) h | _ => none
  | .ixor => match S with | .int y :: .int x :: S => go (pc + 1) L (.int (x ^^^ y) :: S) h | _ => none
  | .ishl => match S with | .int y :: .int x :: S => go (pc + 1) L (.int (x <<< (y &&& 31)) :: S) h | _ => none
  | .ishr => match S with | .int y :: .int x :: S => go (pc + 1) L (.int (x >>> (y &&& 31)) :: S) h | _ => none
  | .ladd => match S with | .long y :: .long x :: S => go (pc + 1) L (.long (x + y) :: S) h | _ => none
  | .lmul => match S with | .long y :: .long x :: S => go (pc + 1) L (.long (x * y) :: S) h | _ => none
  | .i2l => match S with | .int x :: S => go (pc + 1) L (.long x.toInt64 :: S) h | _ => none
  | .i2d => match S with | .int x :: S => go (pc + 1) L (.double (FP.i2d x) :: S) h | _ => none
  | .ddiv => match S with | .double y :: .double x :: S => if (FP.ddiv x y) &&& 0x7fffffffffffffff ≤ 0x7ff0000000000000 then go (pc + 1) L (.double (FP.ddiv x y) :: S) h else none | _ => none
  | .dadd => match S with | .double y :: .double x :: S => if (FP.dadd x y) &&& 0x7fffffffffffffff ≤ 0x7ff0000000000000 then go (pc + 1) L (.double (FP.dadd x y) :: S) h else none | _ => none
  | .lcmp => match S with | .long y :: .long x :: S => go (pc + 1) L (.int (lg_cmp x y) :: S) h | _ => none
  | .dcmp op => match S with | .double y :: .double x :: S => go (pc + 1) L (.int (Op.cmpValue (FP.dcmp x y) op) :: S) h | _ => none
  | .ifCond op off => match S with | .int x :: S => br (cnd op x 0 = true) pc off L S h | _ => none
  | .if_icmp op off => match S with | .int y :: .int x :: S => br (cnd op x y = true) pc off L S h | _ => none
  | .goto off => (tg pc off).bind fun t => go t L S h
  | .tableswitch _ _ _ _ => match S with | .int x :: S => swi m pc i x L S h | _ => none
  | .lookupswitch _ _ => match S with | .int x :: S => swi m pc i x L S h | _ => none
  | .getfield k => match S with | .ref a :: S => (lk2 fldT (mOwn m) k).bind fun r => (gf h r.1 r.2 a).bind fun v => go (pc + 3) L (v :: S) h | _ => none
  | .putfield k => match S with | v :: .ref a :: S => (lk2 fldT (mOwn m) k).bind fun r => if finF r.1 r.2 = false ∨ (isInit m = true ∧ (TC r.1 r.2).1 = ownN (mOwn m)) then (pf h r.1 r.2 a v).bind fun h1 => go (pc + 3) L S h1 else none | _ => none
  | .getstatic k => (lk2 staT (mOwn m) k).bind fun a => go (pc + 3) L (.ref a :: S) h
  | .iaload => match S with | .int j :: .ref a :: S => (gaI h a j).bind fun v => go (pc + 1) L (.int v :: S) h | _ => none
  | .iastore => match S with | .int x :: .int j :: .ref a :: S => (paI h a j x).bind fun h1 => go (pc + 1) L S h1 | _ => none
  | .aaload => match S with | .int j :: .ref a :: S => (gaR h a j).bind fun v => go (pc + 1) L (va_rf v :: S) h | _ => none
  | .aastore => match S with | .ref x :: .int j :: .ref a :: S => (paR h a j x).bind fun h1 => go (pc + 1) L S h1 | _ => none
  | .arraylength => match S with | .ref a :: S => (alen h a).bind fun N => go (pc + 1) L (.int (Int32.ofNat N) :: S) h | _ => none
  | .newarray t => match S with | .int N :: S => (tyA t).bind fun k => if ¬ N < 0 ∧ N.toNatClampNeg ≤ 60000 then go (pc + 2) L (.ref h.1 :: S) (hnew h (blank0 k N.toNatClampNeg) N.toNatClampNeg) else none | _ => none
  | .anewarray k => match S with | .int N :: S => (lk2 arrT (mOwn m) k).bind fun t => if ¬ N < 0 ∧ N.toNatClampNeg ≤ 60000 then go (pc + 3) L (.ref h.1 :: S) (hnew h (blank0 t N.toNatClampNeg) N.toNatClampNeg) else none | _ => none
  | .new k => match lk2 clnT (mOwn m) k with
    | some ci => go (pc + 3) L (.ref h.1 :: S) (hnew h (blankO ci) (NC ci))
    | none => match thrL thrT m pc with
      | some r => if csum S = 0 ∧ 6 ≤ mF m ∧ 82 ≤ mL m then some (.inr (.inl (.inr r.1, hbump h))) else none
      | none => none
  | .invokevirtual k => (lk2 calT (mOwn m) k).bind fun r => if r.1 = 0 then call m pc 0 r.2 L S h else none
  | .invokestatic k => (lk2 calT (mOwn m) k).bind fun r => if r.1 = 1 then call m pc 1 r.2 L S h else if r.1 = 8 then (match S with
      | .int z :: .int dp :: .ref a1 :: .int sp :: .ref a0 :: S => if 1 ≤ mF m ∧ csum S + 18 ≤ mL m then (cpI h a0 sp a1 dp z).bind fun h1 => go (pc + 3) L S h1 else none
      | _ => none) else none
  | .invokespecial k => (lk2 calT (mOwn m) k).bind fun r => if r.1 = 2 ∨ r.1 = 3 then call m pc r.1 r.2 L S h else if r.1 = 9 then (match S with
      | .ref _ :: S => if 1 ≤ mF m ∧ csum S + 12 ≤ mL m then go (pc + 3) L S h else none
      | _ => none) else none
  | .ireturn => match S with | [.int x] => (mRet m).bind fun ty => if narrow ty (.int x) = .int x then some (.inr (.inl (.inl (some (.int x)), h))) else none | _ => none
  | .lreturn => match S with | [.long x] => if mRet m = some .long then some (.inr (.inl (.inl (some (.long x)), h))) else none | _ => none
  | .dreturn => match S with | [.double x] => if mRet m = some .double then some (.inr (.inl (.inl (some (.double x)), h))) else none | _ => none
  | .return_ => match S with | [] => if mRet m = none then some (.inr (.inl (.inl none, h))) else none | _ => none
  | _ => none
def stp (m pc : Nat) (L : Lo) (S : List Value) (h : Hp) : Option Ac := (lk (cdOf m) pc).bind fun r => ins m pc r.2 r.1 L S h
/-- where an exception thrown by a call at pc is caught: the row of the table, the handler's place behind its astore -/
def catN (k : Nat) : String := if k = 15 then "java/lang/IllegalArgumentException" else if k = 21 then "java/lang/IndexOutOfBoundsException" else if k = 23 then "java/lang/IllegalStateException" else ""
def hnd : List (Nat × Nat × Nat × Nat) → Nat → String → Option Nat
  | [], _, _ => none
  | e :: l, pc, E => if e.1 ≤ pc ∧ pc < e.2.1 ∧ catN e.2.2.2 = E then some e.2.2.1 else hnd l pc E
def afterH (m hp : Nat) (L : Lo) : Option (Nat × Lo) := match lk (cdOf m) hp with
  | some (.astore k, _) => if k < L.length then some (hp + 2, (lst1 k L (.int 0)).set k none) else none
  | some (.astore_n k, _) => if k.val < L.length then some (hp + 1, (lst1 k.val L (.int 0)).set k.val none) else none
  | _ => none
def run : Nat → Nat → Nat → Lo → List Value → Hp → Option Ot
  | 0, _, _, _, _, _ => none
  | n + 1, m, pc, L, S, h => (stp m pc L S h).bind fun a => match a with
    | .inl (pc', L', S', h') => run n m pc' L' S' h'
    | .inr (.inl o) => some o
    | .inr (.inr (c, As, pc', L', S', h')) => (run n c 0 (entL c As) [] h').bind fun o => match o with
      | (.inl v, h1) => run n m pc' L' (v.toList ++ S') h1
      | (.inr E, h1) => match hnd (mHh m) pc E with
        | none => some (.inr E, h1)
        | some hp => (afterH m hp L').bind fun q => run n m q.1 q.2 [] h1
theorem run_mono : ∀ (n m pc : Nat) (L : Lo) (S : List Value) (h : Hp) (o : Ot), run n m pc L S h = some o → run (n + 1) m pc L S h = some o := by
  intro n
  induction n with
  | zero => intro m pc L S h o hr; cases hr
  | succ n ih =>
    intro m pc L S h o hr
    unfold run at hr ⊢
    cases hs : stp m pc L S h with
    | none => rw [hs] at hr; cases hr
    | some a =>
      rw [hs] at hr
      simp only [Option.bind_some] at hr ⊢
      rcases a with ⟨pc', L', S', h'⟩ | o1 | ⟨c, As, pc', L', S', h'⟩
      · exact ih _ _ _ _ _ _ hr
      · exact hr
      · simp only at hr ⊢
        cases h1 : run n c 0 (entL c As) [] h' with
        | none => rw [h1] at hr; cases hr
        | some o1 =>
          rw [ih _ _ _ _ _ _ h1]
          rw [h1] at hr
          simp only [Option.bind_some] at hr ⊢
          rcases o1 with ⟨v | E, h1⟩
          · exact ih _ _ _ _ _ _ hr
          · simp only at hr ⊢
            cases h2 : hnd (mHh m) pc E with
            | none => rw [h2] at hr; exact hr
            | some hp =>
              rw [h2] at hr
              simp only at hr ⊢
              cases h3 : afterH m hp L' with
              | none => rw [h3] at hr; cases hr
              | some q =>
                rw [h3] at hr
                exact ih _ _ _ _ _ _ hr
theorem run_le {n k m pc : Nat} {L : Lo} {S : List Value} {h : Hp} {o : Ot} (hk : n ≤ k) (hr : run n m pc L S h = some o) : run k m pc L S h = some o := by
  induction hk with
  | refl => exact hr
  | step _ ih => exact run_mono _ _ _ _ _ _ _ ih
/-- the run, whatever its length -/
noncomputable def Run (m pc : Nat) (L : Lo) (S : List Value) (h : Hp) : Option Ot := by
  classical exact if hx : ∃ n o, run n m pc L S h = some o then some hx.choose_spec.choose else none
theorem Run_of {n m pc : Nat} {L : Lo} {S : List Value} {h : Hp} {o : Ot} (hr : run n m pc L S h = some o) : Run m pc L S h = some o := by
  have hx : ∃ n o, run n m pc L S h = some o := ⟨n, o, hr⟩
  unfold Run
  rw [dif_pos hx]
  have h1 := hx.choose_spec.choose_spec
  have h2 := run_le (Nat.le_max_left hx.choose n) h1
  have h3 := run_le (Nat.le_max_right hx.choose n) hr
  rw [h2] at h3
  exact h3
theorem run_of {m pc : Nat} {L : Lo} {S : List Value} {h : Hp} {o : Ot} (hr : Run m pc L S h = some o) : ∃ n, run n m pc L S h = some o := by
  unfold Run at hr
  split at hr
  · next hx =>
    have h1 := hx.choose_spec.choose_spec
    rw [Option.some.inj hr] at h1
    exact ⟨_, h1⟩
  · cases hr
/-- behind a call -/
noncomputable def aft (m pc pc' : Nat) (L : Lo) (S : List Value) (o : Ot) : Option Ot := match o with
  | (.inl v, h1) => Run m pc' L (v.toList ++ S) h1
  | (.inr E, h1) => match hnd (mHh m) pc E with
    | none => some (.inr E, h1)
    | some hp => (afterH m hp L).bind fun q => Run m q.1 q.2 [] h1
noncomputable def act (m pc : Nat) (a : Ac) : Option Ot := match a with
  | .inl (pc', L', S', h') => Run m pc' L' S' h'
  | .inr (.inl o) => some o
  | .inr (.inr (c, As, pc', L', S', h')) => (Run c 0 (entL c As) [] h').bind fun o => aft m pc pc' L' S' o
theorem opt_ext {α : Type} {a b : Option α} (h : ∀ x, a = some x ↔ b = some x) : a = b := by
  cases a with
  | none =>
    cases b with
    | none => rfl
    | some y => exact absurd ((h y).mpr rfl) (by simp)
  | some x => exact ((h x).mp rfl).symm
theorem Run_eq (m pc : Nat) (L : Lo) (S : List Value) (h : Hp) : Run m pc L S h = (stp m pc L S h).bind (act m pc) := by
  apply opt_ext
  intro o
  constructor
  · intro hr
    obtain ⟨n, hn⟩ := run_of hr
    cases n with
    | zero => cases hn
    | succ n =>
      unfold run at hn
      cases hs : stp m pc L S h with
      | none => rw [hs] at hn; cases hn
      | some a =>
        rw [hs] at hn
        simp only [Option.bind_some] at hn ⊢
        rcases a with ⟨pc', L', S', h'⟩ | o1 | ⟨c, As, pc', L', S', h'⟩
        · exact Run_of hn
        · exact hn
        · simp only [act] at hn ⊢
          cases h1 : run n c 0 (entL c As) [] h' with
          | none => rw [h1] at hn; cases hn
          | some o1 =>
            rw [Run_of h1]
            rw [h1] at hn
            simp only [Option.bind_some] at hn ⊢
            rcases o1 with ⟨v | E, h1⟩
            · exact Run_of hn
            · simp only [aft] at hn ⊢
              cases h2 : hnd (mHh m) pc E with
              | none => rw [h2] at hn; exact hn
              | some hp =>
                rw [h2] at hn
                simp only at hn ⊢
                cases h3 : afterH m hp L' with
                | none => rw [h3] at hn; cases hn
                | some q =>
                  rw [h3] at hn
                  exact Run_of hn
  · intro hr
    cases hs : stp m pc L S h with
    | none => rw [hs] at hr; cases hr
    | some a =>
      rw [hs] at hr
      simp only [Option.bind_some] at hr
      rcases a with ⟨pc', L', S', h'⟩ | o1 | ⟨c, As, pc', L', S', h'⟩
      · simp only [act] at hr
        obtain ⟨n, hn⟩ := run_of hr
        exact Run_of (n := n + 1) (by unfold run; rw [hs]; exact hn)
      · exact Run_of (n := 1) (by unfold run; rw [hs]; exact hr)
      · simp only [act] at hr
        cases h1 : Run c 0 (entL c As) [] h' with
        | none => rw [h1] at hr; cases hr
        | some o1 =>
          rw [h1] at hr
          obtain ⟨n1, hn1⟩ := run_of h1
          simp only [Option.bind_some] at hr
          rcases o1 with ⟨v | E, h1⟩
          · simp only [aft] at hr
            obtain ⟨n2, hn2⟩ := run_of hr
            refine Run_of (n := max n1 n2 + 1) ?_
            unfold run
            rw [hs]
            simp only [Option.bind_some]
            rw [run_le (Nat.le_max_left n1 n2) hn1]
            exact run_le (Nat.le_max_right n1 n2) hn2
          · simp only [aft] at hr
            cases h2 : hnd (mHh m) pc E with
            | none =>
              rw [h2] at hr
              refine Run_of (n := n1 + 1) ?_
              unfold run
              rw [hs]
              simp only [Option.bind_some]
              rw [hn1]
              simp only [Option.bind_some]
              rw [h2]
              exact hr
            | some hp =>
              rw [h2] at hr
              simp only at hr
              cases h3 : afterH m hp L' with
              | none => rw [h3] at hr; cases hr
              | some q =>
                rw [h3] at hr
                simp only [Option.bind_some] at hr
                obtain ⟨n2, hn2⟩ := run_of hr
                refine Run_of (n := max n1 n2 + 1) ?_
                unfold run
                rw [hs]
                simp only [Option.bind_some]
                rw [run_le (Nat.le_max_left n1 n2) hn1]
                simp only [Option.bind_some]
                rw [h2]
                simp only
                rw [h3]
                exact run_le (Nat.le_max_right n1 n2) hn2
