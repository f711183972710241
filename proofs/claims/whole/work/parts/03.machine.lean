/-! ===== a small machine over a world of numbered cells: what it does, the bytecode does (part 04) ===== -/
/-- an instruction with what its links say: instruction, length, a, b, kind, a number -/
abbrev RI : Type := Instr × Nat × Nat × Nat × Nat × Int32
/-- the world: each cell's kind (0 to 11 an object of that class, 12 byte[], 13 int[], 14 long[], 15 boolean[], 16 Helper[]) and size; ints, longs, references by cell and place -/
abbrev Sto : Type := List (Nat × Nat) × (Nat → Nat → Int32) × (Nat → Nat → Int64) × (Nat → Nat → Option Nat)
def up2 {α : Type} (f : Nat → Nat → α) (k i : Nat) (v : α) : Nat → Nat → α := va_up f k (va_up (f k) i v)
abbrev CF : Type := Nat × List (Nat × Value) × List Value × Sto × Nat × Nat
def lget : List (Nat × Value) → Nat → Option Value
  | [], _ => none
  | (j, v) :: t, i => match Nat.beq j i with
    | true => some v
    | false => lget t i
def lput1 (lv : List (Nat × Value)) (i : Nat) (v : Value) : List (Nat × Value) := (i, v) :: lv.filter (fun q => !(q.1 == i) && !(q.1 + 1 == i && q.2.category == 2))
def lput2 (lv : List (Nat × Value)) (i : Nat) (v : Value) : List (Nat × Value) := (i, v) :: lv.filter (fun q => !(q.1 == i) && (!(q.1 == i + 1) && !(q.1 + 1 == i && q.2.category == 2)))
def cats (st : List Value) : Nat := (st.map fun v => v.category).sum
/-- the condition of a branch, as the kit's rows have it -/
def cmpC (c : Jvm.ClassFile.Cond) (x y : Int32) : Prop := match c with
  | .eq => x = y
  | .ne => ¬ x = y
  | .lt => x < y
  | .ge => y ≤ x
  | .gt => y < x
  | .le => x ≤ y
/-- where a switch goes -/
def swT (ins : Instr) (pc : Nat) (x : Int) : Option Int := match ins with
  | .tableswitch d lo hi offs => if x < lo ∨ hi < x then some ((pc : Int) + d) else (offs[(x - lo).toNat]?).map (fun o => (pc : Int) + o)
  | .lookupswitch d ps => some ((pc : Int) + Op.lookupswitch.offset ps.toList d x)
  | _ => none
def fvG (S : Sto) (kd k f : Nat) : Value := match kd with
  | 0 => .int (S.2.1 k f)
  | 1 => .long (S.2.2.1 k f)
  | _ => va_rf (S.2.2.2 k f)
def okO (S : Sto) (k c : Nat) : Prop := S.1[k]? = some (c, NN c)
def okA (S : Sto) (k c : Nat) (i : Int32) : Prop := ∃ n, S.1[k]? = some (c, n) ∧ vp_in i n
def zfit (c f : Nat) (x : Int32) : Prop := narrow (tyN c f) (.int x) = .int x ∧ fits (tyN c f) (.int x) = true
def setI (S : Sto) (k i : Nat) (x : Int32) : Sto := (S.1, up2 S.2.1 k i x, S.2.2.1, S.2.2.2)
def setL (S : Sto) (k i : Nat) (x : Int64) : Sto := (S.1, S.2.1, up2 S.2.2.1 k i x, S.2.2.2)
def setR (S : Sto) (k i : Nat) (x : Option Nat) : Sto := (S.1, S.2.1, S.2.2.1, up2 S.2.2.2 k i x)
/-- a new cell of kind c and size n -/
def newC (S : Sto) (c n : Nat) : Sto := (S.1 ++ [(c, n)], va_up S.2.1 S.1.length (fun _ => 0), va_up S.2.2.1 S.1.length (fun _ => 0), va_up S.2.2.2 S.1.length (fun _ => none))
/-- one instruction that goes on to the next: what comes, and what must hold for it -/
def sx (nL : Nat) (Z : Option (Nat × (Nat → Int32))) (cp : Nat × Nat) (q : RI) (pc : Nat) (lv : List (Nat × Value)) (st : List Value) (S : Sto) (kc ks : Nat) : Option (CF × Prop) :=
  let v := q.2.2.2.2.2
  let a := q.2.2.1
  let b := q.2.2.2.1
  match q.1 with
  | .iconst _ => some ((pc + 1, lv, .int v :: st, S, kc, ks), True)
  | .bipush _ => some ((pc + 2, lv, .int v :: st, S, kc, ks), True)
  | .sipush _ => some ((pc + 3, lv, .int v :: st, S, kc, ks), True)
  | .ldc _ => some ((pc + 2, lv, .int v :: st, S, kc, ks), True)
  | .lconst _ => some ((pc + 1, lv, .long v.toInt64 :: st, S, kc, ks), True)
  | .ldc2_w _ => some ((pc + 3, lv, .long v.toInt64 :: st, S, kc, ks), True)
  | .iload_n k => match lget lv k with
    | some (.int x) => some ((pc + 1, lv, .int x :: st, S, kc, ks), True)
    | _ => none
  | .iload k => match lget lv k with
    | some (.int x) => some ((pc + 2, lv, .int x :: st, S, kc, ks), True)
    | _ => none
  | .lload_n k => match lget lv k with
    | some (.long x) => some ((pc + 1, lv, .long x :: st, S, kc, ks), True)
    | _ => none
  | .aload_n k => match lget lv k with
    | some (.ref x) => some ((pc + 1, lv, .ref x :: st, S, kc, ks), True)
    | some (.retAddr x) => some ((pc + 1, lv, .retAddr x :: st, S, kc, ks), True)
    | _ => none
  | .aload k => match lget lv k with
    | some (.ref x) => some ((pc + 2, lv, .ref x :: st, S, kc, ks), True)
    | _ => none
  | .istore_n k => match st with
    | .int x :: r => some ((pc + 1, lput1 lv k (.int x), r, S, kc, ks), (k : Nat) < nL)
    | _ => none
  | .istore k => match st with
    | .int x :: r => some ((pc + 2, lput1 lv k (.int x), r, S, kc, ks), k < nL)
    | _ => none
  | .lstore_n k => match st with
    | .long x :: r => some ((pc + 1, lput2 lv k (.long x), r, S, kc, ks), (k : Nat) + 1 < nL)
    | _ => none
  | .astore_n k => match st with
    | .ref x :: r => some ((pc + 1, lput1 lv k (.ref x), r, S, kc, ks), (k : Nat) < nL)
    | _ => none
  | .astore k => match st with
    | .ref x :: r => some ((pc + 2, lput1 lv k (.ref x), r, S, kc, ks), k < nL)
    | _ => none
  | .iinc i _ => match lget lv i with
    | some (.int x) => some ((pc + 3, lput1 lv i (.int (x + v)), st, S, kc, ks), i < nL)
    | _ => none
  | .iadd => match st with
    | .int y :: .int x :: r => some ((pc + 1, lv, .int (x + y) :: r, S, kc, ks), True)
    | _ => none
  | .isub => match st with
    | .int y :: .int x :: r => some ((pc + 1, lv, .int (x - y) :: r, S, kc, ks), True)
    | _ => none
  | .imul => match st with
    | .int y :: .int x :: r => some ((pc + 1, lv, .int (x * y) :: r, S, kc, ks), True)
    | _ => none
  | .iand => match st with
    | .int y :: .int x :: r => some ((pc + 1, lv, .int (x &&& y) :: r, S, kc, ks), True)
    | _ => none
  | .ior => match st with
    | .int y :: .int x :: r => some ((pc + 1, lv, .int (x ||| y) :: r, S, kc, ks), True)
    | _ => none
  | .ishl => match st with
    | .int y :: .int x :: r => some ((pc + 1, lv, .int (x <<< (y &&& 31)) :: r, S, kc, ks), True)
    | _ => none
  | .ishr => match st with
    | .int y :: .int x :: r => some ((pc + 1, lv, .int (x >>> (y &&& 31)) :: r, S, kc, ks), True)
    | _ => none
  | .iushr => match st with
    | .int y :: .int x :: r => some ((pc + 1, lv, .int (x.toUInt32 >>> (y.toUInt32 &&& Int32.toUInt32 31)).toInt32 :: r, S, kc, ks), True)
    | _ => none
  | .idiv => match st with
    | .int y :: .int x :: r => some ((pc + 1, lv, .int (x / y) :: r, S, kc, ks), ¬ y = 0)
    | _ => none
  | .irem => match st with
    | .int y :: .int x :: r => some ((pc + 1, lv, .int (x - x / y * y) :: r, S, kc, ks), ¬ y = 0)
    | _ => none
  | .ladd => match st with
    | .long y :: .long x :: r => some ((pc + 1, lv, .long (x + y) :: r, S, kc, ks), True)
    | _ => none
  | .lmul => match st with
    | .long y :: .long x :: r => some ((pc + 1, lv, .long (x * y) :: r, S, kc, ks), True)
    | _ => none
  | .lcmp => match st with
    | .long y :: .long x :: r => some ((pc + 1, lv, .int (lg_cmp x y) :: r, S, kc, ks), True)
    | _ => none
  | .i2l => match st with
    | .int x :: r => some ((pc + 1, lv, .long x.toInt64 :: r, S, kc, ks), True)
    | _ => none
  | .l2i => match st with
    | .long x :: r => some ((pc + 1, lv, .int x.toInt32 :: r, S, kc, ks), True)
    | _ => none
  | .i2b => match st with
    | .int x :: r => some ((pc + 1, lv, .int x.toInt8.toInt32 :: r, S, kc, ks), True)
    | _ => none
  | .dup => match st with
    | x :: r => some ((pc + 1, lv, x :: x :: r, S, kc, ks), x.category = 1)
    | _ => none
  | .dup2 => match st with
    | x :: y :: r => some ((pc + 1, lv, x :: y :: x :: y :: r, S, kc, ks), x.category = 1 ∧ y.category = 1)
    | _ => none
  | .pop => match st with
    | x :: r => some ((pc + 1, lv, r, S, kc, ks), x.category = 1)
    | _ => none
  | .getfield _ => match st with
    | .ref k :: r => some ((pc + 3, lv, fvG S q.2.2.2.2.1 k b :: r, S, kc, ks), okO S k a)
    | _ => none
  | .putfield _ => match q.2.2.2.2.1, st with
    | 0, .int x :: .ref k :: r => some ((pc + 3, lv, r, setI S k b x, kc, ks), okO S k a ∧ zfit a b x)
    | 1, .long x :: .ref k :: r => some ((pc + 3, lv, r, setL S k b x, kc, ks), okO S k a)
    | 2, .ref x :: .ref k :: r => some ((pc + 3, lv, r, setR S k b (some x), kc, ks), okO S k a)
    | _, _ => none
  | .iaload => match a, st with
    | 0, .int i :: .ref k :: r => some ((pc + 1, lv, .int (S.2.1 k i.toNatClampNeg) :: r, S, kc, ks), okA S k 13 i)
    | 1, .int i :: .retAddr _ :: r => match Z with
      | some (n, xs) => some ((pc + 1, lv, .int (xs i.toNatClampNeg) :: r, S, kc, ks), vp_in i n)
      | none => none
    | _, _ => none
  | .baload => match st with
    | .int i :: .ref k :: r => some ((pc + 1, lv, .int (S.2.1 k i.toNatClampNeg) :: r, S, kc, ks), okA S k a i)
    | _ => none
  | .laload => match st with
    | .int i :: .ref k :: r => some ((pc + 1, lv, .long (S.2.2.1 k i.toNatClampNeg) :: r, S, kc, ks), okA S k 14 i)
    | _ => none
  | .aaload => match st with
    | .int i :: .ref k :: r => some ((pc + 1, lv, va_rf (S.2.2.2 k i.toNatClampNeg) :: r, S, kc, ks), okA S k 16 i)
    | _ => none
  | .iastore => match st with
    | .int x :: .int i :: .ref k :: r => some ((pc + 1, lv, r, setI S k i.toNatClampNeg x, kc, ks), okA S k 13 i)
    | _ => none
  | .bastore => match a, st with
    | 12, .int x :: .int i :: .ref k :: r => some ((pc + 1, lv, r, setI S k i.toNatClampNeg (vp_nar .byte x), kc, ks), okA S k 12 i)
    | 15, .int x :: .int i :: .ref k :: r => some ((pc + 1, lv, r, setI S k i.toNatClampNeg (vp_nar .boolean x), kc, ks), okA S k 15 i)
    | _, _ => none
  | .lastore => match st with
    | .long x :: .int i :: .ref k :: r => some ((pc + 1, lv, r, setL S k i.toNatClampNeg x, kc, ks), okA S k 14 i)
    | _ => none
  | .aastore => match st with
    | .ref x :: .int i :: .ref k :: r => some ((pc + 1, lv, r, setR S k i.toNatClampNeg (some x), kc, ks), okA S k 16 i ∧ okO S x 2)
    | _ => none
  | .arraylength => match a, st with
    | 0, .ref k :: r => match S.1[k]? with
      | some (c, n) => some ((pc + 1, lv, .int (Int32.ofNat n) :: r, S, kc, ks), c = 13)
      | none => none
    | 1, .retAddr _ :: r => match Z with
      | some (n, _) => some ((pc + 1, lv, .int (Int32.ofNat n) :: r, S, kc, ks), True)
      | none => none
    | _, _ => none
  | .new _ => some ((pc + 3, lv, .ref S.1.length :: st, newC S a (NN a), kc + 1, ks + NN a), kc + 1 ≤ cp.1 ∧ ks + NN a ≤ cp.2)
  | .newarray _ => match st with
    | .int n :: r => some ((pc + 2, lv, .ref S.1.length :: r, newC S a n.toNatClampNeg, kc + 1, ks + n.toNatClampNeg), ¬ n < 0 ∧ n.toNatClampNeg ≤ 60000000 ∧ kc + 1 ≤ cp.1 ∧ ks + n.toNatClampNeg ≤ cp.2)
    | _ => none
  | .anewarray _ => match st with
    | .int n :: r => some ((pc + 3, lv, .ref S.1.length :: r, newC S 16 n.toNatClampNeg, kc + 1, ks + n.toNatClampNeg), ¬ n < 0 ∧ n.toNatClampNeg ≤ 60000000 ∧ kc + 1 ≤ cp.1 ∧ ks + n.toNatClampNeg ≤ cp.2)
    | _ => none
  | .invokestatic _ => match b, st with
    | 2, .int y :: .int x :: r => some ((pc + 3, lv, .int (if y < x then y else x) :: r, S, kc, ks), cats r ≤ 8)
    | 3, .long y :: .long x :: r => some ((pc + 3, lv, .long (if y < x then y else x) :: r, S, kc, ks), cats r ≤ 8)
    | _, _ => none
  | .invokespecial _ => match b, st with
    | 4, .ref _ :: r => some ((pc + 3, lv, r, S, kc, ks), cats r ≤ 8)
    | _, _ => none
  | _ => none
/-- what the tables must say of an instruction (own: the class, ini: a constructor), and where a jump goes -/
def lnkB (own : Nat) (ini : Bool) (pc : Nat) (q : RI) : Bool :=
  let v := q.2.2.2.2.2
  let a := q.2.2.1
  let b := q.2.2.2.1
  let d := q.2.2.2.2.1
  match q.1 with
  | .iconst n => decide (Int32.ofInt n = v) && decide (q.2.1 = 1)
  | .bipush n => decide ((Int8.ofInt n).toInt32 = v) && decide (q.2.1 = 2)
  | .sipush n => decide ((Int16.ofInt n).toInt32 = v) && decide (q.2.1 = 3)
  | .lconst n => decide (Int64.ofNat (n : Nat) = v.toInt64) && decide (q.2.1 = 1)
  | .ldc i => decide ((own, i, v) ∈ KIT) && decide (q.2.1 = 2)
  | .ldc2_w i => decide ((own, i, v) ∈ KLT) && decide (q.2.1 = 3)
  | .iinc _ n => decide (Int32.ofInt n = v) && decide (q.2.1 = 3)
  | .getfield i => decide ((own, i, a, b) ∈ FLT) && decide (tyK a b = d) && decide (q.2.1 = 3)
  | .putfield i => decide ((own, i, a, b) ∈ FLT) && decide (tyK a b = d) && decide (q.2.1 = 3) && (!(TN a b).2.2.2 || (ini && decide (own = a)))
  | .baload => (decide (a = 12) || decide (a = 15)) && decide (q.2.1 = 1)
  | .if_icmp _ o => decide ((pc : Int) + o = (a : Int)) && decide (q.2.1 = 3)
  | .ifCond _ o => decide ((pc : Int) + o = (a : Int)) && decide (q.2.1 = 3)
  | .goto o => decide ((pc : Int) + o = (a : Int)) && decide (q.2.1 = 3)
  | .lookupswitch _ ps => (ps.toList.zip (ps.toList.drop 1)).all (fun (x, y) => x.1 < y.1)
  | .new i => decide ((own, i, a) ∈ CLT) && decide (q.2.1 = 3)
  | .newarray t => decide (q.2.1 = 2) && (match t with
    | .byte => decide (a = 12)
    | .int => decide (a = 13)
    | .long => decide (a = 14)
    | .boolean => decide (a = 15)
    | _ => false)
  | .anewarray i => decide ((own, i, 2) ∈ CLT) && decide (q.2.1 = 3)
  | .invokestatic i => decide (q.2.1 = 3) && (match b with
    | 0 => decide ((own, i, a) ∈ MLT) && decide (a ∈ SMs)
    | 1 => decide ((own, i, a) ∈ MNT) && decide (a ∈ SMs)
    | 2 => decide ((own, i, 0) ∈ MMT)
    | 3 => decide ((own, i, 1) ∈ MMT)
    | _ => false)
  | .invokevirtual i => decide (q.2.1 = 3) && decide ((own, i, a) ∈ MLT) && decide (a ∈ VMs) && decide (b = 0)
  | .invokespecial i => decide (q.2.1 = 3) && (match b with
    | 0 => decide ((own, i, a) ∈ MLT) && decide (a ∈ IMs)
    | 1 => decide ((own, i, a) ∈ MNT) && decide (a ∈ IMs)
    | 4 => decide ((own, i) ∈ OIT)
    | _ => false)
  | .iload _ => decide (q.2.1 = 2)
  | .aload _ => decide (q.2.1 = 2)
  | .istore _ => decide (q.2.1 = 2)
  | .astore _ => decide (q.2.1 = 2)
  | .tableswitch .. => true
  | _ => decide (q.2.1 = 1)
/-- what may be said of a method's run: from these arguments and this world it ends, within so many new cells and slots, with an answer and a world of which Post holds -/
abbrev EX : Type := Nat → List Value → Sto → Nat → Nat → (Option Value → Sto → Prop) → Prop
abbrev PP : Type := Nat → List (Nat × Value) → List Value → Sto → Nat → Nat → Prop
/-- one step of the machine, P being what holds behind it -/
def RuleI (E : EX) (nL : Nat) (rt : Option FieldType) (Z : Option (Nat × (Nat → Int32))) (cp : Nat × Nat) (Post : Option Value → Sto → Prop) (P : PP) (q : RI) (pc : Nat) (lv : List (Nat × Value)) (st : List Value) (S : Sto) (kc ks : Nat) : Prop :=
  match q.1 with
  | .if_icmp cd _ => ∃ x y r, st = .int y :: .int x :: r ∧ (cmpC cd x y → P q.2.2.1 lv r S kc ks) ∧ (¬ cmpC cd x y → P (pc + 3) lv r S kc ks)
  | .ifCond cd _ => ∃ x r, st = .int x :: r ∧ (cmpC cd x 0 → P q.2.2.1 lv r S kc ks) ∧ (¬ cmpC cd x 0 → P (pc + 3) lv r S kc ks)
  | .goto _ => P q.2.2.1 lv st S kc ks
  | .tableswitch d lo hi offs => ∃ (x : Int32) (r : List Value) (t : Nat), st = .int x :: r ∧ swT (.tableswitch d lo hi offs) pc x.toInt = some (t : Int) ∧ P t lv r S kc ks
  | .lookupswitch d ps => ∃ (x : Int32) (r : List Value) (t : Nat), st = .int x :: r ∧ swT (.lookupswitch d ps) pc x.toInt = some (t : Int) ∧ P t lv r S kc ks
  | .ireturn => ∃ v ty, st = [.int v] ∧ rt = some ty ∧ narrow ty (.int v) = .int v ∧ Post (some (.int v)) S
  | .lreturn => ∃ v, st = [.long v] ∧ rt = some .long ∧ Post (some (.long v)) S
  | .return_ => st = [] ∧ rt = none ∧ Post none S
  | .invokevirtual _ => ∃ k As rest mc ms, st = As.reverse ++ .ref k :: rest ∧ As.length + 1 = (mt q.2.2.1).2.2.2.2.2 ∧ okO S k (mt q.2.2.1).2.2.2.2.1 ∧ cats rest ≤ 8 ∧ kc + mc ≤ cp.1 ∧ ks + ms ≤ cp.2 ∧ E q.2.2.1 (.ref k :: As) S mc ms (fun r S1 => P (pc + 3) lv (r.toList ++ rest) S1 (kc + mc) (ks + ms))
  | i => (∃ (c' : CF) (O : Prop), sx nL Z cp q pc lv st S kc ks = some (c', O) ∧ O ∧ P c'.1 c'.2.1 c'.2.2.1 c'.2.2.2.1 c'.2.2.2.2.1 c'.2.2.2.2.2) ∨
      (match i with
        | .invokestatic _ => q.2.2.2.1 ≤ 1 ∧ ∃ As rest mc ms, st = As.reverse ++ rest ∧ As.length = (mt q.2.2.1).2.2.2.2.2 ∧ cats rest ≤ 8 ∧ kc + mc ≤ cp.1 ∧ ks + ms ≤ cp.2 ∧ E q.2.2.1 As S mc ms (fun r S1 => P (pc + 3) lv (r.toList ++ rest) S1 (kc + mc) (ks + ms))
        | .invokespecial _ => q.2.2.2.1 ≤ 1 ∧ ∃ k As rest mc ms, st = As.reverse ++ .ref k :: rest ∧ As.length + 1 = (mt q.2.2.1).2.2.2.2.2 ∧ cats rest ≤ 8 ∧ kc + mc ≤ cp.1 ∧ ks + ms ≤ cp.2 ∧ E q.2.2.1 (.ref k :: As) S mc ms (fun r S1 => P (pc + 3) lv (r.toList ++ rest) S1 (kc + mc) (ks + ms))
        | _ => False)
def Clo (E : EX) (cc : ByteArray) (own : Nat) (ini : Bool) (nL : Nat) (rt : Option FieldType) (Z : Option (Nat × (Nat → Int32))) (cp : Nat × Nat) (Post : Option Value → Sto → Prop) (P : PP) : Prop :=
  ∀ pc lv st S kc ks, (∃ q : RI, decode cc pc = .ok (q.1, q.2.1) ∧ lnkB own ini pc q = true ∧ RuleI E nL rt Z cp Post P q pc lv st S kc ks) → P pc lv st S kc ks
/-- from here the method's frame ends well -/
def Runs (E : EX) (cc : ByteArray) (own : Nat) (ini : Bool) (nL : Nat) (rt : Option FieldType) (Z : Option (Nat × (Nat → Int32))) (cp : Nat × Nat) (Post : Option Value → Sto → Prop) : PP :=
  fun pc lv st S kc ks => ∀ P : PP, Clo E cc own ini nL rt Z cp Post P → P pc lv st S kc ks
def isIni (m : Nat) : Bool := decide (m ∈ IMs)
/-- a call of method m, calls nested at most d deep in it -/
def Ex : Nat → EX
  | 0 => fun _ _ _ _ _ _ => False
  | d + 1 => fun m As S mc ms Post => m ∈ SMs ++ (VMs ++ IMs) ∧ cats As ≤ (mt m).2.2.1 ∧ Runs (Ex d) (mt m).2.1 (mt m).2.2.2.2.1 (isIni m) (mt m).2.2.1 (mt m).2.2.2.1 none (mc, ms) Post 0 (lv_args 0 As) [] S 0 0
/-! ===== what may be weakened ===== -/
theorem RuleI.mono {E : EX} {nL : Nat} {rt : Option FieldType} {Z : Option (Nat × (Nat → Int32))} {cp : Nat × Nat} {Post Post' : Option Value → Sto → Prop} {P P' : PP} {q : RI} {pc : Nat} {lv : List (Nat × Value)} {st : List Value} {S : Sto} {kc ks : Nat}
    (hE : ∀ m As S mc ms (A B : Option Value → Sto → Prop), (∀ r S', A r S' → B r S') → E m As S mc ms A → E m As S mc ms B) (hQ : ∀ r S', Post r S' → Post' r S') (hP : ∀ pc lv st S kc ks, P pc lv st S kc ks → P' pc lv st S kc ks)
    (h : RuleI E nL rt Z cp Post P q pc lv st S kc ks) : RuleI E nL rt Z cp Post' P' q pc lv st S kc ks := by
  obtain ⟨i, q2⟩ := q
  cases i
  case if_icmp cd o =>
    obtain ⟨x, y, r, h1, h2, h3⟩ := h
    exact ⟨x, y, r, h1, fun c => hP _ _ _ _ _ _ (h2 c), fun c => hP _ _ _ _ _ _ (h3 c)⟩
  case ifCond cd o =>
    obtain ⟨x, r, h1, h2, h3⟩ := h
    exact ⟨x, r, h1, fun c => hP _ _ _ _ _ _ (h2 c), fun c => hP _ _ _ _ _ _ (h3 c)⟩
  case goto o => exact hP _ _ _ _ _ _ h
  case tableswitch =>
    obtain ⟨x, r, t, h1, h2, h3⟩ := h
    exact ⟨x, r, t, h1, h2, hP _ _ _ _ _ _ h3⟩
  case lookupswitch =>
    obtain ⟨x, r, t, h1, h2, h3⟩ := h
    exact ⟨x, r, t, h1, h2, hP _ _ _ _ _ _ h3⟩
  case ireturn =>
    obtain ⟨v, ty, h1, h2, h3, h4⟩ := h
    exact ⟨v, ty, h1, h2, h3, hQ _ _ h4⟩
  case lreturn =>
    obtain ⟨v, h1, h2, h3⟩ := h
    exact ⟨v, h1, h2, hQ _ _ h3⟩
  case return_ => exact ⟨h.1, h.2.1, hQ _ _ h.2.2⟩
  case invokevirtual =>
    obtain ⟨k, As, rest, mc, ms, h1, h2, h3, h4, h5, h6, h7⟩ := h
    exact ⟨k, As, rest, mc, ms, h1, h2, h3, h4, h5, h6, hE _ _ _ _ _ _ _ (fun r S' => hP _ _ _ _ _ _) h7⟩
  case invokestatic =>
    rcases h with ⟨c', O, h1, h2, h3⟩ | h
    · exact Or.inl ⟨c', O, h1, h2, hP _ _ _ _ _ _ h3⟩
    · obtain ⟨h0, As, rest, mc, ms, h1, h2, h4, h5, h6, h7⟩ := h
      exact Or.inr ⟨h0, As, rest, mc, ms, h1, h2, h4, h5, h6, hE _ _ _ _ _ _ _ (fun r S' => hP _ _ _ _ _ _) h7⟩
  case invokespecial =>
    rcases h with ⟨c', O, h1, h2, h3⟩ | h
    · exact Or.inl ⟨c', O, h1, h2, hP _ _ _ _ _ _ h3⟩
    · obtain ⟨h0, k, As, rest, mc, ms, h1, h2, h4, h5, h6, h7⟩ := h
      exact Or.inr ⟨h0, k, As, rest, mc, ms, h1, h2, h4, h5, h6, hE _ _ _ _ _ _ _ (fun r S' => hP _ _ _ _ _ _) h7⟩
  all_goals
    rcases h with ⟨c', O, h1, h2, h3⟩ | h
    · exact Or.inl ⟨c', O, h1, h2, hP _ _ _ _ _ _ h3⟩
    · exact False.elim h
theorem Runs.mono {E : EX} {cc : ByteArray} {own : Nat} {ini : Bool} {nL : Nat} {rt : Option FieldType} {Z : Option (Nat × (Nat → Int32))} {cp : Nat × Nat} {Post Post' : Option Value → Sto → Prop}
    (hE : ∀ m As S mc ms (A B : Option Value → Sto → Prop), (∀ r S', A r S' → B r S') → E m As S mc ms A → E m As S mc ms B) (hQ : ∀ r S', Post r S' → Post' r S') {pc lv st S kc ks} (h : Runs E cc own ini nL rt Z cp Post pc lv st S kc ks) : Runs E cc own ini nL rt Z cp Post' pc lv st S kc ks := by
  intro P hP
  refine h P ?_
  intro pc lv st S kc ks hq
  obtain ⟨q, h1, h2, h3⟩ := hq
  exact hP _ _ _ _ _ _ ⟨q, h1, h2, h3.mono hE hQ (fun _ _ _ _ _ _ h => h)⟩
theorem Ex.mono : ∀ (d : Nat) (m : Nat) (As : List Value) (S : Sto) (mc ms : Nat) (A B : Option Value → Sto → Prop), (∀ r S', A r S' → B r S') → Ex d m As S mc ms A → Ex d m As S mc ms B
  | 0 => fun _ _ _ _ _ _ _ _ h => h
  | d + 1 => fun m As S mc ms A B hAB h => ⟨h.1, h.2.1, h.2.2.mono (Ex.mono d) hAB⟩
/-- a step -/
theorem Runs.step {d : Nat} {cc : ByteArray} {own : Nat} {ini : Bool} {nL : Nat} {rt : Option FieldType} {Z : Option (Nat × (Nat → Int32))} {cp : Nat × Nat} {Post : Option Value → Sto → Prop} {pc lv st S kc ks} (q : RI) (h1 : decode cc pc = .ok (q.1, q.2.1)) (h2 : lnkB own ini pc q = true)
    (h : RuleI (Ex d) nL rt Z cp Post (Runs (Ex d) cc own ini nL rt Z cp Post) q pc lv st S kc ks) : Runs (Ex d) cc own ini nL rt Z cp Post pc lv st S kc ks := by
  intro P hP
  exact hP _ _ _ _ _ _ ⟨q, h1, h2, h.mono (Ex.mono d) (fun _ _ h => h) (fun pc lv st S kc ks h => h P hP)⟩
