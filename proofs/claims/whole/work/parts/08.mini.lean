/-! THE MINI MACHINE: the claim's classes over a heap of numbered cells. Made by wip/whole/tools/p08.py -/
def kdL : List (Nat × Nat) := [(4, 11), (4, 9), (4, 1), (0, 16), (0, 16), (0, 48), (0, 256), (4, 7), (0, 4), (3, 8), (0, 16), (0, 16), (0, 16), (0, 16), (0, 16), (0, 16), (0, 16), (0, 16), (0, 16), (0, 16), (0, 48), (0, 256), (4, 2), (0, 400), (0, 33), (0, 64), (4, 2), (0, 400), (0, 33), (0, 64), (0, 600), (4, 9), (4, 1), (0, 16), (0, 16), (0, 48), (0, 256), (4, 7), (0, 4), (3, 8), (0, 16), (0, 16), (0, 16), (0, 16), (0, 16), (0, 16), (0, 16), (0, 16), (0, 16), (0, 16), (0, 48), (0, 256), (4, 2), (0, 400), (0, 33), (0, 64), (4, 2), (0, 400), (0, 33), (0, 64), (0, 600), (4, 9), (4, 1), (0, 16), (0, 16), (0, 48), (0, 256), (4, 7), (0, 4), (3, 8), (0, 16), (0, 16), (0, 16), (0, 16), (0, 16), (0, 16), (0, 16), (0, 16), (0, 16), (0, 16), (0, 48), (0, 256), (4, 2), (0, 400), (0, 33), (0, 64), (4, 2), (0, 400), (0, 33), (0, 64), (0, 600), (4, 4), (2, 5), (4, 7), (0, 4), (3, 8), (0, 16), (0, 16), (0, 16), (0, 16), (0, 16), (0, 16), (0, 16), (0, 16), (0, 16), (0, 16), (0, 48), (0, 256), (4, 7), (0, 4), (3, 8), (0, 16), (0, 16), (0, 16), (0, 16), (0, 16), (0, 16), (0, 16), (0, 16), (0, 16), (0, 16), (0, 48), (0, 256), (4, 7), (0, 4), (3, 8), (0, 16), (0, 16), (0, 16), (0, 16), (0, 16), (0, 16), (0, 16), (0, 16), (0, 16), (0, 16), (0, 48), (0, 256), (4, 7), (0, 4), (3, 8), (0, 16), (0, 16), (0, 16), (0, 16), (0, 16), (0, 16), (0, 16), (0, 16), (0, 16), (0, 16), (0, 48), (0, 256), (4, 7), (0, 4), (3, 8), (0, 16), (0, 16), (0, 16), (0, 16), (0, 16), (0, 16), (0, 16), (0, 16), (0, 16), (0, 16), (0, 48), (0, 256), (4, 5), (0, 400), (0, 401), (0, 401), (0, 401), (4, 3), (4, 6), (4, 10), (0, 16), (0, 16), (0, 48), (0, 3), (0, 48), (0, 10), (4, 8), (1, 3216), (4, 0), (4, 10), (0, 16), (0, 16), (0, 48), (0, 16), (0, 48), (0, 16), (0, 16), (0, 16), (0, 4), (0, 16), (4, 12), (0, 2955), (0, 2955), (0, 2980), (0, 596), (0, 48), (0, 820), (0, 128), (0, 400), (0, 420), (0, 13), (0, 16), (0, 16), (0, 3), (0, 64320), (0, 16), (0, 16), (0, 48), (0, 16), (0, 16), (0, 16), (0, 16), (0, 3), (0, 3)]
abbrev Hp : Type := (Nat × (Nat → Nat → Int32)) × ((Nat → Nat → Int64) × (Nat → Nat → Option Nat))
def nxt (h : Hp) : Nat := h.1.1
def gi (h : Hp) (a k : Nat) : Int32 := h.1.2 a k
def gl (h : Hp) (a k : Nat) : Int64 := h.2.1 a k
def gr (h : Hp) (a k : Nat) : Option Nat := h.2.2 a k
def up2 {α : Type} (f : Nat → Nat → α) (a k : Nat) (v : α) : Nat → Nat → α := fun b j => if b = a ∧ j = k then v else f b j
def upw {α : Type} (f : Nat → Nat → α) (a : Nat) (r : Nat → α) : Nat → Nat → α := fun b => if b = a then r else f b
def si (h : Hp) (a k : Nat) (v : Int32) : Hp := ((h.1.1, up2 h.1.2 a k v), h.2)
def sl (h : Hp) (a k : Nat) (v : Int64) : Hp := (h.1, (up2 h.2.1 a k v, h.2.2))
def sr (h : Hp) (a k : Nat) (v : Option Nat) : Hp := (h.1, (h.2.1, up2 h.2.2 a k v))
def sn (h : Hp) (n : Nat) : Hp := ((n, h.1.2), h.2)
def sw (h : Hp) (a : Nat) (r : Nat → Int32) : Hp := ((h.1.1, upw h.1.2 a r), h.2)
def swr (h : Hp) (a : Nat) (r : Nat → Option Nat) : Hp := (h.1, (h.2.1, upw h.2.2 a r))
/-- the number of the cells that the law makes -/
def NN : Nat := 220
/-- what a cell is: 0 ints, 1 longs, 2 States, 3 rows of ints, 4 an object of a class, 5 a text's bytes, 6 a text, 7 the law of the settings, 8 the script -/
def kd (a : Nat) : Nat × Nat := if a < 100000 then kdL.getD a (9, 0) else if a < 200000 then (6, a - 100000) else if a < 300000 then (5, a - 200000) else if a = 300000 then (7, 4) else if a = 300001 then (8, 0) else (9, 0)
def SLa : Nat → Nat | 0 => 0 | n + 1 => SLa n + (if (kd n).1 = 4 then fn (kd n).2 else (kd n).2)
abbrev Lo : Type := List (Option Value)
abbrev Sk : Type := List Value
def aln (h : Hp) (a : Nat) : Option Nat :=
  if (kd a).1 < 4 then (if a < nxt h then some (kd a).2 else none)
  else if (kd a).1 = 5 then (if (kd a).2 < 25 then some (lenL.getD (kd a).2 0) else none)
  else if (kd a).1 = 7 then some 4
  else if (kd a).1 = 8 then some (gi h 300002 0).toNatClampNeg
  else none
def inb (h : Hp) (a : Nat) (i : Int32) : Bool := match aln h a with
  | some n => decide (0 ≤ i.toInt ∧ i.toInt < n)
  | none => false
def ild (h : Hp) (a : Nat) (i : Int32) : Option Value := if ((kd a).1 = 0 ∨ (kd a).1 = 7 ∨ (kd a).1 = 8) ∧ inb h a i = true then some (.int (gi h a i.toNatClampNeg)) else none
def ist (h : Hp) (a : Nat) (i : Int32) (v : Int32) : Option Hp := if (kd a).1 = 0 ∧ inb h a i = true then some (si h a i.toNatClampNeg v) else none
def lld (h : Hp) (a : Nat) (i : Int32) : Option Value := if (kd a).1 = 1 ∧ inb h a i = true then some (.long (gl h a i.toNatClampNeg)) else none
def lst (h : Hp) (a : Nat) (i : Int32) (v : Int64) : Option Hp := if (kd a).1 = 1 ∧ inb h a i = true then some (sl h a i.toNatClampNeg v) else none
def rld (h : Hp) (a : Nat) (i : Int32) : Option Value := if ((kd a).1 = 2 ∨ (kd a).1 = 3) ∧ inb h a i = true then (gr h a i.toNatClampNeg).map Value.ref else none
def rst (h : Hp) (a : Nat) (i : Int32) (b : Nat) : Option Hp := if (kd a).1 = 2 ∧ inb h a i = true ∧ kd b = (4, 7) ∧ b < nxt h then some (sr h a i.toNatClampNeg (some b)) else none
def bld (h : Hp) (a : Nat) (i : Int32) : Option Value := if (kd a).1 = 5 ∧ inb h a i = true then some (.int ((bytL.getD (kd a).2 []).getD i.toNatClampNeg 0)) else none
def fld (h : Hp) (a f : Nat) : Option Value :=
  if f = 9000 then (if (kd a).1 = 6 ∧ (kd a).2 < 25 then some (.ref (200000 + (kd a).2)) else none)
  else if f = 9001 then (if (kd a).1 = 6 ∧ (kd a).2 < 25 then some (.int 0) else none)
  else if kd a = (4, f / 100) ∧ a < nxt h ∧ f % 100 < fn (f / 100) then (if fy (f / 100) (f % 100) = 2 then (gr h a (f % 100)).map Value.ref else some (.int (gi h a (f % 100)))) else none
def sfd (y : Nat) (h : Hp) (a f : Nat) : Value → Option Hp
  | .int x => if kd a = (4, f / 100) ∧ a < nxt h ∧ f % 100 < fn (f / 100) ∧ (ftab (f / 100) (f % 100)).2.2.2 = false ∧ (fy (f / 100) (f % 100) = 0 ∨ (fy (f / 100) (f % 100) = 1 ∧ (x = 0 ∨ x = 1))) then some (si h a (f % 100) x) else none
  | .ref b => if kd a = (4, f / 100) ∧ a < nxt h ∧ f % 100 < fn (f / 100) ∧ (ftab (f / 100) (f % 100)).2.2.2 = true ∧ fy (f / 100) (f % 100) = 2 ∧ b < nxt h ∧ mK y = 2 ∧ mC y = f / 100 then some (sr h a (f % 100) (some b)) else none
  | _ => none
def c1 : Value → Bool
  | .long _ => false
  | .double _ => false
  | _ => true
def vty : Value → Nat
  | .int _ => 0
  | .long _ => 1
  | .ref _ => 2
  | _ => 3
def kl : Option Value → Option Value
  | some (.long _) => none
  | some (.double _) => none
  | x => x
def setL : Lo → Nat → Value → Lo
  | [], _, _ => []
  | _ :: r, 0, v => some v :: r
  | [a], _ + 1, _ => [a]
  | a :: _ :: r, 1, v => kl a :: some v :: r
  | a :: b :: r, n + 2, v => a :: setL (b :: r) (n + 1) v
def setN : Lo → Nat → Lo
  | [], _ => []
  | _ :: r, 0 => none :: r
  | a :: r, n + 1 => a :: setN r n
def ldL (t k : Nat) (L : Lo) (S : Sk) (h : Hp) : Option (Lo × Sk × Hp) := match L.getD k none with
  | some v => if vty v = t then some (L, v :: S, h) else none
  | none => none
def stV (t k : Nat) (L : Lo) (S : Sk) (h : Hp) : Option (Lo × Sk × Hp) := match S with
  | v :: S' => if vty v = t ∧ k < L.length then some (setL L k v, S', h) else none
  | _ => none
def stV2 (k : Nat) (L : Lo) (S : Sk) (h : Hp) : Option (Lo × Sk × Hp) := match S with
  | .long v :: S' => if k + 1 < L.length then some (setN (setL L k (.long v)) (k + 1), S', h) else none
  | _ => none
def incL (k : Nat) (n : Int) (L : Lo) (S : Sk) (h : Hp) : Option (Lo × Sk × Hp) := match L.getD k none with
  | some (.int x) => some (setL L k (.int (x + Int32.ofInt n)), S, h)
  | _ => none
def un (f : Int32 → Value) (L : Lo) (S : Sk) (h : Hp) : Option (Lo × Sk × Hp) := match S with
  | .int x :: S' => some (L, f x :: S', h)
  | _ => none
def bin (f : Int32 → Int32 → Int32) (L : Lo) (S : Sk) (h : Hp) : Option (Lo × Sk × Hp) := match S with
  | .int y :: .int x :: S' => some (L, .int (f x y) :: S', h)
  | _ => none
def bind0 (f : Int32 → Int32 → Int32) (L : Lo) (S : Sk) (h : Hp) : Option (Lo × Sk × Hp) := match S with
  | .int y :: .int x :: S' => if y = 0 then none else some (L, .int (f x y) :: S', h)
  | _ => none
def binl (f : Int64 → Int64 → Value) (L : Lo) (S : Sk) (h : Hp) : Option (Lo × Sk × Hp) := match S with
  | .long y :: .long x :: S' => some (L, f x y :: S', h)
  | _ => none
def newA (t : Nat) (L : Lo) (S : Sk) (h : Hp) : Option (Lo × Sk × Hp) := match S with
  | .int n :: S' => if ¬ n < 0 ∧ kd (nxt h) = (t, n.toNatClampNeg) ∧ nxt h < NN then some (L, .ref (nxt h) :: S', sn h (nxt h + 1)) else none
  | _ => none
def newM (L : Lo) (S : Sk) (h : Hp) : Option (Lo × Sk × Hp) := match S with
  | .int k :: .int n :: S' => if k = 16 ∧ n = 8 ∧ kd (nxt h) = (3, 8) ∧ ((List.range 8).all fun i => kd (nxt h + 1 + i) == (0, 16)) = true ∧ nxt h + 8 < NN then some (L, .ref (nxt h) :: S', sn (swr h (nxt h) (fun i => if i < 8 then some (nxt h + 1 + i) else none)) (nxt h + 9)) else none
  | _ => none
/-- an instruction that goes on behind itself and calls nothing -/
def stepI (y : Nat) (i : Instr) (L : Lo) (S : Sk) (h : Hp) : Option (Lo × Sk × Hp) := match i with
  | .ldc k => some (L, .int (nI k) :: S, h)
  | .aconst_null => some (L, .int (-1) :: S, h)
  | .ldc2_w k => some (L, .long (lN k) :: S, h)
  | .instanceof k => if k < 25 then some (L, .ref (100000 + k) :: S, h) else none
  | .iload k => ldL 0 k L S h
  | .lload k => ldL 1 k L S h
  | .aload k => ldL 2 k L S h
  | .istore k => stV 0 k L S h
  | .lstore k => stV2 k L S h
  | .astore k => stV 2 k L S h
  | .iinc k n => incL k n L S h
  | .iadd => bin (fun x y => x + y) L S h
  | .isub => bin (fun x y => x - y) L S h
  | .imul => bin (fun x y => x * y) L S h
  | .idiv => bind0 (fun x y => x / y) L S h
  | .irem => bind0 (fun x y => x - x / y * y) L S h
  | .ineg => un (fun x => .int (-x)) L S h
  | .iand => bin (fun x y => x &&& y) L S h
  | .ior => bin (fun x y => x ||| y) L S h
  | .ixor => bin (fun x y => x ^^^ y) L S h
  | .ishl => bin (fun x y => x <<< (y &&& 31)) L S h
  | .ishr => bin (fun x y => x >>> (y &&& 31)) L S h
  | .iushr => bin (fun x y => (x.toUInt32 >>> (y.toUInt32 &&& Int32.toUInt32 31)).toInt32) L S h
  | .ladd => binl (fun x y => .long (x + y)) L S h
  | .lmul => binl (fun x y => .long (x * y)) L S h
  | .lcmp => binl (fun x y => .int (lg_cmp x y)) L S h
  | .i2l => un (fun x => .long x.toInt64) L S h
  | .i2c => un (fun x => .int (x.toUInt32 % 65536).toInt32) L S h
  | .i2b => un (fun x => .int x.toInt8.toInt32) L S h
  | .dup => match S with
    | v :: S' => if c1 v = true then some (L, v :: v :: S', h) else none
    | _ => none
  | .dup2 => match S with
    | v :: w :: S' => if c1 v = true ∧ c1 w = true then some (L, v :: w :: v :: w :: S', h) else none
    | _ => none
  | .pop => match S with
    | v :: S' => if c1 v = true then some (L, S', h) else none
    | _ => none
  | .iaload => match S with
    | .int i :: .ref a :: S' => (ild h a i).map fun v => (L, v :: S', h)
    | _ => none
  | .laload => match S with
    | .int i :: .ref a :: S' => (lld h a i).map fun v => (L, v :: S', h)
    | _ => none
  | .aaload => match S with
    | .int i :: .ref a :: S' => (rld h a i).map fun v => (L, v :: S', h)
    | _ => none
  | .baload => match S with
    | .int i :: .ref a :: S' => (bld h a i).map fun v => (L, v :: S', h)
    | _ => none
  | .iastore => match S with
    | .int x :: .int i :: .ref a :: S' => (ist h a i x).map fun h' => (L, S', h')
    | _ => none
  | .lastore => match S with
    | .long x :: .int i :: .ref a :: S' => (lst h a i x).map fun h' => (L, S', h')
    | _ => none
  | .aastore => match S with
    | .ref x :: .int i :: .ref a :: S' => (rst h a i x).map fun h' => (L, S', h')
    | _ => none
  | .arraylength => match S with
    | .ref a :: S' => (aln h a).map fun n => (L, .int (nI n) :: S', h)
    | _ => none
  | .getfield f => match S with
    | .ref a :: S' => (fld h a f).map fun v => (L, v :: S', h)
    | _ => none
  | .putfield f => match S with
    | v :: .ref a :: S' => (sfd y h a f v).map fun h' => (L, S', h')
    | _ => none
  | .getstatic k => if k = 0 then some (L, .ref 300000 :: S, h) else if k = 1 then some (L, .int 1 :: S, h) else if k = 2 then some (L, .null :: S, h) else none
  | .new c => if kd (nxt h) = (4, c) ∧ nxt h < NN then some (L, .ref (nxt h) :: S, sn h (nxt h + 1)) else none
  | .newarray .int => newA 0 L S h
  | .newarray .long => newA 1 L S h
  | .anewarray c => if c = 7 then newA 2 L S h else none
  | .multianewarray _ _ => newM L S h
  | _ => none
def popA : Nat → Sk → List Value → Option (List Value × Sk)
  | 0, S, acc => some (acc, S)
  | n + 1, v :: S, acc => if c1 v = true then popA n S (v :: acc) else none
  | _ + 1, [], _ => none
def pushR : Option Value → Sk → Sk
  | none, S => S
  | some v, S => v :: S
def ob {α : Type} (o : Option α) (K : α → Prop) : Prop := match o with
  | some v => K v
  | none => False
abbrev CT : Type := Nat → List Value → Hp → Option Value → Hp → Prop
abbrev QT : Type := Option Value → Hp → Prop
abbrev KT : Type := Nat → Lo → Sk → Hp → Prop
def callC (C : CT) (m : Nat) (args : List Value) (h : Hp) (Q : QT) : Prop := ∃ r h', C m args h r h' ∧ Q r h'
def br1 (c : ClassFile.Cond) (x : Int32) (A B : Prop) : Prop := match c with
  | .eq => if x = 0 then A else B
  | .ne => if x = 0 then B else A
  | .lt => if x < 0 then A else B
  | .ge => if x < 0 then B else A
  | .gt => if x ≤ 0 then B else A
  | .le => if x ≤ 0 then A else B
def br2 (c : ClassFile.Cond) (x y : Int32) (A B : Prop) : Prop := match c with
  | .eq => if x = y then A else B
  | .ne => if x = y then B else A
  | .lt => if x < y then A else B
  | .ge => if x < y then B else A
  | .gt => if y < x then A else B
  | .le => if y < x then B else A
def retI (y : Nat) (x : Int32) : Prop := ∃ t, mR y = some t ∧ narrow t (.int x) = .int x
/-- the room that a stack takes -/
def szS : Sk → Nat
  | [] => 0
  | .int _ :: S => szS S + 1
  | .ref _ :: S => szS S + 1
  | _ :: S => szS S + 2
def ex1 (C : CT) (P : QT) (y : Nat) (K : KT) (Kn : Lo → Sk → Hp → Prop) (i : Instr) (L : Lo) (S : Sk) (h : Hp) : Prop := match i with
  | .ifCond c t => match S with
    | .int x :: S' => br1 c x (K t.toNat L S' h) (Kn L S' h)
    | _ => False
  | .if_icmp c t => match S with
    | .int b :: .int a :: S' => br2 c a b (K t.toNat L S' h) (Kn L S' h)
    | _ => False
  | .goto t => K t.toNat L S h
  | .tableswitch d lo hi offs => match S with
    | .int x :: S' => if x.toInt < lo ∨ hi < x.toInt then K d.toNat L S' h else ob (offs[(x.toInt - lo).toNat]?) fun o => K o.toNat L S' h
    | _ => False
  | .lookupswitch d ps => match S with
    | .int x :: S' => K (Op.lookupswitch.offset ps.toList d x.toInt).toNat L S' h
    | _ => False
  | .ireturn => match S with
    | [.int x] => retI y x ∧ P (some (.int x)) h
    | _ => False
  | .lreturn => match S with
    | [.long x] => mR y = some .long ∧ P (some (.long x)) h
    | _ => False
  | .return_ => match S with
    | [] => mR y = none ∧ P none h
    | _ => False
  | .invokeinterface m k => ob (popA k S []) fun q => szS q.2 ≤ 8 ∧ callC C m q.1 h fun r h' => Kn L (pushR r q.2) h'
  | i => ob (stepI y i L S h) fun q => Kn q.1 q.2.1 q.2.2
def exI (C : CT) (P : QT) (y : Nat) (K : KT) (pc : Nat) (L : Lo) (S : Sk) (h : Hp) : Prop := ob (fe y pc) fun q => ex1 C P y K (K q.2) q.1 L S h
def wpF (C : CT) (P : QT) (y : Nat) : Nat → KT
  | 0 => fun _ _ _ _ => False
  | n + 1 => exI C P y (wpF C P y n)
def wp (C : CT) (P : QT) (y : Nat) : KT := fun pc L S h => ∃ n, wpF C P y n pc L S h
def jy_cp : Nat := 294
def jy_oi : Nat := 295
def NB : Nat := 291
def entL (y : Nat) (args : List Value) : Lo := args.map some ++ List.replicate (mL y - args.length) none
def cpS (args : List Value) (h : Hp) (r : Option Value) (h' : Hp) : Prop := ∃ a b sp dp n : Nat, sp < 2147483648 ∧ dp < 2147483648 ∧ n < 2147483648 ∧ args = [.ref a, .int (nI sp), .ref b, .int (nI dp), .int (nI n)] ∧ (kd a).1 = 0 ∧ (kd b).1 = 0 ∧ a < nxt h ∧ b < nxt h ∧ sp + n ≤ (kd a).2 ∧ dp + n ≤ (kd b).2 ∧ r = none ∧ h' = sw h b (va_cpy (gi h a) (gi h b) sp dp n)
/-- who is called: an object of the method's class, or a text -/
def rcv (y : Nat) (args : List Value) (h : Hp) : Bool := if mK y = 1 then true else match args with
  | .ref a :: _ => decide (mK y = 2 ∨ (kd a = (4, mC y) ∧ a < nxt h) ∨ ((kd a).1 = 6 ∧ (kd a).2 < 25 ∧ mC y = 14))
  | _ => false
def ev : Nat → CT
  | 0 => fun _ _ _ _ _ => False
  | d + 1 => fun y args h r h' => if y = jy_cp then cpS args h r h' else if y = jy_oi then (∃ a, args = [.ref a]) ∧ r = none ∧ h' = h else if y = jm_max then ∃ a b : Int32, args = [.int a, .int b] ∧ r = some (.int (if a < b then b else a)) ∧ h' = h else if y = jm_min then ∃ a b : Int32, args = [.int a, .int b] ∧ r = some (.int (if b < a then b else a)) ∧ h' = h else y < NB ∧ args.length = mA y ∧ rcv y args h = true ∧ ∃ n, wpF (ev d) (fun r1 h1 => r1 = r ∧ h1 = h') y n 0 (entL y args) [] h
def isE : Instr → Bool
  | .goto _ => true
  | .ireturn => true
  | .lreturn => true
  | .return_ => true
  | .tableswitch .. => true
  | .lookupswitch .. => true
  | _ => false
/-- what stands from pc on -/
def sg (y : Nat) : List Instr → Nat → Bool
  | [], _ => false
  | i :: r, pc => (decide (i = Instr.goto pc) && r.isEmpty) || match fe y pc with
    | some (j, nx) => decide (i = j) && (isE i || sg y r nx)
    | none => false
def exL (C : CT) (P : QT) (y : Nat) (K : KT) : List Instr → Lo → Sk → Hp → Prop
  | [], _, _, _ => False
  | i :: r, L, S, h => ex1 C P y K (exL C P y K r) i L S h
