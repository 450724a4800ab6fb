/-! the data against the class files: each instruction is what decode says, each name is a word of the tables -/
def fe (y pc : Nat) : Option (Instr × Nat) := ((kc y).find? (fun q => q.1 == pc)).map (fun q => q.2)
def rsv (c k : Nat) : Option (Nat × Nat × Nat) := ((rsL.getD c []).find? (fun q => q.1 == k)).map (fun q => q.2)
def srt (ps : Array (Int × Int)) : Bool := (ps.toList.zip (ps.toList.drop 1)).all (fun (a, next) => a.1 < next.1)
/-- an instruction of the class file as the mini machine has it -/
def nrm (c pc : Nat) : Instr → Option Instr
  | .iconst n => if n = -1 then some .aconst_null else if 0 ≤ n ∧ n < 6 then some (.ldc n.toNat) else none
  | .bipush n => if 0 ≤ n ∧ n < 128 then some (.ldc n.toNat) else none
  | .sipush n => if 0 ≤ n ∧ n < 32768 then some (.ldc n.toNat) else none
  | .ldc k => match rsv c k with
    | some (3, v, _) => some (.ldc v)
    | some (5, v, _) => some (.instanceof v)
    | _ => none
  | .ldc_w k => match rsv c k with
    | some (3, v, _) => some (.ldc v)
    | _ => none
  | .ldc2_w k => match rsv c k with
    | some (4, v, _) => some (.ldc2_w v)
    | _ => none
  | .iload_n k => some (.iload k.val)
  | .lload_n k => some (.lload k.val)
  | .aload_n k => some (.aload k.val)
  | .istore_n k => some (.istore k.val)
  | .lstore_n k => some (.lstore k.val)
  | .astore_n k => some (.astore k.val)
  | .iload k => some (.iload k)
  | .lload k => some (.lload k)
  | .aload k => some (.aload k)
  | .istore k => some (.istore k)
  | .lstore k => some (.lstore k)
  | .astore k => some (.astore k)
  | .iinc k n => some (.iinc k n)
  | .iadd => some .iadd
  | .isub => some .isub
  | .imul => some .imul
  | .idiv => some .idiv
  | .irem => some .irem
  | .ineg => some .ineg
  | .iand => some .iand
  | .ior => some .ior
  | .ixor => some .ixor
  | .ishl => some .ishl
  | .ishr => some .ishr
  | .iushr => some .iushr
  | .ladd => some .ladd
  | .lmul => some .lmul
  | .lcmp => some .lcmp
  | .i2l => some .i2l
  | .i2c => some .i2c
  | .i2b => some .i2b
  | .dup => some .dup
  | .dup2 => some .dup2
  | .pop => some .pop
  | .iaload => some .iaload
  | .laload => some .laload
  | .aaload => some .aaload
  | .baload => some .baload
  | .iastore => some .iastore
  | .lastore => some .lastore
  | .aastore => some .aastore
  | .arraylength => some .arraylength
  | .ireturn => some .ireturn
  | .lreturn => some .lreturn
  | .return_ => some .return_
  | .ifCond q o => some (.ifCond q (pc + o))
  | .if_icmp q o => some (.if_icmp q (pc + o))
  | .goto o => some (.goto (pc + o))
  | .tableswitch d lo hi offs => some (.tableswitch (pc + d) lo hi (offs.map fun o => (pc : Int) + o))
  | .lookupswitch d ps => if srt ps = true then some (.lookupswitch (pc + d) (ps.map fun q => (q.1, (pc : Int) + q.2))) else none
  | .getfield k => match rsv c k with
    | some (0, f, _) => some (.getfield f)
    | some (10, f, _) => some (.getfield (9000 + f))
    | _ => none
  | .putfield k => match rsv c k with
    | some (0, f, _) => some (.putfield f)
    | _ => none
  | .getstatic k => match rsv c k with
    | some (9, f, _) => some (.getstatic f)
    | _ => none
  | .invokevirtual k => match rsv c k with
    | some (1, m, _) => if mK m = 0 then some (.invokeinterface m (mA m)) else none
    | some (2, m, _) => if mK m = 0 then some (.invokeinterface m (mA m)) else none
    | _ => none
  | .invokestatic k => match rsv c k with
    | some (1, m, _) => if mK m = 1 then some (.invokeinterface m (mA m)) else none
    | some (2, m, _) => if mK m = 1 then some (.invokeinterface m (mA m)) else none
    | some (8, _, _) => some (.invokeinterface 294 5)
    | _ => none
  | .invokespecial k => match rsv c k with
    | some (1, m, _) => if mK m = 2 then some (.invokeinterface m (mA m)) else none
    | some (2, m, _) => if mK m = 2 then some (.invokeinterface m (mA m)) else none
    | some (7, _, _) => some (.invokeinterface 295 1)
    | _ => none
  | .new k => match rsv c k with
    | some (6, t, _) => if t < 13 then some (.new t) else none
    | _ => none
  | .newarray .int => some (.newarray .int)
  | .newarray .long => some (.newarray .long)
  | .anewarray k => match rsv c k with
    | some (6, t, _) => some (.anewarray t)
    | _ => none
  | .multianewarray k n => match rsv c k with
    | some (11, _, _) => if n = 2 then some (.multianewarray 0 2) else none
    | _ => none
  | _ => none
def lnB (n : Nat) : Instr → Bool
  | .iload _ => n == 2
  | .iload_n _ => n == 1
  | .lload _ => n == 2
  | .lload_n _ => n == 1
  | .aload _ => n == 2
  | .aload_n _ => n == 1
  | .istore _ => n == 2
  | .istore_n _ => n == 1
  | .lstore _ => n == 2
  | .lstore_n _ => n == 1
  | .astore _ => n == 2
  | .astore_n _ => n == 1
  | .iconst _ => n == 1
  | .bipush _ => n == 2
  | .sipush _ => n == 3
  | .ldc _ => n == 2
  | .ldc_w _ => n == 3
  | .ldc2_w _ => n == 3
  | .iinc _ _ => n == 3
  | .ifCond _ _ => n == 3
  | .if_icmp _ _ => n == 3
  | .goto _ => n == 3
  | .tableswitch .. => true
  | .lookupswitch .. => true
  | .getfield _ => n == 3
  | .putfield _ => n == 3
  | .getstatic _ => n == 3
  | .invokevirtual _ => n == 3
  | .invokestatic _ => n == 3
  | .invokespecial _ => n == 3
  | .new _ => n == 3
  | .newarray _ => n == 2
  | .anewarray _ => n == 3
  | .multianewarray _ _ => n == 4
  | _ => n == 1
def chI (y : Nat) (e : Nat × Instr × Nat) : Bool := match decode (mB y) e.1 with
  | .ok (raw, len) => decide (nrm (mC y) e.1 raw = some e.2.1) && decide (e.1 + len = e.2.2) && lnB len raw
  | .error _ => false
def chM (y : Nat) : Bool := (kc y).all (chI y)
theorem ck_0 : ((List.range 12).all fun j => chM (0 + j)) = true := by decide +kernel
theorem ck_12 : ((List.range 12).all fun j => chM (12 + j)) = true := by decide +kernel
theorem ck_24 : ((List.range 12).all fun j => chM (24 + j)) = true := by decide +kernel
theorem ck_36 : ((List.range 12).all fun j => chM (36 + j)) = true := by decide +kernel
theorem ck_48 : ((List.range 12).all fun j => chM (48 + j)) = true := by decide +kernel
theorem ck_60 : ((List.range 12).all fun j => chM (60 + j)) = true := by decide +kernel
theorem ck_72 : ((List.range 12).all fun j => chM (72 + j)) = true := by decide +kernel
theorem ck_84 : ((List.range 12).all fun j => chM (84 + j)) = true := by decide +kernel
theorem ck_96 : ((List.range 12).all fun j => chM (96 + j)) = true := by decide +kernel
theorem ck_108 : ((List.range 12).all fun j => chM (108 + j)) = true := by decide +kernel
theorem ck_120 : ((List.range 12).all fun j => chM (120 + j)) = true := by decide +kernel
theorem ck_132 : ((List.range 12).all fun j => chM (132 + j)) = true := by decide +kernel
theorem ck_144 : ((List.range 12).all fun j => chM (144 + j)) = true := by decide +kernel
theorem ck_156 : ((List.range 12).all fun j => chM (156 + j)) = true := by decide +kernel
theorem ck_168 : ((List.range 12).all fun j => chM (168 + j)) = true := by decide +kernel
theorem ck_180 : ((List.range 12).all fun j => chM (180 + j)) = true := by decide +kernel
theorem ck_192 : ((List.range 12).all fun j => chM (192 + j)) = true := by decide +kernel
theorem ck_204 : ((List.range 12).all fun j => chM (204 + j)) = true := by decide +kernel
theorem ck_216 : ((List.range 12).all fun j => chM (216 + j)) = true := by decide +kernel
theorem ck_228 : ((List.range 12).all fun j => chM (228 + j)) = true := by decide +kernel
theorem ck_240 : ((List.range 12).all fun j => chM (240 + j)) = true := by decide +kernel
theorem ck_252 : ((List.range 12).all fun j => chM (252 + j)) = true := by decide +kernel
theorem ck_264 : ((List.range 12).all fun j => chM (264 + j)) = true := by decide +kernel
theorem ck_276 : ((List.range 12).all fun j => chM (276 + j)) = true := by decide +kernel
theorem ck_288 : ((List.range 5).all fun j => chM (288 + j)) = true := by decide +kernel
