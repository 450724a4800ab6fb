/-! rows for the mini machine's walks: made by wip/whole/tools/p19.py -/
def R0L : List (List (Option Nat)) := [[some 1, some 31, some 61, some 91, some 168, some 173, some 174, some 182, some 184, none], [some 2, some 7, some 22, some 26, some 30], [none, some 3, some 4, some 5, some 6], [], [], [], [], [none, none, none, none, none, some 8, some 9, some 18, some 19, some 20, some 21], [], [some 10, some 11, some 12, some 13, some 14, some 15, some 16, some 17], [], [], [], [], [], [], [], [], [], [], [], [], [none, none, some 23, some 24, some 25], [], [], [], [none, none, some 27, some 28, some 29], [], [], [], [], [some 32, some 37, some 52, some 56, some 60], [none, some 33, some 34, some 35, some 36], [], [], [], [], [none, none, none, none, none, some 38, some 39, some 48, some 49, some 50, some 51], [], [some 40, some 41, some 42, some 43, some 44, some 45, some 46, some 47], [], [], [], [], [], [], [], [], [], [], [], [], [none, none, some 53, some 54, some 55], [], [], [], [none, none, some 57, some 58, some 59], [], [], [], [], [some 62, some 67, some 82, some 86, some 90], [none, some 63, some 64, some 65, some 66], [], [], [], [], [none, none, none, none, none, some 68, some 69, some 78, some 79, some 80, some 81], [], [some 70, some 71, some 72, some 73, some 74, some 75, some 76, some 77], [], [], [], [], [], [], [], [], [], [], [], [], [none, none, some 83, some 84, some 85], [], [], [], [none, none, some 87, some 88, some 89], [], [], [], [], [some 92, none, none], [some 93, some 108, some 123, some 138, some 153], [none, none, none, none, none, some 94, some 95, some 104, some 105, some 106, some 107], [], [some 96, some 97, some 98, some 99, some 100, some 101, some 102, some 103], [], [], [], [], [], [], [], [], [], [], [], [], [none, none, none, none, none, some 109, some 110, some 119, some 120, some 121, some 122], [], [some 111, some 112, some 113, some 114, some 115, some 116, some 117, some 118], [], [], [], [], [], [], [], [], [], [], [], [], [none, none, none, none, none, some 124, some 125, some 134, some 135, some 136, some 137], [], [some 126, some 127, some 128, some 129, some 130, some 131, some 132, some 133], [], [], [], [], [], [], [], [], [], [], [], [], [none, none, none, none, none, some 139, some 140, some 149, some 150, some 151, some 152], [], [some 141, some 142, some 143, some 144, some 145, some 146, some 147, some 148], [], [], [], [], [], [], [], [], [], [], [], [], [none, none, none, none, none, some 154, some 155, some 164, some 165, some 166, some 167], [], [some 156, some 157, some 158, some 159, some 160, some 161, some 162, some 163], [], [], [], [], [], [], [], [], [], [], [], [], [some 169, none, none, none, none, none, some 170, some 171, some 172, none, none], [], [], [], [], [some 168], [some 175, some 179, some 180, some 181], [some 176, some 177, some 178, none, none], [], [], [], [], [], [], [some 174, some 61, some 183, none], [], [some 174, some 61, some 185, some 189, some 190, some 191, some 192, none, none, some 193, some 194, some 195], [some 186, some 187, some 188, none, none], [], [], [], [], [], [], [], [], [], [], [some 197, some 198, some 199, some 200, none, none, some 201, some 202, some 203, some 204, some 205, some 206, none, none, none, none, none, none, none, none, none, none, none, none, none, none, none, some 207, some 208, some 209, none, some 210, some 211, some 212, some 213, some 214, some 215, none, some 216, none, none, none, some 217, some 218, some 219], [], [], [], [], [], [], [], [], [], [], [], [], [], [], [], [], [], [], [], [], [], [], []]
def R0 (a k : Nat) : Option Nat := (R0L.getD a []).getD k none
/-- the heap when all is made: ints and longs alone change -/
def E (g : Nat → Nat → Int32) (q : Nat → Nat → Int64) : Hp := ((NN, g), (q, R0))
section XR
variable {C : CT} {P : QT} {y : Nat} {K : KT} {Kn : Lo → Sk → Hp → Prop} {L : Lo} {S : Sk} {h : Hp} {g : Nat → Nat → Int32} {q : Nat → Nat → Int64} {t : Int} {x z : Int32} {u v : Int64} {a b : Nat} {w w2 : Value}
theorem x_cons {i : Instr} {r : List Instr} : exL C P y K (i :: r) L S h = ex1 C P y K (exL C P y K r) i L S h := rfl
theorem x_ldc {k : Nat} : ex1 C P y K Kn (.ldc k) L S h = Kn L (.int (nI k) :: S) h := rfl
theorem x_m1 : ex1 C P y K Kn .aconst_null L S h = Kn L (.int (-1) :: S) h := rfl
theorem x_ldc2 {k : Nat} : ex1 C P y K Kn (.ldc2_w k) L S h = Kn L (.long (lN k) :: S) h := rfl
theorem x_goto : ex1 C P y K Kn (.goto t) L S h = K t.toNat L S h := rfl
theorem x_iadd : ex1 C P y K Kn .iadd L (.int z :: .int x :: S) h = Kn L (.int (x + z) :: S) h := rfl
theorem x_isub : ex1 C P y K Kn .isub L (.int z :: .int x :: S) h = Kn L (.int (x - z) :: S) h := rfl
theorem x_imul : ex1 C P y K Kn .imul L (.int z :: .int x :: S) h = Kn L (.int (x * z) :: S) h := rfl
theorem x_ineg : ex1 C P y K Kn .ineg L (.int x :: S) h = Kn L (.int (-x) :: S) h := rfl
theorem x_iand : ex1 C P y K Kn .iand L (.int z :: .int x :: S) h = Kn L (.int (x &&& z) :: S) h := rfl
theorem x_ior : ex1 C P y K Kn .ior L (.int z :: .int x :: S) h = Kn L (.int (x ||| z) :: S) h := rfl
theorem x_ixor : ex1 C P y K Kn .ixor L (.int z :: .int x :: S) h = Kn L (.int (x ^^^ z) :: S) h := rfl
theorem x_ishl : ex1 C P y K Kn .ishl L (.int z :: .int x :: S) h = Kn L (.int (x <<< (z &&& 31)) :: S) h := rfl
theorem x_ishr : ex1 C P y K Kn .ishr L (.int z :: .int x :: S) h = Kn L (.int (x >>> (z &&& 31)) :: S) h := rfl
theorem x_iushr : ex1 C P y K Kn .iushr L (.int z :: .int x :: S) h = Kn L (.int ((x.toUInt32 >>> (z.toUInt32 &&& Int32.toUInt32 31)).toInt32) :: S) h := rfl
theorem x_idiv (hz : z ≠ 0) : ex1 C P y K Kn .idiv L (.int z :: .int x :: S) h = Kn L (.int (x / z) :: S) h := by
  rw [ex1_def rfl]
  simp only [stepI, bind0, if_neg hz, ob_some]
theorem x_irem (hz : z ≠ 0) : ex1 C P y K Kn .irem L (.int z :: .int x :: S) h = Kn L (.int (x - x / z * z) :: S) h := by
  rw [ex1_def rfl]
  simp only [stepI, bind0, if_neg hz, ob_some]
theorem x_ladd : ex1 C P y K Kn .ladd L (.long v :: .long u :: S) h = Kn L (.long (u + v) :: S) h := rfl
theorem x_lmul : ex1 C P y K Kn .lmul L (.long v :: .long u :: S) h = Kn L (.long (u * v) :: S) h := rfl
theorem x_lcmp : ex1 C P y K Kn .lcmp L (.long v :: .long u :: S) h = Kn L (.int (lg_cmp u v) :: S) h := rfl
theorem x_i2l : ex1 C P y K Kn .i2l L (.int x :: S) h = Kn L (.long x.toInt64 :: S) h := rfl
theorem x_i2c : ex1 C P y K Kn .i2c L (.int x :: S) h = Kn L (.int (x.toUInt32 % 65536).toInt32 :: S) h := rfl
theorem x_i2b : ex1 C P y K Kn .i2b L (.int x :: S) h = Kn L (.int x.toInt8.toInt32 :: S) h := rfl
theorem x_dupi : ex1 C P y K Kn .dup L (.int x :: S) h = Kn L (.int x :: .int x :: S) h := rfl
theorem x_dupr : ex1 C P y K Kn .dup L (.ref a :: S) h = Kn L (.ref a :: .ref a :: S) h := rfl
theorem x_dup2 : ex1 C P y K Kn .dup2 L (.int x :: .ref a :: S) h = Kn L (.int x :: .ref a :: .int x :: .ref a :: S) h := rfl
theorem x_popi : ex1 C P y K Kn .pop L (.int x :: S) h = Kn L S h := rfl
theorem x_iaload : ex1 C P y K Kn .iaload L (.int x :: .ref a :: S) h = ob (ild h a x) (fun v => Kn L (v :: S) h) := by
  rw [ex1_def rfl]
  simp only [stepI]
  cases ild h a x <;> rfl
theorem x_laload : ex1 C P y K Kn .laload L (.int x :: .ref a :: S) h = ob (lld h a x) (fun v => Kn L (v :: S) h) := by
  rw [ex1_def rfl]
  simp only [stepI]
  cases lld h a x <;> rfl
theorem x_aaload : ex1 C P y K Kn .aaload L (.int x :: .ref a :: S) h = ob (rld h a x) (fun v => Kn L (v :: S) h) := by
  rw [ex1_def rfl]
  simp only [stepI]
  cases rld h a x <;> rfl
theorem x_baload : ex1 C P y K Kn .baload L (.int x :: .ref a :: S) h = ob (bld h a x) (fun v => Kn L (v :: S) h) := by
  rw [ex1_def rfl]
  simp only [stepI]
  cases bld h a x <;> rfl
theorem x_iastore : ex1 C P y K Kn .iastore L (.int z :: .int x :: .ref a :: S) h = ob (ist h a x z) (fun h' => Kn L S h') := by
  rw [ex1_def rfl]
  simp only [stepI]
  cases ist h a x z <;> rfl
theorem x_lastore : ex1 C P y K Kn .lastore L (.long u :: .int x :: .ref a :: S) h = ob (lst h a x u) (fun h' => Kn L S h') := by
  rw [ex1_def rfl]
  simp only [stepI]
  cases lst h a x u <;> rfl
theorem x_aastore : ex1 C P y K Kn .aastore L (.ref b :: .int x :: .ref a :: S) h = ob (rst h a x b) (fun h' => Kn L S h') := by
  rw [ex1_def rfl]
  simp only [stepI]
  cases rst h a x b <;> rfl
theorem x_alen : ex1 C P y K Kn .arraylength L (.ref a :: S) h = ob (aln h a) (fun n => Kn L (.int (nI n) :: S) h) := by
  rw [ex1_def rfl]
  simp only [stepI]
  cases aln h a <;> rfl
theorem x_getf {f : Nat} : ex1 C P y K Kn (.getfield f) L (.ref a :: S) h = ob (fld h a f) (fun v => Kn L (v :: S) h) := by
  rw [ex1_def rfl]
  simp only [stepI]
  cases fld h a f <;> rfl
theorem x_putf {f : Nat} : ex1 C P y K Kn (.putfield f) L (w :: .ref a :: S) h = ob (sfd y h a f w) (fun h' => Kn L S h') := by
  rw [ex1_def rfl]
  simp only [stepI]
  cases sfd y h a f w <;> rfl
theorem x_gets0 : ex1 C P y K Kn (.getstatic 0) L S h = Kn L (.ref 300000 :: S) h := rfl
theorem x_gets1 : ex1 C P y K Kn (.getstatic 1) L S h = Kn L (.int 1 :: S) h := rfl
theorem x_gets2 : ex1 C P y K Kn (.getstatic 2) L S h = Kn L (.null :: S) h := rfl
theorem x_str {k : Nat} (hk : k < 25) : ex1 C P y K Kn (.instanceof k) L S h = Kn L (.ref (100000 + k) :: S) h := by
  rw [ex1_def rfl]
  simp only [stepI, if_pos hk, ob_some]
theorem x_ifeq : ex1 C P y K Kn (.ifCond .eq t) L (.int x :: S) h = if x = nI 0 then K t.toNat L S h else Kn L S h := rfl
theorem x_ifne : ex1 C P y K Kn (.ifCond .ne t) L (.int x :: S) h = if x = nI 0 then Kn L S h else K t.toNat L S h := rfl
theorem x_iflt : ex1 C P y K Kn (.ifCond .lt t) L (.int x :: S) h = if x < nI 0 then K t.toNat L S h else Kn L S h := rfl
theorem x_ifge : ex1 C P y K Kn (.ifCond .ge t) L (.int x :: S) h = if x < nI 0 then Kn L S h else K t.toNat L S h := rfl
theorem x_ifgt : ex1 C P y K Kn (.ifCond .gt t) L (.int x :: S) h = if x ≤ nI 0 then Kn L S h else K t.toNat L S h := rfl
theorem x_ifle : ex1 C P y K Kn (.ifCond .le t) L (.int x :: S) h = if x ≤ nI 0 then K t.toNat L S h else Kn L S h := rfl
theorem x_iceq : ex1 C P y K Kn (.if_icmp .eq t) L (.int z :: .int x :: S) h = if x = z then K t.toNat L S h else Kn L S h := rfl
theorem x_icne : ex1 C P y K Kn (.if_icmp .ne t) L (.int z :: .int x :: S) h = if x = z then Kn L S h else K t.toNat L S h := rfl
theorem x_iclt : ex1 C P y K Kn (.if_icmp .lt t) L (.int z :: .int x :: S) h = if x < z then K t.toNat L S h else Kn L S h := rfl
theorem x_icge : ex1 C P y K Kn (.if_icmp .ge t) L (.int z :: .int x :: S) h = if x < z then Kn L S h else K t.toNat L S h := rfl
theorem x_icgt : ex1 C P y K Kn (.if_icmp .gt t) L (.int z :: .int x :: S) h = if z < x then K t.toNat L S h else Kn L S h := rfl
theorem x_icle : ex1 C P y K Kn (.if_icmp .le t) L (.int z :: .int x :: S) h = if z < x then Kn L S h else K t.toNat L S h := rfl
theorem x_iret : ex1 C P y K Kn .ireturn L [.int x] h = (retI y x ∧ P (some (.int x)) h) := rfl
theorem x_lret : ex1 C P y K Kn .lreturn L [.long u] h = (mR y = some .long ∧ P (some (.long u)) h) := rfl
theorem x_vret : ex1 C P y K Kn .return_ L [] h = (mR y = none ∧ P none h) := rfl
theorem szS_0 : szS [] = 0 := rfl
theorem szS_i : szS (.int x :: S) = szS S + 1 := rfl
theorem szS_r : szS (.ref a :: S) = szS S + 1 := rfl
theorem szS_l : szS (.long u :: S) = szS S + 2 := rfl
theorem x_call {m k : Nat} : ex1 C P y K Kn (.invokeinterface m k) L S h = ob (popA k S []) fun q => szS q.2 ≤ 8 ∧ callC C m q.1 h fun r h' => Kn L (pushR r q.2) h' := rfl
theorem x_tsw {d lo hi : Int} {offs : Array Int} : ex1 C P y K Kn (.tableswitch d lo hi offs) L (.int x :: S) h = if x.toInt < lo ∨ hi < x.toInt then K d.toNat L S h else ob (offs[(x.toInt - lo).toNat]?) fun o => K o.toNat L S h := rfl
theorem x_lsw {d : Int} {ps : Array (Int × Int)} : ex1 C P y K Kn (.lookupswitch d ps) L (.int x :: S) h = K (Op.lookupswitch.offset ps.toList d x.toInt).toNat L S h := rfl
theorem kl_i : kl (some (.int x)) = some (.int x) := rfl
theorem kl_r : kl (some (.ref a)) = some (.ref a) := rfl
theorem kl_l : kl (some (.long u)) = none := rfl
theorem kl_n : kl none = none := rfl
theorem push_n : pushR none S = S := rfl
theorem push_s : pushR (some w) S = w :: S := rfl
theorem pop_0 {acc : List Value} : popA 0 S acc = some (acc, S) := rfl
theorem pop_i {n : Nat} {acc : List Value} : popA (n + 1) (.int x :: S) acc = popA n S (.int x :: acc) := rfl
theorem pop_r {n : Nat} {acc : List Value} : popA (n + 1) (.ref a :: S) acc = popA n S (.ref a :: acc) := rfl
theorem pop_N {n : Nat} {acc : List Value} : popA (n + 1) (.null :: S) acc = popA n S (.null :: acc) := rfl
theorem x_il0 : ex1 C P y K Kn (.iload 0) (some (.int x) :: L) S h = Kn (some (.int x) :: L) (.int x :: S) h := rfl
theorem x_al0 : ex1 C P y K Kn (.aload 0) (some (.ref a) :: L) S h = Kn (some (.ref a) :: L) (.ref a :: S) h := rfl
theorem x_ll0 : ex1 C P y K Kn (.lload 0) (some (.long u) :: L) S h = Kn (some (.long u) :: L) (.long u :: S) h := rfl
theorem x_is0 {o : Option Value} : ex1 C P y K Kn (.istore 0) (o :: L) (.int x :: S) h = Kn (some (.int x) :: L) S h := by
  rw [ex1_def rfl]
  simp [stepI, stV, vty, setL, ob_some]
theorem x_as0 {o : Option Value} : ex1 C P y K Kn (.astore 0) (o :: L) (.ref a :: S) h = Kn (some (.ref a) :: L) S h := by
  rw [ex1_def rfl]
  simp [stepI, stV, vty, setL, ob_some]
theorem x_inc0 {n : Int} : ex1 C P y K Kn (.iinc 0 n) (some (.int x) :: L) S h = Kn (some (.int (x + Int32.ofInt n)) :: L) S h := by
  rw [ex1_def rfl]
  simp [stepI, incL, setL, ob_some]
theorem x_ls0 {o o2 : Option Value} : ex1 C P y K Kn (.lstore 0) (o :: o2 :: L) (.long u :: S) h = Kn (some (.long u) :: none :: L) S h := by
  rw [ex1_def rfl]
  simp [stepI, stV2, setL, setN, ob_some]
theorem x_il1 {a0 : Option Value} : ex1 C P y K Kn (.iload 1) (a0 :: some (.int x) :: L) S h = Kn (a0 :: some (.int x) :: L) (.int x :: S) h := rfl
theorem x_al1 {a0 : Option Value} : ex1 C P y K Kn (.aload 1) (a0 :: some (.ref a) :: L) S h = Kn (a0 :: some (.ref a) :: L) (.ref a :: S) h := rfl
theorem x_ll1 {a0 : Option Value} : ex1 C P y K Kn (.lload 1) (a0 :: some (.long u) :: L) S h = Kn (a0 :: some (.long u) :: L) (.long u :: S) h := rfl
theorem x_is1 {a0 : Option Value} {o : Option Value} : ex1 C P y K Kn (.istore 1) (a0 :: o :: L) (.int x :: S) h = Kn (kl a0 :: some (.int x) :: L) S h := by
  rw [ex1_def rfl]
  simp [stepI, stV, vty, setL, ob_some]
theorem x_as1 {a0 : Option Value} {o : Option Value} : ex1 C P y K Kn (.astore 1) (a0 :: o :: L) (.ref a :: S) h = Kn (kl a0 :: some (.ref a) :: L) S h := by
  rw [ex1_def rfl]
  simp [stepI, stV, vty, setL, ob_some]
theorem x_inc1 {a0 : Option Value} {n : Int} : ex1 C P y K Kn (.iinc 1 n) (a0 :: some (.int x) :: L) S h = Kn (kl a0 :: some (.int (x + Int32.ofInt n)) :: L) S h := by
  rw [ex1_def rfl]
  simp [stepI, incL, setL, ob_some]
theorem x_ls1 {a0 : Option Value} {o o2 : Option Value} : ex1 C P y K Kn (.lstore 1) (a0 :: o :: o2 :: L) (.long u :: S) h = Kn (kl a0 :: some (.long u) :: none :: L) S h := by
  rw [ex1_def rfl]
  simp [stepI, stV2, setL, setN, ob_some]
theorem x_il2 {a0 a1 : Option Value} : ex1 C P y K Kn (.iload 2) (a0 :: a1 :: some (.int x) :: L) S h = Kn (a0 :: a1 :: some (.int x) :: L) (.int x :: S) h := rfl
theorem x_al2 {a0 a1 : Option Value} : ex1 C P y K Kn (.aload 2) (a0 :: a1 :: some (.ref a) :: L) S h = Kn (a0 :: a1 :: some (.ref a) :: L) (.ref a :: S) h := rfl
theorem x_ll2 {a0 a1 : Option Value} : ex1 C P y K Kn (.lload 2) (a0 :: a1 :: some (.long u) :: L) S h = Kn (a0 :: a1 :: some (.long u) :: L) (.long u :: S) h := rfl
theorem x_is2 {a0 a1 : Option Value} {o : Option Value} : ex1 C P y K Kn (.istore 2) (a0 :: a1 :: o :: L) (.int x :: S) h = Kn (a0 :: kl a1 :: some (.int x) :: L) S h := by
  rw [ex1_def rfl]
  simp [stepI, stV, vty, setL, ob_some]
theorem x_as2 {a0 a1 : Option Value} {o : Option Value} : ex1 C P y K Kn (.astore 2) (a0 :: a1 :: o :: L) (.ref a :: S) h = Kn (a0 :: kl a1 :: some (.ref a) :: L) S h := by
  rw [ex1_def rfl]
  simp [stepI, stV, vty, setL, ob_some]
theorem x_inc2 {a0 a1 : Option Value} {n : Int} : ex1 C P y K Kn (.iinc 2 n) (a0 :: a1 :: some (.int x) :: L) S h = Kn (a0 :: kl a1 :: some (.int (x + Int32.ofInt n)) :: L) S h := by
  rw [ex1_def rfl]
  simp [stepI, incL, setL, ob_some]
theorem x_ls2 {a0 a1 : Option Value} {o o2 : Option Value} : ex1 C P y K Kn (.lstore 2) (a0 :: a1 :: o :: o2 :: L) (.long u :: S) h = Kn (a0 :: kl a1 :: some (.long u) :: none :: L) S h := by
  rw [ex1_def rfl]
  simp [stepI, stV2, setL, setN, ob_some]
theorem x_il3 {a0 a1 a2 : Option Value} : ex1 C P y K Kn (.iload 3) (a0 :: a1 :: a2 :: some (.int x) :: L) S h = Kn (a0 :: a1 :: a2 :: some (.int x) :: L) (.int x :: S) h := rfl
theorem x_al3 {a0 a1 a2 : Option Value} : ex1 C P y K Kn (.aload 3) (a0 :: a1 :: a2 :: some (.ref a) :: L) S h = Kn (a0 :: a1 :: a2 :: some (.ref a) :: L) (.ref a :: S) h := rfl
theorem x_ll3 {a0 a1 a2 : Option Value} : ex1 C P y K Kn (.lload 3) (a0 :: a1 :: a2 :: some (.long u) :: L) S h = Kn (a0 :: a1 :: a2 :: some (.long u) :: L) (.long u :: S) h := rfl
theorem x_is3 {a0 a1 a2 : Option Value} {o : Option Value} : ex1 C P y K Kn (.istore 3) (a0 :: a1 :: a2 :: o :: L) (.int x :: S) h = Kn (a0 :: a1 :: kl a2 :: some (.int x) :: L) S h := by
  rw [ex1_def rfl]
  simp [stepI, stV, vty, setL, ob_some]
theorem x_as3 {a0 a1 a2 : Option Value} {o : Option Value} : ex1 C P y K Kn (.astore 3) (a0 :: a1 :: a2 :: o :: L) (.ref a :: S) h = Kn (a0 :: a1 :: kl a2 :: some (.ref a) :: L) S h := by
  rw [ex1_def rfl]
  simp [stepI, stV, vty, setL, ob_some]
theorem x_inc3 {a0 a1 a2 : Option Value} {n : Int} : ex1 C P y K Kn (.iinc 3 n) (a0 :: a1 :: a2 :: some (.int x) :: L) S h = Kn (a0 :: a1 :: kl a2 :: some (.int (x + Int32.ofInt n)) :: L) S h := by
  rw [ex1_def rfl]
  simp [stepI, incL, setL, ob_some]
theorem x_ls3 {a0 a1 a2 : Option Value} {o o2 : Option Value} : ex1 C P y K Kn (.lstore 3) (a0 :: a1 :: a2 :: o :: o2 :: L) (.long u :: S) h = Kn (a0 :: a1 :: kl a2 :: some (.long u) :: none :: L) S h := by
  rw [ex1_def rfl]
  simp [stepI, stV2, setL, setN, ob_some]
theorem x_il4 {a0 a1 a2 a3 : Option Value} : ex1 C P y K Kn (.iload 4) (a0 :: a1 :: a2 :: a3 :: some (.int x) :: L) S h = Kn (a0 :: a1 :: a2 :: a3 :: some (.int x) :: L) (.int x :: S) h := rfl
theorem x_al4 {a0 a1 a2 a3 : Option Value} : ex1 C P y K Kn (.aload 4) (a0 :: a1 :: a2 :: a3 :: some (.ref a) :: L) S h = Kn (a0 :: a1 :: a2 :: a3 :: some (.ref a) :: L) (.ref a :: S) h := rfl
theorem x_ll4 {a0 a1 a2 a3 : Option Value} : ex1 C P y K Kn (.lload 4) (a0 :: a1 :: a2 :: a3 :: some (.long u) :: L) S h = Kn (a0 :: a1 :: a2 :: a3 :: some (.long u) :: L) (.long u :: S) h := rfl
theorem x_is4 {a0 a1 a2 a3 : Option Value} {o : Option Value} : ex1 C P y K Kn (.istore 4) (a0 :: a1 :: a2 :: a3 :: o :: L) (.int x :: S) h = Kn (a0 :: a1 :: a2 :: kl a3 :: some (.int x) :: L) S h := by
  rw [ex1_def rfl]
  simp [stepI, stV, vty, setL, ob_some]
theorem x_as4 {a0 a1 a2 a3 : Option Value} {o : Option Value} : ex1 C P y K Kn (.astore 4) (a0 :: a1 :: a2 :: a3 :: o :: L) (.ref a :: S) h = Kn (a0 :: a1 :: a2 :: kl a3 :: some (.ref a) :: L) S h := by
  rw [ex1_def rfl]
  simp [stepI, stV, vty, setL, ob_some]
theorem x_inc4 {a0 a1 a2 a3 : Option Value} {n : Int} : ex1 C P y K Kn (.iinc 4 n) (a0 :: a1 :: a2 :: a3 :: some (.int x) :: L) S h = Kn (a0 :: a1 :: a2 :: kl a3 :: some (.int (x + Int32.ofInt n)) :: L) S h := by
  rw [ex1_def rfl]
  simp [stepI, incL, setL, ob_some]
theorem x_ls4 {a0 a1 a2 a3 : Option Value} {o o2 : Option Value} : ex1 C P y K Kn (.lstore 4) (a0 :: a1 :: a2 :: a3 :: o :: o2 :: L) (.long u :: S) h = Kn (a0 :: a1 :: a2 :: kl a3 :: some (.long u) :: none :: L) S h := by
  rw [ex1_def rfl]
  simp [stepI, stV2, setL, setN, ob_some]
theorem x_il5 {a0 a1 a2 a3 a4 : Option Value} : ex1 C P y K Kn (.iload 5) (a0 :: a1 :: a2 :: a3 :: a4 :: some (.int x) :: L) S h = Kn (a0 :: a1 :: a2 :: a3 :: a4 :: some (.int x) :: L) (.int x :: S) h := rfl
theorem x_al5 {a0 a1 a2 a3 a4 : Option Value} : ex1 C P y K Kn (.aload 5) (a0 :: a1 :: a2 :: a3 :: a4 :: some (.ref a) :: L) S h = Kn (a0 :: a1 :: a2 :: a3 :: a4 :: some (.ref a) :: L) (.ref a :: S) h := rfl
theorem x_ll5 {a0 a1 a2 a3 a4 : Option Value} : ex1 C P y K Kn (.lload 5) (a0 :: a1 :: a2 :: a3 :: a4 :: some (.long u) :: L) S h = Kn (a0 :: a1 :: a2 :: a3 :: a4 :: some (.long u) :: L) (.long u :: S) h := rfl
theorem x_is5 {a0 a1 a2 a3 a4 : Option Value} {o : Option Value} : ex1 C P y K Kn (.istore 5) (a0 :: a1 :: a2 :: a3 :: a4 :: o :: L) (.int x :: S) h = Kn (a0 :: a1 :: a2 :: a3 :: kl a4 :: some (.int x) :: L) S h := by
  rw [ex1_def rfl]
  simp [stepI, stV, vty, setL, ob_some]
theorem x_as5 {a0 a1 a2 a3 a4 : Option Value} {o : Option Value} : ex1 C P y K Kn (.astore 5) (a0 :: a1 :: a2 :: a3 :: a4 :: o :: L) (.ref a :: S) h = Kn (a0 :: a1 :: a2 :: a3 :: kl a4 :: some (.ref a) :: L) S h := by
  rw [ex1_def rfl]
  simp [stepI, stV, vty, setL, ob_some]
theorem x_inc5 {a0 a1 a2 a3 a4 : Option Value} {n : Int} : ex1 C P y K Kn (.iinc 5 n) (a0 :: a1 :: a2 :: a3 :: a4 :: some (.int x) :: L) S h = Kn (a0 :: a1 :: a2 :: a3 :: kl a4 :: some (.int (x + Int32.ofInt n)) :: L) S h := by
  rw [ex1_def rfl]
  simp [stepI, incL, setL, ob_some]
theorem x_ls5 {a0 a1 a2 a3 a4 : Option Value} {o o2 : Option Value} : ex1 C P y K Kn (.lstore 5) (a0 :: a1 :: a2 :: a3 :: a4 :: o :: o2 :: L) (.long u :: S) h = Kn (a0 :: a1 :: a2 :: a3 :: kl a4 :: some (.long u) :: none :: L) S h := by
  rw [ex1_def rfl]
  simp [stepI, stV2, setL, setN, ob_some]
theorem x_il6 {a0 a1 a2 a3 a4 a5 : Option Value} : ex1 C P y K Kn (.iload 6) (a0 :: a1 :: a2 :: a3 :: a4 :: a5 :: some (.int x) :: L) S h = Kn (a0 :: a1 :: a2 :: a3 :: a4 :: a5 :: some (.int x) :: L) (.int x :: S) h := rfl
theorem x_al6 {a0 a1 a2 a3 a4 a5 : Option Value} : ex1 C P y K Kn (.aload 6) (a0 :: a1 :: a2 :: a3 :: a4 :: a5 :: some (.ref a) :: L) S h = Kn (a0 :: a1 :: a2 :: a3 :: a4 :: a5 :: some (.ref a) :: L) (.ref a :: S) h := rfl
theorem x_ll6 {a0 a1 a2 a3 a4 a5 : Option Value} : ex1 C P y K Kn (.lload 6) (a0 :: a1 :: a2 :: a3 :: a4 :: a5 :: some (.long u) :: L) S h = Kn (a0 :: a1 :: a2 :: a3 :: a4 :: a5 :: some (.long u) :: L) (.long u :: S) h := rfl
theorem x_is6 {a0 a1 a2 a3 a4 a5 : Option Value} {o : Option Value} : ex1 C P y K Kn (.istore 6) (a0 :: a1 :: a2 :: a3 :: a4 :: a5 :: o :: L) (.int x :: S) h = Kn (a0 :: a1 :: a2 :: a3 :: a4 :: kl a5 :: some (.int x) :: L) S h := by
  rw [ex1_def rfl]
  simp [stepI, stV, vty, setL, ob_some]
theorem x_as6 {a0 a1 a2 a3 a4 a5 : Option Value} {o : Option Value} : ex1 C P y K Kn (.astore 6) (a0 :: a1 :: a2 :: a3 :: a4 :: a5 :: o :: L) (.ref a :: S) h = Kn (a0 :: a1 :: a2 :: a3 :: a4 :: kl a5 :: some (.ref a) :: L) S h := by
  rw [ex1_def rfl]
  simp [stepI, stV, vty, setL, ob_some]
theorem x_inc6 {a0 a1 a2 a3 a4 a5 : Option Value} {n : Int} : ex1 C P y K Kn (.iinc 6 n) (a0 :: a1 :: a2 :: a3 :: a4 :: a5 :: some (.int x) :: L) S h = Kn (a0 :: a1 :: a2 :: a3 :: a4 :: kl a5 :: some (.int (x + Int32.ofInt n)) :: L) S h := by
  rw [ex1_def rfl]
  simp [stepI, incL, setL, ob_some]
theorem x_ls6 {a0 a1 a2 a3 a4 a5 : Option Value} {o o2 : Option Value} : ex1 C P y K Kn (.lstore 6) (a0 :: a1 :: a2 :: a3 :: a4 :: a5 :: o :: o2 :: L) (.long u :: S) h = Kn (a0 :: a1 :: a2 :: a3 :: a4 :: kl a5 :: some (.long u) :: none :: L) S h := by
  rw [ex1_def rfl]
  simp [stepI, stV2, setL, setN, ob_some]
theorem x_il7 {a0 a1 a2 a3 a4 a5 a6 : Option Value} : ex1 C P y K Kn (.iload 7) (a0 :: a1 :: a2 :: a3 :: a4 :: a5 :: a6 :: some (.int x) :: L) S h = Kn (a0 :: a1 :: a2 :: a3 :: a4 :: a5 :: a6 :: some (.int x) :: L) (.int x :: S) h := rfl
theorem x_al7 {a0 a1 a2 a3 a4 a5 a6 : Option Value} : ex1 C P y K Kn (.aload 7) (a0 :: a1 :: a2 :: a3 :: a4 :: a5 :: a6 :: some (.ref a) :: L) S h = Kn (a0 :: a1 :: a2 :: a3 :: a4 :: a5 :: a6 :: some (.ref a) :: L) (.ref a :: S) h := rfl
theorem x_ll7 {a0 a1 a2 a3 a4 a5 a6 : Option Value} : ex1 C P y K Kn (.lload 7) (a0 :: a1 :: a2 :: a3 :: a4 :: a5 :: a6 :: some (.long u) :: L) S h = Kn (a0 :: a1 :: a2 :: a3 :: a4 :: a5 :: a6 :: some (.long u) :: L) (.long u :: S) h := rfl
theorem x_is7 {a0 a1 a2 a3 a4 a5 a6 : Option Value} {o : Option Value} : ex1 C P y K Kn (.istore 7) (a0 :: a1 :: a2 :: a3 :: a4 :: a5 :: a6 :: o :: L) (.int x :: S) h = Kn (a0 :: a1 :: a2 :: a3 :: a4 :: a5 :: kl a6 :: some (.int x) :: L) S h := by
  rw [ex1_def rfl]
  simp [stepI, stV, vty, setL, ob_some]
theorem x_as7 {a0 a1 a2 a3 a4 a5 a6 : Option Value} {o : Option Value} : ex1 C P y K Kn (.astore 7) (a0 :: a1 :: a2 :: a3 :: a4 :: a5 :: a6 :: o :: L) (.ref a :: S) h = Kn (a0 :: a1 :: a2 :: a3 :: a4 :: a5 :: kl a6 :: some (.ref a) :: L) S h := by
  rw [ex1_def rfl]
  simp [stepI, stV, vty, setL, ob_some]
theorem x_inc7 {a0 a1 a2 a3 a4 a5 a6 : Option Value} {n : Int} : ex1 C P y K Kn (.iinc 7 n) (a0 :: a1 :: a2 :: a3 :: a4 :: a5 :: a6 :: some (.int x) :: L) S h = Kn (a0 :: a1 :: a2 :: a3 :: a4 :: a5 :: kl a6 :: some (.int (x + Int32.ofInt n)) :: L) S h := by
  rw [ex1_def rfl]
  simp [stepI, incL, setL, ob_some]
theorem x_ls7 {a0 a1 a2 a3 a4 a5 a6 : Option Value} {o o2 : Option Value} : ex1 C P y K Kn (.lstore 7) (a0 :: a1 :: a2 :: a3 :: a4 :: a5 :: a6 :: o :: o2 :: L) (.long u :: S) h = Kn (a0 :: a1 :: a2 :: a3 :: a4 :: a5 :: kl a6 :: some (.long u) :: none :: L) S h := by
  rw [ex1_def rfl]
  simp [stepI, stV2, setL, setN, ob_some]
theorem x_il8 {a0 a1 a2 a3 a4 a5 a6 a7 : Option Value} : ex1 C P y K Kn (.iload 8) (a0 :: a1 :: a2 :: a3 :: a4 :: a5 :: a6 :: a7 :: some (.int x) :: L) S h = Kn (a0 :: a1 :: a2 :: a3 :: a4 :: a5 :: a6 :: a7 :: some (.int x) :: L) (.int x :: S) h := rfl
theorem x_al8 {a0 a1 a2 a3 a4 a5 a6 a7 : Option Value} : ex1 C P y K Kn (.aload 8) (a0 :: a1 :: a2 :: a3 :: a4 :: a5 :: a6 :: a7 :: some (.ref a) :: L) S h = Kn (a0 :: a1 :: a2 :: a3 :: a4 :: a5 :: a6 :: a7 :: some (.ref a) :: L) (.ref a :: S) h := rfl
theorem x_ll8 {a0 a1 a2 a3 a4 a5 a6 a7 : Option Value} : ex1 C P y K Kn (.lload 8) (a0 :: a1 :: a2 :: a3 :: a4 :: a5 :: a6 :: a7 :: some (.long u) :: L) S h = Kn (a0 :: a1 :: a2 :: a3 :: a4 :: a5 :: a6 :: a7 :: some (.long u) :: L) (.long u :: S) h := rfl
theorem x_is8 {a0 a1 a2 a3 a4 a5 a6 a7 : Option Value} {o : Option Value} : ex1 C P y K Kn (.istore 8) (a0 :: a1 :: a2 :: a3 :: a4 :: a5 :: a6 :: a7 :: o :: L) (.int x :: S) h = Kn (a0 :: a1 :: a2 :: a3 :: a4 :: a5 :: a6 :: kl a7 :: some (.int x) :: L) S h := by
  rw [ex1_def rfl]
  simp [stepI, stV, vty, setL, ob_some]
theorem x_as8 {a0 a1 a2 a3 a4 a5 a6 a7 : Option Value} {o : Option Value} : ex1 C P y K Kn (.astore 8) (a0 :: a1 :: a2 :: a3 :: a4 :: a5 :: a6 :: a7 :: o :: L) (.ref a :: S) h = Kn (a0 :: a1 :: a2 :: a3 :: a4 :: a5 :: a6 :: kl a7 :: some (.ref a) :: L) S h := by
  rw [ex1_def rfl]
  simp [stepI, stV, vty, setL, ob_some]
theorem x_inc8 {a0 a1 a2 a3 a4 a5 a6 a7 : Option Value} {n : Int} : ex1 C P y K Kn (.iinc 8 n) (a0 :: a1 :: a2 :: a3 :: a4 :: a5 :: a6 :: a7 :: some (.int x) :: L) S h = Kn (a0 :: a1 :: a2 :: a3 :: a4 :: a5 :: a6 :: kl a7 :: some (.int (x + Int32.ofInt n)) :: L) S h := by
  rw [ex1_def rfl]
  simp [stepI, incL, setL, ob_some]
theorem x_il9 {a0 a1 a2 a3 a4 a5 a6 a7 a8 : Option Value} : ex1 C P y K Kn (.iload 9) (a0 :: a1 :: a2 :: a3 :: a4 :: a5 :: a6 :: a7 :: a8 :: some (.int x) :: L) S h = Kn (a0 :: a1 :: a2 :: a3 :: a4 :: a5 :: a6 :: a7 :: a8 :: some (.int x) :: L) (.int x :: S) h := rfl
theorem x_al9 {a0 a1 a2 a3 a4 a5 a6 a7 a8 : Option Value} : ex1 C P y K Kn (.aload 9) (a0 :: a1 :: a2 :: a3 :: a4 :: a5 :: a6 :: a7 :: a8 :: some (.ref a) :: L) S h = Kn (a0 :: a1 :: a2 :: a3 :: a4 :: a5 :: a6 :: a7 :: a8 :: some (.ref a) :: L) (.ref a :: S) h := rfl
theorem x_ll9 {a0 a1 a2 a3 a4 a5 a6 a7 a8 : Option Value} : ex1 C P y K Kn (.lload 9) (a0 :: a1 :: a2 :: a3 :: a4 :: a5 :: a6 :: a7 :: a8 :: some (.long u) :: L) S h = Kn (a0 :: a1 :: a2 :: a3 :: a4 :: a5 :: a6 :: a7 :: a8 :: some (.long u) :: L) (.long u :: S) h := rfl
theorem x_is9 {a0 a1 a2 a3 a4 a5 a6 a7 a8 : Option Value} {o : Option Value} : ex1 C P y K Kn (.istore 9) (a0 :: a1 :: a2 :: a3 :: a4 :: a5 :: a6 :: a7 :: a8 :: o :: L) (.int x :: S) h = Kn (a0 :: a1 :: a2 :: a3 :: a4 :: a5 :: a6 :: a7 :: kl a8 :: some (.int x) :: L) S h := by
  rw [ex1_def rfl]
  simp [stepI, stV, vty, setL, ob_some]
theorem x_as9 {a0 a1 a2 a3 a4 a5 a6 a7 a8 : Option Value} {o : Option Value} : ex1 C P y K Kn (.astore 9) (a0 :: a1 :: a2 :: a3 :: a4 :: a5 :: a6 :: a7 :: a8 :: o :: L) (.ref a :: S) h = Kn (a0 :: a1 :: a2 :: a3 :: a4 :: a5 :: a6 :: a7 :: kl a8 :: some (.ref a) :: L) S h := by
  rw [ex1_def rfl]
  simp [stepI, stV, vty, setL, ob_some]
theorem x_inc9 {a0 a1 a2 a3 a4 a5 a6 a7 a8 : Option Value} {n : Int} : ex1 C P y K Kn (.iinc 9 n) (a0 :: a1 :: a2 :: a3 :: a4 :: a5 :: a6 :: a7 :: a8 :: some (.int x) :: L) S h = Kn (a0 :: a1 :: a2 :: a3 :: a4 :: a5 :: a6 :: a7 :: kl a8 :: some (.int (x + Int32.ofInt n)) :: L) S h := by
  rw [ex1_def rfl]
  simp [stepI, incL, setL, ob_some]
theorem x_il10 {a0 a1 a2 a3 a4 a5 a6 a7 a8 a9 : Option Value} : ex1 C P y K Kn (.iload 10) (a0 :: a1 :: a2 :: a3 :: a4 :: a5 :: a6 :: a7 :: a8 :: a9 :: some (.int x) :: L) S h = Kn (a0 :: a1 :: a2 :: a3 :: a4 :: a5 :: a6 :: a7 :: a8 :: a9 :: some (.int x) :: L) (.int x :: S) h := rfl
theorem x_al10 {a0 a1 a2 a3 a4 a5 a6 a7 a8 a9 : Option Value} : ex1 C P y K Kn (.aload 10) (a0 :: a1 :: a2 :: a3 :: a4 :: a5 :: a6 :: a7 :: a8 :: a9 :: some (.ref a) :: L) S h = Kn (a0 :: a1 :: a2 :: a3 :: a4 :: a5 :: a6 :: a7 :: a8 :: a9 :: some (.ref a) :: L) (.ref a :: S) h := rfl
theorem x_ll10 {a0 a1 a2 a3 a4 a5 a6 a7 a8 a9 : Option Value} : ex1 C P y K Kn (.lload 10) (a0 :: a1 :: a2 :: a3 :: a4 :: a5 :: a6 :: a7 :: a8 :: a9 :: some (.long u) :: L) S h = Kn (a0 :: a1 :: a2 :: a3 :: a4 :: a5 :: a6 :: a7 :: a8 :: a9 :: some (.long u) :: L) (.long u :: S) h := rfl
theorem x_is10 {a0 a1 a2 a3 a4 a5 a6 a7 a8 a9 : Option Value} {o : Option Value} : ex1 C P y K Kn (.istore 10) (a0 :: a1 :: a2 :: a3 :: a4 :: a5 :: a6 :: a7 :: a8 :: a9 :: o :: L) (.int x :: S) h = Kn (a0 :: a1 :: a2 :: a3 :: a4 :: a5 :: a6 :: a7 :: a8 :: kl a9 :: some (.int x) :: L) S h := by
  rw [ex1_def rfl]
  simp [stepI, stV, vty, setL, ob_some]
theorem x_as10 {a0 a1 a2 a3 a4 a5 a6 a7 a8 a9 : Option Value} {o : Option Value} : ex1 C P y K Kn (.astore 10) (a0 :: a1 :: a2 :: a3 :: a4 :: a5 :: a6 :: a7 :: a8 :: a9 :: o :: L) (.ref a :: S) h = Kn (a0 :: a1 :: a2 :: a3 :: a4 :: a5 :: a6 :: a7 :: a8 :: kl a9 :: some (.ref a) :: L) S h := by
  rw [ex1_def rfl]
  simp [stepI, stV, vty, setL, ob_some]
theorem x_inc10 {a0 a1 a2 a3 a4 a5 a6 a7 a8 a9 : Option Value} {n : Int} : ex1 C P y K Kn (.iinc 10 n) (a0 :: a1 :: a2 :: a3 :: a4 :: a5 :: a6 :: a7 :: a8 :: a9 :: some (.int x) :: L) S h = Kn (a0 :: a1 :: a2 :: a3 :: a4 :: a5 :: a6 :: a7 :: a8 :: kl a9 :: some (.int (x + Int32.ofInt n)) :: L) S h := by
  rw [ex1_def rfl]
  simp [stepI, incL, setL, ob_some]
theorem x_il11 {a0 a1 a2 a3 a4 a5 a6 a7 a8 a9 a10 : Option Value} : ex1 C P y K Kn (.iload 11) (a0 :: a1 :: a2 :: a3 :: a4 :: a5 :: a6 :: a7 :: a8 :: a9 :: a10 :: some (.int x) :: L) S h = Kn (a0 :: a1 :: a2 :: a3 :: a4 :: a5 :: a6 :: a7 :: a8 :: a9 :: a10 :: some (.int x) :: L) (.int x :: S) h := rfl
theorem x_al11 {a0 a1 a2 a3 a4 a5 a6 a7 a8 a9 a10 : Option Value} : ex1 C P y K Kn (.aload 11) (a0 :: a1 :: a2 :: a3 :: a4 :: a5 :: a6 :: a7 :: a8 :: a9 :: a10 :: some (.ref a) :: L) S h = Kn (a0 :: a1 :: a2 :: a3 :: a4 :: a5 :: a6 :: a7 :: a8 :: a9 :: a10 :: some (.ref a) :: L) (.ref a :: S) h := rfl
theorem x_ll11 {a0 a1 a2 a3 a4 a5 a6 a7 a8 a9 a10 : Option Value} : ex1 C P y K Kn (.lload 11) (a0 :: a1 :: a2 :: a3 :: a4 :: a5 :: a6 :: a7 :: a8 :: a9 :: a10 :: some (.long u) :: L) S h = Kn (a0 :: a1 :: a2 :: a3 :: a4 :: a5 :: a6 :: a7 :: a8 :: a9 :: a10 :: some (.long u) :: L) (.long u :: S) h := rfl
theorem x_is11 {a0 a1 a2 a3 a4 a5 a6 a7 a8 a9 a10 : Option Value} {o : Option Value} : ex1 C P y K Kn (.istore 11) (a0 :: a1 :: a2 :: a3 :: a4 :: a5 :: a6 :: a7 :: a8 :: a9 :: a10 :: o :: L) (.int x :: S) h = Kn (a0 :: a1 :: a2 :: a3 :: a4 :: a5 :: a6 :: a7 :: a8 :: a9 :: kl a10 :: some (.int x) :: L) S h := by
  rw [ex1_def rfl]
  simp [stepI, stV, vty, setL, ob_some]
theorem x_as11 {a0 a1 a2 a3 a4 a5 a6 a7 a8 a9 a10 : Option Value} {o : Option Value} : ex1 C P y K Kn (.astore 11) (a0 :: a1 :: a2 :: a3 :: a4 :: a5 :: a6 :: a7 :: a8 :: a9 :: a10 :: o :: L) (.ref a :: S) h = Kn (a0 :: a1 :: a2 :: a3 :: a4 :: a5 :: a6 :: a7 :: a8 :: a9 :: kl a10 :: some (.ref a) :: L) S h := by
  rw [ex1_def rfl]
  simp [stepI, stV, vty, setL, ob_some]
theorem x_inc11 {a0 a1 a2 a3 a4 a5 a6 a7 a8 a9 a10 : Option Value} {n : Int} : ex1 C P y K Kn (.iinc 11 n) (a0 :: a1 :: a2 :: a3 :: a4 :: a5 :: a6 :: a7 :: a8 :: a9 :: a10 :: some (.int x) :: L) S h = Kn (a0 :: a1 :: a2 :: a3 :: a4 :: a5 :: a6 :: a7 :: a8 :: a9 :: kl a10 :: some (.int (x + Int32.ofInt n)) :: L) S h := by
  rw [ex1_def rfl]
  simp [stepI, incL, setL, ob_some]
theorem x_il12 {a0 a1 a2 a3 a4 a5 a6 a7 a8 a9 a10 a11 : Option Value} : ex1 C P y K Kn (.iload 12) (a0 :: a1 :: a2 :: a3 :: a4 :: a5 :: a6 :: a7 :: a8 :: a9 :: a10 :: a11 :: some (.int x) :: L) S h = Kn (a0 :: a1 :: a2 :: a3 :: a4 :: a5 :: a6 :: a7 :: a8 :: a9 :: a10 :: a11 :: some (.int x) :: L) (.int x :: S) h := rfl
theorem x_al12 {a0 a1 a2 a3 a4 a5 a6 a7 a8 a9 a10 a11 : Option Value} : ex1 C P y K Kn (.aload 12) (a0 :: a1 :: a2 :: a3 :: a4 :: a5 :: a6 :: a7 :: a8 :: a9 :: a10 :: a11 :: some (.ref a) :: L) S h = Kn (a0 :: a1 :: a2 :: a3 :: a4 :: a5 :: a6 :: a7 :: a8 :: a9 :: a10 :: a11 :: some (.ref a) :: L) (.ref a :: S) h := rfl
theorem x_ll12 {a0 a1 a2 a3 a4 a5 a6 a7 a8 a9 a10 a11 : Option Value} : ex1 C P y K Kn (.lload 12) (a0 :: a1 :: a2 :: a3 :: a4 :: a5 :: a6 :: a7 :: a8 :: a9 :: a10 :: a11 :: some (.long u) :: L) S h = Kn (a0 :: a1 :: a2 :: a3 :: a4 :: a5 :: a6 :: a7 :: a8 :: a9 :: a10 :: a11 :: some (.long u) :: L) (.long u :: S) h := rfl
theorem x_is12 {a0 a1 a2 a3 a4 a5 a6 a7 a8 a9 a10 a11 : Option Value} {o : Option Value} : ex1 C P y K Kn (.istore 12) (a0 :: a1 :: a2 :: a3 :: a4 :: a5 :: a6 :: a7 :: a8 :: a9 :: a10 :: a11 :: o :: L) (.int x :: S) h = Kn (a0 :: a1 :: a2 :: a3 :: a4 :: a5 :: a6 :: a7 :: a8 :: a9 :: a10 :: kl a11 :: some (.int x) :: L) S h := by
  rw [ex1_def rfl]
  simp [stepI, stV, vty, setL, ob_some]
theorem x_as12 {a0 a1 a2 a3 a4 a5 a6 a7 a8 a9 a10 a11 : Option Value} {o : Option Value} : ex1 C P y K Kn (.astore 12) (a0 :: a1 :: a2 :: a3 :: a4 :: a5 :: a6 :: a7 :: a8 :: a9 :: a10 :: a11 :: o :: L) (.ref a :: S) h = Kn (a0 :: a1 :: a2 :: a3 :: a4 :: a5 :: a6 :: a7 :: a8 :: a9 :: a10 :: kl a11 :: some (.ref a) :: L) S h := by
  rw [ex1_def rfl]
  simp [stepI, stV, vty, setL, ob_some]
theorem x_inc12 {a0 a1 a2 a3 a4 a5 a6 a7 a8 a9 a10 a11 : Option Value} {n : Int} : ex1 C P y K Kn (.iinc 12 n) (a0 :: a1 :: a2 :: a3 :: a4 :: a5 :: a6 :: a7 :: a8 :: a9 :: a10 :: a11 :: some (.int x) :: L) S h = Kn (a0 :: a1 :: a2 :: a3 :: a4 :: a5 :: a6 :: a7 :: a8 :: a9 :: a10 :: kl a11 :: some (.int (x + Int32.ofInt n)) :: L) S h := by
  rw [ex1_def rfl]
  simp [stepI, incL, setL, ob_some]
theorem x_il13 {a0 a1 a2 a3 a4 a5 a6 a7 a8 a9 a10 a11 a12 : Option Value} : ex1 C P y K Kn (.iload 13) (a0 :: a1 :: a2 :: a3 :: a4 :: a5 :: a6 :: a7 :: a8 :: a9 :: a10 :: a11 :: a12 :: some (.int x) :: L) S h = Kn (a0 :: a1 :: a2 :: a3 :: a4 :: a5 :: a6 :: a7 :: a8 :: a9 :: a10 :: a11 :: a12 :: some (.int x) :: L) (.int x :: S) h := rfl
theorem x_al13 {a0 a1 a2 a3 a4 a5 a6 a7 a8 a9 a10 a11 a12 : Option Value} : ex1 C P y K Kn (.aload 13) (a0 :: a1 :: a2 :: a3 :: a4 :: a5 :: a6 :: a7 :: a8 :: a9 :: a10 :: a11 :: a12 :: some (.ref a) :: L) S h = Kn (a0 :: a1 :: a2 :: a3 :: a4 :: a5 :: a6 :: a7 :: a8 :: a9 :: a10 :: a11 :: a12 :: some (.ref a) :: L) (.ref a :: S) h := rfl
theorem x_ll13 {a0 a1 a2 a3 a4 a5 a6 a7 a8 a9 a10 a11 a12 : Option Value} : ex1 C P y K Kn (.lload 13) (a0 :: a1 :: a2 :: a3 :: a4 :: a5 :: a6 :: a7 :: a8 :: a9 :: a10 :: a11 :: a12 :: some (.long u) :: L) S h = Kn (a0 :: a1 :: a2 :: a3 :: a4 :: a5 :: a6 :: a7 :: a8 :: a9 :: a10 :: a11 :: a12 :: some (.long u) :: L) (.long u :: S) h := rfl
theorem x_is13 {a0 a1 a2 a3 a4 a5 a6 a7 a8 a9 a10 a11 a12 : Option Value} {o : Option Value} : ex1 C P y K Kn (.istore 13) (a0 :: a1 :: a2 :: a3 :: a4 :: a5 :: a6 :: a7 :: a8 :: a9 :: a10 :: a11 :: a12 :: o :: L) (.int x :: S) h = Kn (a0 :: a1 :: a2 :: a3 :: a4 :: a5 :: a6 :: a7 :: a8 :: a9 :: a10 :: a11 :: kl a12 :: some (.int x) :: L) S h := by
  rw [ex1_def rfl]
  simp [stepI, stV, vty, setL, ob_some]
theorem x_as13 {a0 a1 a2 a3 a4 a5 a6 a7 a8 a9 a10 a11 a12 : Option Value} {o : Option Value} : ex1 C P y K Kn (.astore 13) (a0 :: a1 :: a2 :: a3 :: a4 :: a5 :: a6 :: a7 :: a8 :: a9 :: a10 :: a11 :: a12 :: o :: L) (.ref a :: S) h = Kn (a0 :: a1 :: a2 :: a3 :: a4 :: a5 :: a6 :: a7 :: a8 :: a9 :: a10 :: a11 :: kl a12 :: some (.ref a) :: L) S h := by
  rw [ex1_def rfl]
  simp [stepI, stV, vty, setL, ob_some]
theorem x_inc13 {a0 a1 a2 a3 a4 a5 a6 a7 a8 a9 a10 a11 a12 : Option Value} {n : Int} : ex1 C P y K Kn (.iinc 13 n) (a0 :: a1 :: a2 :: a3 :: a4 :: a5 :: a6 :: a7 :: a8 :: a9 :: a10 :: a11 :: a12 :: some (.int x) :: L) S h = Kn (a0 :: a1 :: a2 :: a3 :: a4 :: a5 :: a6 :: a7 :: a8 :: a9 :: a10 :: a11 :: kl a12 :: some (.int (x + Int32.ofInt n)) :: L) S h := by
  rw [ex1_def rfl]
  simp [stepI, incL, setL, ob_some]
theorem i_1 : Int32.ofInt 1 = nI 1 := rfl
theorem i_6 : Int32.ofInt 6 = nI 6 := rfl
theorem i_m1 : Int32.ofInt (-1) = -1 := rfl
theorem i_2 : Int32.ofInt 2 = nI 2 := rfl
theorem i_4 : Int32.ofInt 4 = nI 4 := rfl
theorem i_8 : Int32.ofInt 8 = nI 8 := rfl
theorem i_16 : Int32.ofInt 16 = nI 16 := rfl
theorem inb_E {n k : Nat} (hn : aln (E g q) a = some n) (hk : k < n) (h : n < 2147483648) : inb (E g q) a (nI k) = true := by
  unfold inb
  rw [hn]
  have := nI_toInt (n := k) (by omega)
  simp only [decide_eq_true_eq, this]
  omega
theorem alA {n : Nat} (hk : kd a = (0, n)) (ha : a < 220) : aln (E g q) a = some n := by
  unfold aln
  rw [hk]
  exact if_pos ha
theorem ldA {n k : Nat} (hk : kd a = (0, n)) (ha : a < 220) (h : k < n) (hn : n < 2147483648) : ild (E g q) a (nI k) = some (.int (g a k)) := by
  unfold ild
  rw [if_pos ⟨Or.inl (by rw [hk]), inb_E (alA hk ha) h hn⟩, nI_clamp (by omega)]
  rfl
theorem stA {n k : Nat} (hk : kd a = (0, n)) (ha : a < 220) (h : k < n) (hn : n < 2147483648) : ist (E g q) a (nI k) x = some (E (up2 g a k x) q) := by
  unfold ist
  rw [if_pos ⟨by rw [hk], inb_E (alA hk ha) h hn⟩, nI_clamp (by omega)]
  rfl
theorem rdA {n k b : Nat} (hk : kd a = (3, n)) (ha : a < 220) (h : k < n) (hn : n < 2147483648) (hr : R0 a k = some b) : rld (E g q) a (nI k) = some (.ref b) := by
  have e : aln (E g q) a = some n := by
    unfold aln
    rw [hk]
    exact if_pos ha
  unfold rld
  rw [if_pos ⟨Or.inr (by rw [hk]), inb_E e h hn⟩, nI_clamp (by omega)]
  show (R0 a k).map Value.ref = _
  rw [hr]
  rfl
theorem rdS {n k b : Nat} (hk : kd a = (2, n)) (ha : a < 220) (h : k < n) (hn : n < 2147483648) (hr : R0 a k = some b) : rld (E g q) a (nI k) = some (.ref b) := by
  have e : aln (E g q) a = some n := by
    unfold aln
    rw [hk]
    exact if_pos ha
  unfold rld
  rw [if_pos ⟨Or.inl (by rw [hk]), inb_E e h hn⟩, nI_clamp (by omega)]
  show (R0 a k).map Value.ref = _
  rw [hr]
  rfl
theorem llA {n k : Nat} (hk : kd a = (1, n)) (ha : a < 220) (h : k < n) (hn : n < 2147483648) : lld (E g q) a (nI k) = some (.long (q a k)) := by
  have e : aln (E g q) a = some n := by
    unfold aln
    rw [hk]
    exact if_pos ha
  unfold lld
  rw [if_pos ⟨by rw [hk], inb_E e h hn⟩, nI_clamp (by omega)]
  rfl
theorem slA {n k : Nat} (hk : kd a = (1, n)) (ha : a < 220) (h : k < n) (hn : n < 2147483648) : lst (E g q) a (nI k) u = some (E g (up2 q a k u)) := by
  have e : aln (E g q) a = some n := by
    unfold aln
    rw [hk]
    exact if_pos ha
  unfold lst
  rw [if_pos ⟨by rw [hk], inb_E e h hn⟩, nI_clamp (by omega)]
  rfl
theorem fdI {f : Nat} (hf : f < 9000) (hk : kd a = (4, f / 100)) (ha : a < 220) (hn : f % 100 < fn (f / 100)) (hy : fy (f / 100) (f % 100) ≠ 2) : fld (E g q) a f = some (.int (g a (f % 100))) := by
  unfold fld
  rw [if_neg (by omega), if_neg (by omega), if_pos ⟨hk, ha, hn⟩, if_neg hy]
  rfl
theorem fdR {f b : Nat} (hf : f < 9000) (hk : kd a = (4, f / 100)) (ha : a < 220) (hn : f % 100 < fn (f / 100)) (hy : fy (f / 100) (f % 100) = 2) (hr : R0 a (f % 100) = some b) : fld (E g q) a f = some (.ref b) := by
  unfold fld
  rw [if_neg (by omega), if_neg (by omega), if_pos ⟨hk, ha, hn⟩, if_pos hy]
  show (R0 a (f % 100)).map Value.ref = _
  rw [hr]
  rfl
theorem sfI {f : Nat} (hk : kd a = (4, f / 100)) (ha : a < 220) (hn : f % 100 < fn (f / 100)) (hfi : (ftab (f / 100) (f % 100)).2.2.2 = false) (hy : fy (f / 100) (f % 100) = 0) : sfd y (E g q) a f (.int x) = some (E (up2 g a (f % 100) x) q) := by
  exact if_pos ⟨hk, ha, hn, hfi, Or.inl hy⟩
theorem sfZ {f : Nat} (hk : kd a = (4, f / 100)) (ha : a < 220) (hn : f % 100 < fn (f / 100)) (hfi : (ftab (f / 100) (f % 100)).2.2.2 = false) (hy : fy (f / 100) (f % 100) = 1) (hx : x = 0 ∨ x = 1) : sfd y (E g q) a f (.int x) = some (E (up2 g a (f % 100) x) q) := by
  exact if_pos ⟨hk, ha, hn, hfi, Or.inr ⟨hy, hx⟩⟩
end XR
section XC
variable {g : Nat → Nat → Int32} {q : Nat → Nat → Int64} {x : Int32} {u : Int64} {k y : Nat}
theorem fd_0_0 : fld (E g q) 0 1100 = some (.ref 1) := fdR (by decide) rfl (by decide) (by decide) rfl rfl
theorem fd_0_1 : fld (E g q) 0 1101 = some (.ref 31) := fdR (by decide) rfl (by decide) (by decide) rfl rfl
theorem fd_0_2 : fld (E g q) 0 1102 = some (.ref 61) := fdR (by decide) rfl (by decide) (by decide) rfl rfl
theorem fd_0_3 : fld (E g q) 0 1103 = some (.ref 91) := fdR (by decide) rfl (by decide) (by decide) rfl rfl
theorem fd_0_4 : fld (E g q) 0 1104 = some (.ref 168) := fdR (by decide) rfl (by decide) (by decide) rfl rfl
theorem fd_0_5 : fld (E g q) 0 1105 = some (.ref 173) := fdR (by decide) rfl (by decide) (by decide) rfl rfl
theorem fd_0_6 : fld (E g q) 0 1106 = some (.ref 174) := fdR (by decide) rfl (by decide) (by decide) rfl rfl
theorem fd_0_7 : fld (E g q) 0 1107 = some (.ref 182) := fdR (by decide) rfl (by decide) (by decide) rfl rfl
theorem fd_0_8 : fld (E g q) 0 1108 = some (.ref 184) := fdR (by decide) rfl (by decide) (by decide) rfl rfl
theorem fd_0_9 : fld (E g q) 0 1109 = some (.int (g 0 9)) := fdI (by decide) rfl (by decide) (by decide) (by decide)
theorem sf_0_9 (hx : x = 0 ∨ x = 1) : sfd y (E g q) 0 1109 (.int x) = some (E (up2 g 0 9 x) q) := sfZ rfl (by decide) (by decide) rfl rfl hx
theorem fd_1_0 : fld (E g q) 1 900 = some (.ref 2) := fdR (by decide) rfl (by decide) (by decide) rfl rfl
theorem fd_1_1 : fld (E g q) 1 901 = some (.ref 7) := fdR (by decide) rfl (by decide) (by decide) rfl rfl
theorem fd_1_2 : fld (E g q) 1 902 = some (.ref 22) := fdR (by decide) rfl (by decide) (by decide) rfl rfl
theorem fd_1_3 : fld (E g q) 1 903 = some (.ref 26) := fdR (by decide) rfl (by decide) (by decide) rfl rfl
theorem fd_1_4 : fld (E g q) 1 904 = some (.ref 30) := fdR (by decide) rfl (by decide) (by decide) rfl rfl
theorem fd_2_0 : fld (E g q) 2 100 = some (.int (g 2 0)) := fdI (by decide) rfl (by decide) (by decide) (by decide)
theorem sf_2_0 : sfd y (E g q) 2 100 (.int x) = some (E (up2 g 2 0 x) q) := sfI rfl (by decide) (by decide) rfl rfl
theorem fd_2_1 : fld (E g q) 2 101 = some (.ref 3) := fdR (by decide) rfl (by decide) (by decide) rfl rfl
theorem fd_2_2 : fld (E g q) 2 102 = some (.ref 4) := fdR (by decide) rfl (by decide) (by decide) rfl rfl
theorem fd_2_3 : fld (E g q) 2 103 = some (.ref 5) := fdR (by decide) rfl (by decide) (by decide) rfl rfl
theorem fd_2_4 : fld (E g q) 2 104 = some (.ref 6) := fdR (by decide) rfl (by decide) (by decide) rfl rfl
theorem ld_3 (h : k < 16) : ild (E g q) 3 (nI k) = some (.int (g 3 k)) := ldA rfl (by decide) h (by decide)
theorem sd_3 (h : k < 16) : ist (E g q) 3 (nI k) x = some (E (up2 g 3 k x) q) := stA rfl (by decide) h (by decide)
theorem ln_3 : aln (E g q) 3 = some 16 := alA rfl (by decide)
theorem ld_4 (h : k < 16) : ild (E g q) 4 (nI k) = some (.int (g 4 k)) := ldA rfl (by decide) h (by decide)
theorem sd_4 (h : k < 16) : ist (E g q) 4 (nI k) x = some (E (up2 g 4 k x) q) := stA rfl (by decide) h (by decide)
theorem ln_4 : aln (E g q) 4 = some 16 := alA rfl (by decide)
theorem ld_5 (h : k < 48) : ild (E g q) 5 (nI k) = some (.int (g 5 k)) := ldA rfl (by decide) h (by decide)
theorem sd_5 (h : k < 48) : ist (E g q) 5 (nI k) x = some (E (up2 g 5 k x) q) := stA rfl (by decide) h (by decide)
theorem ln_5 : aln (E g q) 5 = some 48 := alA rfl (by decide)
theorem ld_6 (h : k < 256) : ild (E g q) 6 (nI k) = some (.int (g 6 k)) := ldA rfl (by decide) h (by decide)
theorem sd_6 (h : k < 256) : ist (E g q) 6 (nI k) x = some (E (up2 g 6 k x) q) := stA rfl (by decide) h (by decide)
theorem ln_6 : aln (E g q) 6 = some 256 := alA rfl (by decide)
theorem fd_7_0 : fld (E g q) 7 700 = some (.int (g 7 0)) := fdI (by decide) rfl (by decide) (by decide) (by decide)
theorem sf_7_0 : sfd y (E g q) 7 700 (.int x) = some (E (up2 g 7 0 x) q) := sfI rfl (by decide) (by decide) rfl rfl
theorem fd_7_1 : fld (E g q) 7 701 = some (.int (g 7 1)) := fdI (by decide) rfl (by decide) (by decide) (by decide)
theorem sf_7_1 : sfd y (E g q) 7 701 (.int x) = some (E (up2 g 7 1 x) q) := sfI rfl (by decide) (by decide) rfl rfl
theorem fd_7_2 : fld (E g q) 7 702 = some (.int (g 7 2)) := fdI (by decide) rfl (by decide) (by decide) (by decide)
theorem sf_7_2 : sfd y (E g q) 7 702 (.int x) = some (E (up2 g 7 2 x) q) := sfI rfl (by decide) (by decide) rfl rfl
theorem fd_7_3 : fld (E g q) 7 703 = some (.int (g 7 3)) := fdI (by decide) rfl (by decide) (by decide) (by decide)
theorem sf_7_3 : sfd y (E g q) 7 703 (.int x) = some (E (up2 g 7 3 x) q) := sfI rfl (by decide) (by decide) rfl rfl
theorem fd_7_4 : fld (E g q) 7 704 = some (.int (g 7 4)) := fdI (by decide) rfl (by decide) (by decide) (by decide)
theorem sf_7_4 : sfd y (E g q) 7 704 (.int x) = some (E (up2 g 7 4 x) q) := sfI rfl (by decide) (by decide) rfl rfl
theorem fd_7_5 : fld (E g q) 7 705 = some (.ref 8) := fdR (by decide) rfl (by decide) (by decide) rfl rfl
theorem fd_7_6 : fld (E g q) 7 706 = some (.ref 9) := fdR (by decide) rfl (by decide) (by decide) rfl rfl
theorem fd_7_7 : fld (E g q) 7 707 = some (.ref 18) := fdR (by decide) rfl (by decide) (by decide) rfl rfl
theorem fd_7_8 : fld (E g q) 7 708 = some (.ref 19) := fdR (by decide) rfl (by decide) (by decide) rfl rfl
theorem fd_7_9 : fld (E g q) 7 709 = some (.ref 20) := fdR (by decide) rfl (by decide) (by decide) rfl rfl
theorem fd_7_10 : fld (E g q) 7 710 = some (.ref 21) := fdR (by decide) rfl (by decide) (by decide) rfl rfl
theorem ld_8 (h : k < 4) : ild (E g q) 8 (nI k) = some (.int (g 8 k)) := ldA rfl (by decide) h (by decide)
theorem sd_8 (h : k < 4) : ist (E g q) 8 (nI k) x = some (E (up2 g 8 k x) q) := stA rfl (by decide) h (by decide)
theorem ln_8 : aln (E g q) 8 = some 4 := alA rfl (by decide)
theorem ld_9_0 : rld (E g q) 9 (nI 0) = some (.ref 10) := rdA (n := 8) rfl (by decide) (by decide) (by decide) rfl
theorem ld_9_1 : rld (E g q) 9 (nI 1) = some (.ref 11) := rdA (n := 8) rfl (by decide) (by decide) (by decide) rfl
theorem ld_9_2 : rld (E g q) 9 (nI 2) = some (.ref 12) := rdA (n := 8) rfl (by decide) (by decide) (by decide) rfl
theorem ld_9_3 : rld (E g q) 9 (nI 3) = some (.ref 13) := rdA (n := 8) rfl (by decide) (by decide) (by decide) rfl
theorem ld_9_4 : rld (E g q) 9 (nI 4) = some (.ref 14) := rdA (n := 8) rfl (by decide) (by decide) (by decide) rfl
theorem ld_9_5 : rld (E g q) 9 (nI 5) = some (.ref 15) := rdA (n := 8) rfl (by decide) (by decide) (by decide) rfl
theorem ld_9_6 : rld (E g q) 9 (nI 6) = some (.ref 16) := rdA (n := 8) rfl (by decide) (by decide) (by decide) rfl
theorem ld_9_7 : rld (E g q) 9 (nI 7) = some (.ref 17) := rdA (n := 8) rfl (by decide) (by decide) (by decide) rfl
theorem ld_10 (h : k < 16) : ild (E g q) 10 (nI k) = some (.int (g 10 k)) := ldA rfl (by decide) h (by decide)
theorem sd_10 (h : k < 16) : ist (E g q) 10 (nI k) x = some (E (up2 g 10 k x) q) := stA rfl (by decide) h (by decide)
theorem ln_10 : aln (E g q) 10 = some 16 := alA rfl (by decide)
theorem ld_11 (h : k < 16) : ild (E g q) 11 (nI k) = some (.int (g 11 k)) := ldA rfl (by decide) h (by decide)
theorem sd_11 (h : k < 16) : ist (E g q) 11 (nI k) x = some (E (up2 g 11 k x) q) := stA rfl (by decide) h (by decide)
theorem ln_11 : aln (E g q) 11 = some 16 := alA rfl (by decide)
theorem ld_12 (h : k < 16) : ild (E g q) 12 (nI k) = some (.int (g 12 k)) := ldA rfl (by decide) h (by decide)
theorem sd_12 (h : k < 16) : ist (E g q) 12 (nI k) x = some (E (up2 g 12 k x) q) := stA rfl (by decide) h (by decide)
theorem ln_12 : aln (E g q) 12 = some 16 := alA rfl (by decide)
theorem ld_13 (h : k < 16) : ild (E g q) 13 (nI k) = some (.int (g 13 k)) := ldA rfl (by decide) h (by decide)
theorem sd_13 (h : k < 16) : ist (E g q) 13 (nI k) x = some (E (up2 g 13 k x) q) := stA rfl (by decide) h (by decide)
theorem ln_13 : aln (E g q) 13 = some 16 := alA rfl (by decide)
theorem ld_14 (h : k < 16) : ild (E g q) 14 (nI k) = some (.int (g 14 k)) := ldA rfl (by decide) h (by decide)
theorem sd_14 (h : k < 16) : ist (E g q) 14 (nI k) x = some (E (up2 g 14 k x) q) := stA rfl (by decide) h (by decide)
theorem ln_14 : aln (E g q) 14 = some 16 := alA rfl (by decide)
theorem ld_15 (h : k < 16) : ild (E g q) 15 (nI k) = some (.int (g 15 k)) := ldA rfl (by decide) h (by decide)
theorem sd_15 (h : k < 16) : ist (E g q) 15 (nI k) x = some (E (up2 g 15 k x) q) := stA rfl (by decide) h (by decide)
theorem ln_15 : aln (E g q) 15 = some 16 := alA rfl (by decide)
theorem ld_16 (h : k < 16) : ild (E g q) 16 (nI k) = some (.int (g 16 k)) := ldA rfl (by decide) h (by decide)
theorem sd_16 (h : k < 16) : ist (E g q) 16 (nI k) x = some (E (up2 g 16 k x) q) := stA rfl (by decide) h (by decide)
theorem ln_16 : aln (E g q) 16 = some 16 := alA rfl (by decide)
theorem ld_17 (h : k < 16) : ild (E g q) 17 (nI k) = some (.int (g 17 k)) := ldA rfl (by decide) h (by decide)
theorem sd_17 (h : k < 16) : ist (E g q) 17 (nI k) x = some (E (up2 g 17 k x) q) := stA rfl (by decide) h (by decide)
theorem ln_17 : aln (E g q) 17 = some 16 := alA rfl (by decide)
theorem ld_18 (h : k < 16) : ild (E g q) 18 (nI k) = some (.int (g 18 k)) := ldA rfl (by decide) h (by decide)
theorem sd_18 (h : k < 16) : ist (E g q) 18 (nI k) x = some (E (up2 g 18 k x) q) := stA rfl (by decide) h (by decide)
theorem ln_18 : aln (E g q) 18 = some 16 := alA rfl (by decide)
theorem ld_19 (h : k < 16) : ild (E g q) 19 (nI k) = some (.int (g 19 k)) := ldA rfl (by decide) h (by decide)
theorem sd_19 (h : k < 16) : ist (E g q) 19 (nI k) x = some (E (up2 g 19 k x) q) := stA rfl (by decide) h (by decide)
theorem ln_19 : aln (E g q) 19 = some 16 := alA rfl (by decide)
theorem ld_20 (h : k < 48) : ild (E g q) 20 (nI k) = some (.int (g 20 k)) := ldA rfl (by decide) h (by decide)
theorem sd_20 (h : k < 48) : ist (E g q) 20 (nI k) x = some (E (up2 g 20 k x) q) := stA rfl (by decide) h (by decide)
theorem ln_20 : aln (E g q) 20 = some 48 := alA rfl (by decide)
theorem ld_21 (h : k < 256) : ild (E g q) 21 (nI k) = some (.int (g 21 k)) := ldA rfl (by decide) h (by decide)
theorem sd_21 (h : k < 256) : ist (E g q) 21 (nI k) x = some (E (up2 g 21 k x) q) := stA rfl (by decide) h (by decide)
theorem ln_21 : aln (E g q) 21 = some 256 := alA rfl (by decide)
theorem fd_22_0 : fld (E g q) 22 200 = some (.int (g 22 0)) := fdI (by decide) rfl (by decide) (by decide) (by decide)
theorem sf_22_0 : sfd y (E g q) 22 200 (.int x) = some (E (up2 g 22 0 x) q) := sfI rfl (by decide) (by decide) rfl rfl
theorem fd_22_1 : fld (E g q) 22 201 = some (.int (g 22 1)) := fdI (by decide) rfl (by decide) (by decide) (by decide)
theorem sf_22_1 : sfd y (E g q) 22 201 (.int x) = some (E (up2 g 22 1 x) q) := sfI rfl (by decide) (by decide) rfl rfl
theorem fd_22_2 : fld (E g q) 22 202 = some (.ref 23) := fdR (by decide) rfl (by decide) (by decide) rfl rfl
theorem fd_22_3 : fld (E g q) 22 203 = some (.ref 24) := fdR (by decide) rfl (by decide) (by decide) rfl rfl
theorem fd_22_4 : fld (E g q) 22 204 = some (.ref 25) := fdR (by decide) rfl (by decide) (by decide) rfl rfl
theorem ld_23 (h : k < 400) : ild (E g q) 23 (nI k) = some (.int (g 23 k)) := ldA rfl (by decide) h (by decide)
theorem sd_23 (h : k < 400) : ist (E g q) 23 (nI k) x = some (E (up2 g 23 k x) q) := stA rfl (by decide) h (by decide)
theorem ln_23 : aln (E g q) 23 = some 400 := alA rfl (by decide)
theorem ld_24 (h : k < 33) : ild (E g q) 24 (nI k) = some (.int (g 24 k)) := ldA rfl (by decide) h (by decide)
theorem sd_24 (h : k < 33) : ist (E g q) 24 (nI k) x = some (E (up2 g 24 k x) q) := stA rfl (by decide) h (by decide)
theorem ln_24 : aln (E g q) 24 = some 33 := alA rfl (by decide)
theorem ld_25 (h : k < 64) : ild (E g q) 25 (nI k) = some (.int (g 25 k)) := ldA rfl (by decide) h (by decide)
theorem sd_25 (h : k < 64) : ist (E g q) 25 (nI k) x = some (E (up2 g 25 k x) q) := stA rfl (by decide) h (by decide)
theorem ln_25 : aln (E g q) 25 = some 64 := alA rfl (by decide)
theorem fd_26_0 : fld (E g q) 26 200 = some (.int (g 26 0)) := fdI (by decide) rfl (by decide) (by decide) (by decide)
theorem sf_26_0 : sfd y (E g q) 26 200 (.int x) = some (E (up2 g 26 0 x) q) := sfI rfl (by decide) (by decide) rfl rfl
theorem fd_26_1 : fld (E g q) 26 201 = some (.int (g 26 1)) := fdI (by decide) rfl (by decide) (by decide) (by decide)
theorem sf_26_1 : sfd y (E g q) 26 201 (.int x) = some (E (up2 g 26 1 x) q) := sfI rfl (by decide) (by decide) rfl rfl
theorem fd_26_2 : fld (E g q) 26 202 = some (.ref 27) := fdR (by decide) rfl (by decide) (by decide) rfl rfl
theorem fd_26_3 : fld (E g q) 26 203 = some (.ref 28) := fdR (by decide) rfl (by decide) (by decide) rfl rfl
theorem fd_26_4 : fld (E g q) 26 204 = some (.ref 29) := fdR (by decide) rfl (by decide) (by decide) rfl rfl
theorem ld_27 (h : k < 400) : ild (E g q) 27 (nI k) = some (.int (g 27 k)) := ldA rfl (by decide) h (by decide)
theorem sd_27 (h : k < 400) : ist (E g q) 27 (nI k) x = some (E (up2 g 27 k x) q) := stA rfl (by decide) h (by decide)
theorem ln_27 : aln (E g q) 27 = some 400 := alA rfl (by decide)
theorem ld_28 (h : k < 33) : ild (E g q) 28 (nI k) = some (.int (g 28 k)) := ldA rfl (by decide) h (by decide)
theorem sd_28 (h : k < 33) : ist (E g q) 28 (nI k) x = some (E (up2 g 28 k x) q) := stA rfl (by decide) h (by decide)
theorem ln_28 : aln (E g q) 28 = some 33 := alA rfl (by decide)
theorem ld_29 (h : k < 64) : ild (E g q) 29 (nI k) = some (.int (g 29 k)) := ldA rfl (by decide) h (by decide)
theorem sd_29 (h : k < 64) : ist (E g q) 29 (nI k) x = some (E (up2 g 29 k x) q) := stA rfl (by decide) h (by decide)
theorem ln_29 : aln (E g q) 29 = some 64 := alA rfl (by decide)
theorem ld_30 (h : k < 600) : ild (E g q) 30 (nI k) = some (.int (g 30 k)) := ldA rfl (by decide) h (by decide)
theorem sd_30 (h : k < 600) : ist (E g q) 30 (nI k) x = some (E (up2 g 30 k x) q) := stA rfl (by decide) h (by decide)
theorem ln_30 : aln (E g q) 30 = some 600 := alA rfl (by decide)
theorem fd_31_0 : fld (E g q) 31 900 = some (.ref 32) := fdR (by decide) rfl (by decide) (by decide) rfl rfl
theorem fd_31_1 : fld (E g q) 31 901 = some (.ref 37) := fdR (by decide) rfl (by decide) (by decide) rfl rfl
theorem fd_31_2 : fld (E g q) 31 902 = some (.ref 52) := fdR (by decide) rfl (by decide) (by decide) rfl rfl
theorem fd_31_3 : fld (E g q) 31 903 = some (.ref 56) := fdR (by decide) rfl (by decide) (by decide) rfl rfl
theorem fd_31_4 : fld (E g q) 31 904 = some (.ref 60) := fdR (by decide) rfl (by decide) (by decide) rfl rfl
theorem fd_32_0 : fld (E g q) 32 100 = some (.int (g 32 0)) := fdI (by decide) rfl (by decide) (by decide) (by decide)
theorem sf_32_0 : sfd y (E g q) 32 100 (.int x) = some (E (up2 g 32 0 x) q) := sfI rfl (by decide) (by decide) rfl rfl
theorem fd_32_1 : fld (E g q) 32 101 = some (.ref 33) := fdR (by decide) rfl (by decide) (by decide) rfl rfl
theorem fd_32_2 : fld (E g q) 32 102 = some (.ref 34) := fdR (by decide) rfl (by decide) (by decide) rfl rfl
theorem fd_32_3 : fld (E g q) 32 103 = some (.ref 35) := fdR (by decide) rfl (by decide) (by decide) rfl rfl
theorem fd_32_4 : fld (E g q) 32 104 = some (.ref 36) := fdR (by decide) rfl (by decide) (by decide) rfl rfl
theorem ld_33 (h : k < 16) : ild (E g q) 33 (nI k) = some (.int (g 33 k)) := ldA rfl (by decide) h (by decide)
theorem sd_33 (h : k < 16) : ist (E g q) 33 (nI k) x = some (E (up2 g 33 k x) q) := stA rfl (by decide) h (by decide)
theorem ln_33 : aln (E g q) 33 = some 16 := alA rfl (by decide)
theorem ld_34 (h : k < 16) : ild (E g q) 34 (nI k) = some (.int (g 34 k)) := ldA rfl (by decide) h (by decide)
theorem sd_34 (h : k < 16) : ist (E g q) 34 (nI k) x = some (E (up2 g 34 k x) q) := stA rfl (by decide) h (by decide)
theorem ln_34 : aln (E g q) 34 = some 16 := alA rfl (by decide)
theorem ld_35 (h : k < 48) : ild (E g q) 35 (nI k) = some (.int (g 35 k)) := ldA rfl (by decide) h (by decide)
theorem sd_35 (h : k < 48) : ist (E g q) 35 (nI k) x = some (E (up2 g 35 k x) q) := stA rfl (by decide) h (by decide)
theorem ln_35 : aln (E g q) 35 = some 48 := alA rfl (by decide)
theorem ld_36 (h : k < 256) : ild (E g q) 36 (nI k) = some (.int (g 36 k)) := ldA rfl (by decide) h (by decide)
theorem sd_36 (h : k < 256) : ist (E g q) 36 (nI k) x = some (E (up2 g 36 k x) q) := stA rfl (by decide) h (by decide)
theorem ln_36 : aln (E g q) 36 = some 256 := alA rfl (by decide)
theorem fd_37_0 : fld (E g q) 37 700 = some (.int (g 37 0)) := fdI (by decide) rfl (by decide) (by decide) (by decide)
theorem sf_37_0 : sfd y (E g q) 37 700 (.int x) = some (E (up2 g 37 0 x) q) := sfI rfl (by decide) (by decide) rfl rfl
theorem fd_37_1 : fld (E g q) 37 701 = some (.int (g 37 1)) := fdI (by decide) rfl (by decide) (by decide) (by decide)
theorem sf_37_1 : sfd y (E g q) 37 701 (.int x) = some (E (up2 g 37 1 x) q) := sfI rfl (by decide) (by decide) rfl rfl
theorem fd_37_2 : fld (E g q) 37 702 = some (.int (g 37 2)) := fdI (by decide) rfl (by decide) (by decide) (by decide)
theorem sf_37_2 : sfd y (E g q) 37 702 (.int x) = some (E (up2 g 37 2 x) q) := sfI rfl (by decide) (by decide) rfl rfl
theorem fd_37_3 : fld (E g q) 37 703 = some (.int (g 37 3)) := fdI (by decide) rfl (by decide) (by decide) (by decide)
theorem sf_37_3 : sfd y (E g q) 37 703 (.int x) = some (E (up2 g 37 3 x) q) := sfI rfl (by decide) (by decide) rfl rfl
theorem fd_37_4 : fld (E g q) 37 704 = some (.int (g 37 4)) := fdI (by decide) rfl (by decide) (by decide) (by decide)
theorem sf_37_4 : sfd y (E g q) 37 704 (.int x) = some (E (up2 g 37 4 x) q) := sfI rfl (by decide) (by decide) rfl rfl
theorem fd_37_5 : fld (E g q) 37 705 = some (.ref 38) := fdR (by decide) rfl (by decide) (by decide) rfl rfl
theorem fd_37_6 : fld (E g q) 37 706 = some (.ref 39) := fdR (by decide) rfl (by decide) (by decide) rfl rfl
theorem fd_37_7 : fld (E g q) 37 707 = some (.ref 48) := fdR (by decide) rfl (by decide) (by decide) rfl rfl
theorem fd_37_8 : fld (E g q) 37 708 = some (.ref 49) := fdR (by decide) rfl (by decide) (by decide) rfl rfl
theorem fd_37_9 : fld (E g q) 37 709 = some (.ref 50) := fdR (by decide) rfl (by decide) (by decide) rfl rfl
theorem fd_37_10 : fld (E g q) 37 710 = some (.ref 51) := fdR (by decide) rfl (by decide) (by decide) rfl rfl
theorem ld_38 (h : k < 4) : ild (E g q) 38 (nI k) = some (.int (g 38 k)) := ldA rfl (by decide) h (by decide)
theorem sd_38 (h : k < 4) : ist (E g q) 38 (nI k) x = some (E (up2 g 38 k x) q) := stA rfl (by decide) h (by decide)
theorem ln_38 : aln (E g q) 38 = some 4 := alA rfl (by decide)
theorem ld_39_0 : rld (E g q) 39 (nI 0) = some (.ref 40) := rdA (n := 8) rfl (by decide) (by decide) (by decide) rfl
theorem ld_39_1 : rld (E g q) 39 (nI 1) = some (.ref 41) := rdA (n := 8) rfl (by decide) (by decide) (by decide) rfl
theorem ld_39_2 : rld (E g q) 39 (nI 2) = some (.ref 42) := rdA (n := 8) rfl (by decide) (by decide) (by decide) rfl
theorem ld_39_3 : rld (E g q) 39 (nI 3) = some (.ref 43) := rdA (n := 8) rfl (by decide) (by decide) (by decide) rfl
theorem ld_39_4 : rld (E g q) 39 (nI 4) = some (.ref 44) := rdA (n := 8) rfl (by decide) (by decide) (by decide) rfl
theorem ld_39_5 : rld (E g q) 39 (nI 5) = some (.ref 45) := rdA (n := 8) rfl (by decide) (by decide) (by decide) rfl
theorem ld_39_6 : rld (E g q) 39 (nI 6) = some (.ref 46) := rdA (n := 8) rfl (by decide) (by decide) (by decide) rfl
theorem ld_39_7 : rld (E g q) 39 (nI 7) = some (.ref 47) := rdA (n := 8) rfl (by decide) (by decide) (by decide) rfl
theorem ld_40 (h : k < 16) : ild (E g q) 40 (nI k) = some (.int (g 40 k)) := ldA rfl (by decide) h (by decide)
theorem sd_40 (h : k < 16) : ist (E g q) 40 (nI k) x = some (E (up2 g 40 k x) q) := stA rfl (by decide) h (by decide)
theorem ln_40 : aln (E g q) 40 = some 16 := alA rfl (by decide)
theorem ld_41 (h : k < 16) : ild (E g q) 41 (nI k) = some (.int (g 41 k)) := ldA rfl (by decide) h (by decide)
theorem sd_41 (h : k < 16) : ist (E g q) 41 (nI k) x = some (E (up2 g 41 k x) q) := stA rfl (by decide) h (by decide)
theorem ln_41 : aln (E g q) 41 = some 16 := alA rfl (by decide)
theorem ld_42 (h : k < 16) : ild (E g q) 42 (nI k) = some (.int (g 42 k)) := ldA rfl (by decide) h (by decide)
theorem sd_42 (h : k < 16) : ist (E g q) 42 (nI k) x = some (E (up2 g 42 k x) q) := stA rfl (by decide) h (by decide)
theorem ln_42 : aln (E g q) 42 = some 16 := alA rfl (by decide)
theorem ld_43 (h : k < 16) : ild (E g q) 43 (nI k) = some (.int (g 43 k)) := ldA rfl (by decide) h (by decide)
theorem sd_43 (h : k < 16) : ist (E g q) 43 (nI k) x = some (E (up2 g 43 k x) q) := stA rfl (by decide) h (by decide)
theorem ln_43 : aln (E g q) 43 = some 16 := alA rfl (by decide)
theorem ld_44 (h : k < 16) : ild (E g q) 44 (nI k) = some (.int (g 44 k)) := ldA rfl (by decide) h (by decide)
theorem sd_44 (h : k < 16) : ist (E g q) 44 (nI k) x = some (E (up2 g 44 k x) q) := stA rfl (by decide) h (by decide)
theorem ln_44 : aln (E g q) 44 = some 16 := alA rfl (by decide)
theorem ld_45 (h : k < 16) : ild (E g q) 45 (nI k) = some (.int (g 45 k)) := ldA rfl (by decide) h (by decide)
theorem sd_45 (h : k < 16) : ist (E g q) 45 (nI k) x = some (E (up2 g 45 k x) q) := stA rfl (by decide) h (by decide)
theorem ln_45 : aln (E g q) 45 = some 16 := alA rfl (by decide)
theorem ld_46 (h : k < 16) : ild (E g q) 46 (nI k) = some (.int (g 46 k)) := ldA rfl (by decide) h (by decide)
theorem sd_46 (h : k < 16) : ist (E g q) 46 (nI k) x = some (E (up2 g 46 k x) q) := stA rfl (by decide) h (by decide)
theorem ln_46 : aln (E g q) 46 = some 16 := alA rfl (by decide)
theorem ld_47 (h : k < 16) : ild (E g q) 47 (nI k) = some (.int (g 47 k)) := ldA rfl (by decide) h (by decide)
theorem sd_47 (h : k < 16) : ist (E g q) 47 (nI k) x = some (E (up2 g 47 k x) q) := stA rfl (by decide) h (by decide)
theorem ln_47 : aln (E g q) 47 = some 16 := alA rfl (by decide)
theorem ld_48 (h : k < 16) : ild (E g q) 48 (nI k) = some (.int (g 48 k)) := ldA rfl (by decide) h (by decide)
theorem sd_48 (h : k < 16) : ist (E g q) 48 (nI k) x = some (E (up2 g 48 k x) q) := stA rfl (by decide) h (by decide)
theorem ln_48 : aln (E g q) 48 = some 16 := alA rfl (by decide)
theorem ld_49 (h : k < 16) : ild (E g q) 49 (nI k) = some (.int (g 49 k)) := ldA rfl (by decide) h (by decide)
theorem sd_49 (h : k < 16) : ist (E g q) 49 (nI k) x = some (E (up2 g 49 k x) q) := stA rfl (by decide) h (by decide)
theorem ln_49 : aln (E g q) 49 = some 16 := alA rfl (by decide)
theorem ld_50 (h : k < 48) : ild (E g q) 50 (nI k) = some (.int (g 50 k)) := ldA rfl (by decide) h (by decide)
theorem sd_50 (h : k < 48) : ist (E g q) 50 (nI k) x = some (E (up2 g 50 k x) q) := stA rfl (by decide) h (by decide)
theorem ln_50 : aln (E g q) 50 = some 48 := alA rfl (by decide)
theorem ld_51 (h : k < 256) : ild (E g q) 51 (nI k) = some (.int (g 51 k)) := ldA rfl (by decide) h (by decide)
theorem sd_51 (h : k < 256) : ist (E g q) 51 (nI k) x = some (E (up2 g 51 k x) q) := stA rfl (by decide) h (by decide)
theorem ln_51 : aln (E g q) 51 = some 256 := alA rfl (by decide)
theorem fd_52_0 : fld (E g q) 52 200 = some (.int (g 52 0)) := fdI (by decide) rfl (by decide) (by decide) (by decide)
theorem sf_52_0 : sfd y (E g q) 52 200 (.int x) = some (E (up2 g 52 0 x) q) := sfI rfl (by decide) (by decide) rfl rfl
theorem fd_52_1 : fld (E g q) 52 201 = some (.int (g 52 1)) := fdI (by decide) rfl (by decide) (by decide) (by decide)
theorem sf_52_1 : sfd y (E g q) 52 201 (.int x) = some (E (up2 g 52 1 x) q) := sfI rfl (by decide) (by decide) rfl rfl
theorem fd_52_2 : fld (E g q) 52 202 = some (.ref 53) := fdR (by decide) rfl (by decide) (by decide) rfl rfl
theorem fd_52_3 : fld (E g q) 52 203 = some (.ref 54) := fdR (by decide) rfl (by decide) (by decide) rfl rfl
theorem fd_52_4 : fld (E g q) 52 204 = some (.ref 55) := fdR (by decide) rfl (by decide) (by decide) rfl rfl
theorem ld_53 (h : k < 400) : ild (E g q) 53 (nI k) = some (.int (g 53 k)) := ldA rfl (by decide) h (by decide)
theorem sd_53 (h : k < 400) : ist (E g q) 53 (nI k) x = some (E (up2 g 53 k x) q) := stA rfl (by decide) h (by decide)
theorem ln_53 : aln (E g q) 53 = some 400 := alA rfl (by decide)
theorem ld_54 (h : k < 33) : ild (E g q) 54 (nI k) = some (.int (g 54 k)) := ldA rfl (by decide) h (by decide)
theorem sd_54 (h : k < 33) : ist (E g q) 54 (nI k) x = some (E (up2 g 54 k x) q) := stA rfl (by decide) h (by decide)
theorem ln_54 : aln (E g q) 54 = some 33 := alA rfl (by decide)
theorem ld_55 (h : k < 64) : ild (E g q) 55 (nI k) = some (.int (g 55 k)) := ldA rfl (by decide) h (by decide)
theorem sd_55 (h : k < 64) : ist (E g q) 55 (nI k) x = some (E (up2 g 55 k x) q) := stA rfl (by decide) h (by decide)
theorem ln_55 : aln (E g q) 55 = some 64 := alA rfl (by decide)
theorem fd_56_0 : fld (E g q) 56 200 = some (.int (g 56 0)) := fdI (by decide) rfl (by decide) (by decide) (by decide)
theorem sf_56_0 : sfd y (E g q) 56 200 (.int x) = some (E (up2 g 56 0 x) q) := sfI rfl (by decide) (by decide) rfl rfl
theorem fd_56_1 : fld (E g q) 56 201 = some (.int (g 56 1)) := fdI (by decide) rfl (by decide) (by decide) (by decide)
theorem sf_56_1 : sfd y (E g q) 56 201 (.int x) = some (E (up2 g 56 1 x) q) := sfI rfl (by decide) (by decide) rfl rfl
theorem fd_56_2 : fld (E g q) 56 202 = some (.ref 57) := fdR (by decide) rfl (by decide) (by decide) rfl rfl
theorem fd_56_3 : fld (E g q) 56 203 = some (.ref 58) := fdR (by decide) rfl (by decide) (by decide) rfl rfl
theorem fd_56_4 : fld (E g q) 56 204 = some (.ref 59) := fdR (by decide) rfl (by decide) (by decide) rfl rfl
theorem ld_57 (h : k < 400) : ild (E g q) 57 (nI k) = some (.int (g 57 k)) := ldA rfl (by decide) h (by decide)
theorem sd_57 (h : k < 400) : ist (E g q) 57 (nI k) x = some (E (up2 g 57 k x) q) := stA rfl (by decide) h (by decide)
theorem ln_57 : aln (E g q) 57 = some 400 := alA rfl (by decide)
theorem ld_58 (h : k < 33) : ild (E g q) 58 (nI k) = some (.int (g 58 k)) := ldA rfl (by decide) h (by decide)
theorem sd_58 (h : k < 33) : ist (E g q) 58 (nI k) x = some (E (up2 g 58 k x) q) := stA rfl (by decide) h (by decide)
theorem ln_58 : aln (E g q) 58 = some 33 := alA rfl (by decide)
theorem ld_59 (h : k < 64) : ild (E g q) 59 (nI k) = some (.int (g 59 k)) := ldA rfl (by decide) h (by decide)
theorem sd_59 (h : k < 64) : ist (E g q) 59 (nI k) x = some (E (up2 g 59 k x) q) := stA rfl (by decide) h (by decide)
theorem ln_59 : aln (E g q) 59 = some 64 := alA rfl (by decide)
theorem ld_60 (h : k < 600) : ild (E g q) 60 (nI k) = some (.int (g 60 k)) := ldA rfl (by decide) h (by decide)
theorem sd_60 (h : k < 600) : ist (E g q) 60 (nI k) x = some (E (up2 g 60 k x) q) := stA rfl (by decide) h (by decide)
theorem ln_60 : aln (E g q) 60 = some 600 := alA rfl (by decide)
theorem fd_61_0 : fld (E g q) 61 900 = some (.ref 62) := fdR (by decide) rfl (by decide) (by decide) rfl rfl
theorem fd_61_1 : fld (E g q) 61 901 = some (.ref 67) := fdR (by decide) rfl (by decide) (by decide) rfl rfl
theorem fd_61_2 : fld (E g q) 61 902 = some (.ref 82) := fdR (by decide) rfl (by decide) (by decide) rfl rfl
theorem fd_61_3 : fld (E g q) 61 903 = some (.ref 86) := fdR (by decide) rfl (by decide) (by decide) rfl rfl
theorem fd_61_4 : fld (E g q) 61 904 = some (.ref 90) := fdR (by decide) rfl (by decide) (by decide) rfl rfl
theorem fd_62_0 : fld (E g q) 62 100 = some (.int (g 62 0)) := fdI (by decide) rfl (by decide) (by decide) (by decide)
theorem sf_62_0 : sfd y (E g q) 62 100 (.int x) = some (E (up2 g 62 0 x) q) := sfI rfl (by decide) (by decide) rfl rfl
theorem fd_62_1 : fld (E g q) 62 101 = some (.ref 63) := fdR (by decide) rfl (by decide) (by decide) rfl rfl
theorem fd_62_2 : fld (E g q) 62 102 = some (.ref 64) := fdR (by decide) rfl (by decide) (by decide) rfl rfl
theorem fd_62_3 : fld (E g q) 62 103 = some (.ref 65) := fdR (by decide) rfl (by decide) (by decide) rfl rfl
theorem fd_62_4 : fld (E g q) 62 104 = some (.ref 66) := fdR (by decide) rfl (by decide) (by decide) rfl rfl
theorem ld_63 (h : k < 16) : ild (E g q) 63 (nI k) = some (.int (g 63 k)) := ldA rfl (by decide) h (by decide)
theorem sd_63 (h : k < 16) : ist (E g q) 63 (nI k) x = some (E (up2 g 63 k x) q) := stA rfl (by decide) h (by decide)
theorem ln_63 : aln (E g q) 63 = some 16 := alA rfl (by decide)
theorem ld_64 (h : k < 16) : ild (E g q) 64 (nI k) = some (.int (g 64 k)) := ldA rfl (by decide) h (by decide)
theorem sd_64 (h : k < 16) : ist (E g q) 64 (nI k) x = some (E (up2 g 64 k x) q) := stA rfl (by decide) h (by decide)
theorem ln_64 : aln (E g q) 64 = some 16 := alA rfl (by decide)
theorem ld_65 (h : k < 48) : ild (E g q) 65 (nI k) = some (.int (g 65 k)) := ldA rfl (by decide) h (by decide)
theorem sd_65 (h : k < 48) : ist (E g q) 65 (nI k) x = some (E (up2 g 65 k x) q) := stA rfl (by decide) h (by decide)
theorem ln_65 : aln (E g q) 65 = some 48 := alA rfl (by decide)
theorem ld_66 (h : k < 256) : ild (E g q) 66 (nI k) = some (.int (g 66 k)) := ldA rfl (by decide) h (by decide)
theorem sd_66 (h : k < 256) : ist (E g q) 66 (nI k) x = some (E (up2 g 66 k x) q) := stA rfl (by decide) h (by decide)
theorem ln_66 : aln (E g q) 66 = some 256 := alA rfl (by decide)
theorem fd_67_0 : fld (E g q) 67 700 = some (.int (g 67 0)) := fdI (by decide) rfl (by decide) (by decide) (by decide)
theorem sf_67_0 : sfd y (E g q) 67 700 (.int x) = some (E (up2 g 67 0 x) q) := sfI rfl (by decide) (by decide) rfl rfl
theorem fd_67_1 : fld (E g q) 67 701 = some (.int (g 67 1)) := fdI (by decide) rfl (by decide) (by decide) (by decide)
theorem sf_67_1 : sfd y (E g q) 67 701 (.int x) = some (E (up2 g 67 1 x) q) := sfI rfl (by decide) (by decide) rfl rfl
theorem fd_67_2 : fld (E g q) 67 702 = some (.int (g 67 2)) := fdI (by decide) rfl (by decide) (by decide) (by decide)
theorem sf_67_2 : sfd y (E g q) 67 702 (.int x) = some (E (up2 g 67 2 x) q) := sfI rfl (by decide) (by decide) rfl rfl
theorem fd_67_3 : fld (E g q) 67 703 = some (.int (g 67 3)) := fdI (by decide) rfl (by decide) (by decide) (by decide)
theorem sf_67_3 : sfd y (E g q) 67 703 (.int x) = some (E (up2 g 67 3 x) q) := sfI rfl (by decide) (by decide) rfl rfl
theorem fd_67_4 : fld (E g q) 67 704 = some (.int (g 67 4)) := fdI (by decide) rfl (by decide) (by decide) (by decide)
theorem sf_67_4 : sfd y (E g q) 67 704 (.int x) = some (E (up2 g 67 4 x) q) := sfI rfl (by decide) (by decide) rfl rfl
theorem fd_67_5 : fld (E g q) 67 705 = some (.ref 68) := fdR (by decide) rfl (by decide) (by decide) rfl rfl
theorem fd_67_6 : fld (E g q) 67 706 = some (.ref 69) := fdR (by decide) rfl (by decide) (by decide) rfl rfl
theorem fd_67_7 : fld (E g q) 67 707 = some (.ref 78) := fdR (by decide) rfl (by decide) (by decide) rfl rfl
theorem fd_67_8 : fld (E g q) 67 708 = some (.ref 79) := fdR (by decide) rfl (by decide) (by decide) rfl rfl
theorem fd_67_9 : fld (E g q) 67 709 = some (.ref 80) := fdR (by decide) rfl (by decide) (by decide) rfl rfl
theorem fd_67_10 : fld (E g q) 67 710 = some (.ref 81) := fdR (by decide) rfl (by decide) (by decide) rfl rfl
theorem ld_68 (h : k < 4) : ild (E g q) 68 (nI k) = some (.int (g 68 k)) := ldA rfl (by decide) h (by decide)
theorem sd_68 (h : k < 4) : ist (E g q) 68 (nI k) x = some (E (up2 g 68 k x) q) := stA rfl (by decide) h (by decide)
theorem ln_68 : aln (E g q) 68 = some 4 := alA rfl (by decide)
theorem ld_69_0 : rld (E g q) 69 (nI 0) = some (.ref 70) := rdA (n := 8) rfl (by decide) (by decide) (by decide) rfl
theorem ld_69_1 : rld (E g q) 69 (nI 1) = some (.ref 71) := rdA (n := 8) rfl (by decide) (by decide) (by decide) rfl
theorem ld_69_2 : rld (E g q) 69 (nI 2) = some (.ref 72) := rdA (n := 8) rfl (by decide) (by decide) (by decide) rfl
theorem ld_69_3 : rld (E g q) 69 (nI 3) = some (.ref 73) := rdA (n := 8) rfl (by decide) (by decide) (by decide) rfl
theorem ld_69_4 : rld (E g q) 69 (nI 4) = some (.ref 74) := rdA (n := 8) rfl (by decide) (by decide) (by decide) rfl
theorem ld_69_5 : rld (E g q) 69 (nI 5) = some (.ref 75) := rdA (n := 8) rfl (by decide) (by decide) (by decide) rfl
theorem ld_69_6 : rld (E g q) 69 (nI 6) = some (.ref 76) := rdA (n := 8) rfl (by decide) (by decide) (by decide) rfl
theorem ld_69_7 : rld (E g q) 69 (nI 7) = some (.ref 77) := rdA (n := 8) rfl (by decide) (by decide) (by decide) rfl
theorem ld_70 (h : k < 16) : ild (E g q) 70 (nI k) = some (.int (g 70 k)) := ldA rfl (by decide) h (by decide)
theorem sd_70 (h : k < 16) : ist (E g q) 70 (nI k) x = some (E (up2 g 70 k x) q) := stA rfl (by decide) h (by decide)
theorem ln_70 : aln (E g q) 70 = some 16 := alA rfl (by decide)
theorem ld_71 (h : k < 16) : ild (E g q) 71 (nI k) = some (.int (g 71 k)) := ldA rfl (by decide) h (by decide)
theorem sd_71 (h : k < 16) : ist (E g q) 71 (nI k) x = some (E (up2 g 71 k x) q) := stA rfl (by decide) h (by decide)
theorem ln_71 : aln (E g q) 71 = some 16 := alA rfl (by decide)
theorem ld_72 (h : k < 16) : ild (E g q) 72 (nI k) = some (.int (g 72 k)) := ldA rfl (by decide) h (by decide)
theorem sd_72 (h : k < 16) : ist (E g q) 72 (nI k) x = some (E (up2 g 72 k x) q) := stA rfl (by decide) h (by decide)
theorem ln_72 : aln (E g q) 72 = some 16 := alA rfl (by decide)
theorem ld_73 (h : k < 16) : ild (E g q) 73 (nI k) = some (.int (g 73 k)) := ldA rfl (by decide) h (by decide)
theorem sd_73 (h : k < 16) : ist (E g q) 73 (nI k) x = some (E (up2 g 73 k x) q) := stA rfl (by decide) h (by decide)
theorem ln_73 : aln (E g q) 73 = some 16 := alA rfl (by decide)
theorem ld_74 (h : k < 16) : ild (E g q) 74 (nI k) = some (.int (g 74 k)) := ldA rfl (by decide) h (by decide)
theorem sd_74 (h : k < 16) : ist (E g q) 74 (nI k) x = some (E (up2 g 74 k x) q) := stA rfl (by decide) h (by decide)
theorem ln_74 : aln (E g q) 74 = some 16 := alA rfl (by decide)
theorem ld_75 (h : k < 16) : ild (E g q) 75 (nI k) = some (.int (g 75 k)) := ldA rfl (by decide) h (by decide)
theorem sd_75 (h : k < 16) : ist (E g q) 75 (nI k) x = some (E (up2 g 75 k x) q) := stA rfl (by decide) h (by decide)
theorem ln_75 : aln (E g q) 75 = some 16 := alA rfl (by decide)
theorem ld_76 (h : k < 16) : ild (E g q) 76 (nI k) = some (.int (g 76 k)) := ldA rfl (by decide) h (by decide)
theorem sd_76 (h : k < 16) : ist (E g q) 76 (nI k) x = some (E (up2 g 76 k x) q) := stA rfl (by decide) h (by decide)
theorem ln_76 : aln (E g q) 76 = some 16 := alA rfl (by decide)
theorem ld_77 (h : k < 16) : ild (E g q) 77 (nI k) = some (.int (g 77 k)) := ldA rfl (by decide) h (by decide)
theorem sd_77 (h : k < 16) : ist (E g q) 77 (nI k) x = some (E (up2 g 77 k x) q) := stA rfl (by decide) h (by decide)
theorem ln_77 : aln (E g q) 77 = some 16 := alA rfl (by decide)
theorem ld_78 (h : k < 16) : ild (E g q) 78 (nI k) = some (.int (g 78 k)) := ldA rfl (by decide) h (by decide)
theorem sd_78 (h : k < 16) : ist (E g q) 78 (nI k) x = some (E (up2 g 78 k x) q) := stA rfl (by decide) h (by decide)
theorem ln_78 : aln (E g q) 78 = some 16 := alA rfl (by decide)
theorem ld_79 (h : k < 16) : ild (E g q) 79 (nI k) = some (.int (g 79 k)) := ldA rfl (by decide) h (by decide)
theorem sd_79 (h : k < 16) : ist (E g q) 79 (nI k) x = some (E (up2 g 79 k x) q) := stA rfl (by decide) h (by decide)
theorem ln_79 : aln (E g q) 79 = some 16 := alA rfl (by decide)
theorem ld_80 (h : k < 48) : ild (E g q) 80 (nI k) = some (.int (g 80 k)) := ldA rfl (by decide) h (by decide)
theorem sd_80 (h : k < 48) : ist (E g q) 80 (nI k) x = some (E (up2 g 80 k x) q) := stA rfl (by decide) h (by decide)
theorem ln_80 : aln (E g q) 80 = some 48 := alA rfl (by decide)
theorem ld_81 (h : k < 256) : ild (E g q) 81 (nI k) = some (.int (g 81 k)) := ldA rfl (by decide) h (by decide)
theorem sd_81 (h : k < 256) : ist (E g q) 81 (nI k) x = some (E (up2 g 81 k x) q) := stA rfl (by decide) h (by decide)
theorem ln_81 : aln (E g q) 81 = some 256 := alA rfl (by decide)
theorem fd_82_0 : fld (E g q) 82 200 = some (.int (g 82 0)) := fdI (by decide) rfl (by decide) (by decide) (by decide)
theorem sf_82_0 : sfd y (E g q) 82 200 (.int x) = some (E (up2 g 82 0 x) q) := sfI rfl (by decide) (by decide) rfl rfl
theorem fd_82_1 : fld (E g q) 82 201 = some (.int (g 82 1)) := fdI (by decide) rfl (by decide) (by decide) (by decide)
theorem sf_82_1 : sfd y (E g q) 82 201 (.int x) = some (E (up2 g 82 1 x) q) := sfI rfl (by decide) (by decide) rfl rfl
theorem fd_82_2 : fld (E g q) 82 202 = some (.ref 83) := fdR (by decide) rfl (by decide) (by decide) rfl rfl
theorem fd_82_3 : fld (E g q) 82 203 = some (.ref 84) := fdR (by decide) rfl (by decide) (by decide) rfl rfl
theorem fd_82_4 : fld (E g q) 82 204 = some (.ref 85) := fdR (by decide) rfl (by decide) (by decide) rfl rfl
theorem ld_83 (h : k < 400) : ild (E g q) 83 (nI k) = some (.int (g 83 k)) := ldA rfl (by decide) h (by decide)
theorem sd_83 (h : k < 400) : ist (E g q) 83 (nI k) x = some (E (up2 g 83 k x) q) := stA rfl (by decide) h (by decide)
theorem ln_83 : aln (E g q) 83 = some 400 := alA rfl (by decide)
theorem ld_84 (h : k < 33) : ild (E g q) 84 (nI k) = some (.int (g 84 k)) := ldA rfl (by decide) h (by decide)
theorem sd_84 (h : k < 33) : ist (E g q) 84 (nI k) x = some (E (up2 g 84 k x) q) := stA rfl (by decide) h (by decide)
theorem ln_84 : aln (E g q) 84 = some 33 := alA rfl (by decide)
theorem ld_85 (h : k < 64) : ild (E g q) 85 (nI k) = some (.int (g 85 k)) := ldA rfl (by decide) h (by decide)
theorem sd_85 (h : k < 64) : ist (E g q) 85 (nI k) x = some (E (up2 g 85 k x) q) := stA rfl (by decide) h (by decide)
theorem ln_85 : aln (E g q) 85 = some 64 := alA rfl (by decide)
theorem fd_86_0 : fld (E g q) 86 200 = some (.int (g 86 0)) := fdI (by decide) rfl (by decide) (by decide) (by decide)
theorem sf_86_0 : sfd y (E g q) 86 200 (.int x) = some (E (up2 g 86 0 x) q) := sfI rfl (by decide) (by decide) rfl rfl
theorem fd_86_1 : fld (E g q) 86 201 = some (.int (g 86 1)) := fdI (by decide) rfl (by decide) (by decide) (by decide)
theorem sf_86_1 : sfd y (E g q) 86 201 (.int x) = some (E (up2 g 86 1 x) q) := sfI rfl (by decide) (by decide) rfl rfl
theorem fd_86_2 : fld (E g q) 86 202 = some (.ref 87) := fdR (by decide) rfl (by decide) (by decide) rfl rfl
theorem fd_86_3 : fld (E g q) 86 203 = some (.ref 88) := fdR (by decide) rfl (by decide) (by decide) rfl rfl
theorem fd_86_4 : fld (E g q) 86 204 = some (.ref 89) := fdR (by decide) rfl (by decide) (by decide) rfl rfl
theorem ld_87 (h : k < 400) : ild (E g q) 87 (nI k) = some (.int (g 87 k)) := ldA rfl (by decide) h (by decide)
theorem sd_87 (h : k < 400) : ist (E g q) 87 (nI k) x = some (E (up2 g 87 k x) q) := stA rfl (by decide) h (by decide)
theorem ln_87 : aln (E g q) 87 = some 400 := alA rfl (by decide)
theorem ld_88 (h : k < 33) : ild (E g q) 88 (nI k) = some (.int (g 88 k)) := ldA rfl (by decide) h (by decide)
theorem sd_88 (h : k < 33) : ist (E g q) 88 (nI k) x = some (E (up2 g 88 k x) q) := stA rfl (by decide) h (by decide)
theorem ln_88 : aln (E g q) 88 = some 33 := alA rfl (by decide)
theorem ld_89 (h : k < 64) : ild (E g q) 89 (nI k) = some (.int (g 89 k)) := ldA rfl (by decide) h (by decide)
theorem sd_89 (h : k < 64) : ist (E g q) 89 (nI k) x = some (E (up2 g 89 k x) q) := stA rfl (by decide) h (by decide)
theorem ln_89 : aln (E g q) 89 = some 64 := alA rfl (by decide)
theorem ld_90 (h : k < 600) : ild (E g q) 90 (nI k) = some (.int (g 90 k)) := ldA rfl (by decide) h (by decide)
theorem sd_90 (h : k < 600) : ist (E g q) 90 (nI k) x = some (E (up2 g 90 k x) q) := stA rfl (by decide) h (by decide)
theorem ln_90 : aln (E g q) 90 = some 600 := alA rfl (by decide)
theorem fd_91_0 : fld (E g q) 91 400 = some (.ref 92) := fdR (by decide) rfl (by decide) (by decide) rfl rfl
theorem fd_91_1 : fld (E g q) 91 401 = some (.int (g 91 1)) := fdI (by decide) rfl (by decide) (by decide) (by decide)
theorem sf_91_1 : sfd y (E g q) 91 401 (.int x) = some (E (up2 g 91 1 x) q) := sfI rfl (by decide) (by decide) rfl rfl
theorem fd_91_2 : fld (E g q) 91 402 = some (.int (g 91 2)) := fdI (by decide) rfl (by decide) (by decide) (by decide)
theorem sf_91_2 : sfd y (E g q) 91 402 (.int x) = some (E (up2 g 91 2 x) q) := sfI rfl (by decide) (by decide) rfl rfl
theorem ld_92_0 : rld (E g q) 92 (nI 0) = some (.ref 93) := rdS (n := 5) rfl (by decide) (by decide) (by decide) rfl
theorem ld_92_1 : rld (E g q) 92 (nI 1) = some (.ref 108) := rdS (n := 5) rfl (by decide) (by decide) (by decide) rfl
theorem ld_92_2 : rld (E g q) 92 (nI 2) = some (.ref 123) := rdS (n := 5) rfl (by decide) (by decide) (by decide) rfl
theorem ld_92_3 : rld (E g q) 92 (nI 3) = some (.ref 138) := rdS (n := 5) rfl (by decide) (by decide) (by decide) rfl
theorem ld_92_4 : rld (E g q) 92 (nI 4) = some (.ref 153) := rdS (n := 5) rfl (by decide) (by decide) (by decide) rfl
theorem fd_93_0 : fld (E g q) 93 700 = some (.int (g 93 0)) := fdI (by decide) rfl (by decide) (by decide) (by decide)
theorem sf_93_0 : sfd y (E g q) 93 700 (.int x) = some (E (up2 g 93 0 x) q) := sfI rfl (by decide) (by decide) rfl rfl
theorem fd_93_1 : fld (E g q) 93 701 = some (.int (g 93 1)) := fdI (by decide) rfl (by decide) (by decide) (by decide)
theorem sf_93_1 : sfd y (E g q) 93 701 (.int x) = some (E (up2 g 93 1 x) q) := sfI rfl (by decide) (by decide) rfl rfl
theorem fd_93_2 : fld (E g q) 93 702 = some (.int (g 93 2)) := fdI (by decide) rfl (by decide) (by decide) (by decide)
theorem sf_93_2 : sfd y (E g q) 93 702 (.int x) = some (E (up2 g 93 2 x) q) := sfI rfl (by decide) (by decide) rfl rfl
theorem fd_93_3 : fld (E g q) 93 703 = some (.int (g 93 3)) := fdI (by decide) rfl (by decide) (by decide) (by decide)
theorem sf_93_3 : sfd y (E g q) 93 703 (.int x) = some (E (up2 g 93 3 x) q) := sfI rfl (by decide) (by decide) rfl rfl
theorem fd_93_4 : fld (E g q) 93 704 = some (.int (g 93 4)) := fdI (by decide) rfl (by decide) (by decide) (by decide)
theorem sf_93_4 : sfd y (E g q) 93 704 (.int x) = some (E (up2 g 93 4 x) q) := sfI rfl (by decide) (by decide) rfl rfl
theorem fd_93_5 : fld (E g q) 93 705 = some (.ref 94) := fdR (by decide) rfl (by decide) (by decide) rfl rfl
theorem fd_93_6 : fld (E g q) 93 706 = some (.ref 95) := fdR (by decide) rfl (by decide) (by decide) rfl rfl
theorem fd_93_7 : fld (E g q) 93 707 = some (.ref 104) := fdR (by decide) rfl (by decide) (by decide) rfl rfl
theorem fd_93_8 : fld (E g q) 93 708 = some (.ref 105) := fdR (by decide) rfl (by decide) (by decide) rfl rfl
theorem fd_93_9 : fld (E g q) 93 709 = some (.ref 106) := fdR (by decide) rfl (by decide) (by decide) rfl rfl
theorem fd_93_10 : fld (E g q) 93 710 = some (.ref 107) := fdR (by decide) rfl (by decide) (by decide) rfl rfl
theorem ld_94 (h : k < 4) : ild (E g q) 94 (nI k) = some (.int (g 94 k)) := ldA rfl (by decide) h (by decide)
theorem sd_94 (h : k < 4) : ist (E g q) 94 (nI k) x = some (E (up2 g 94 k x) q) := stA rfl (by decide) h (by decide)
theorem ln_94 : aln (E g q) 94 = some 4 := alA rfl (by decide)
theorem ld_95_0 : rld (E g q) 95 (nI 0) = some (.ref 96) := rdA (n := 8) rfl (by decide) (by decide) (by decide) rfl
theorem ld_95_1 : rld (E g q) 95 (nI 1) = some (.ref 97) := rdA (n := 8) rfl (by decide) (by decide) (by decide) rfl
theorem ld_95_2 : rld (E g q) 95 (nI 2) = some (.ref 98) := rdA (n := 8) rfl (by decide) (by decide) (by decide) rfl
theorem ld_95_3 : rld (E g q) 95 (nI 3) = some (.ref 99) := rdA (n := 8) rfl (by decide) (by decide) (by decide) rfl
theorem ld_95_4 : rld (E g q) 95 (nI 4) = some (.ref 100) := rdA (n := 8) rfl (by decide) (by decide) (by decide) rfl
theorem ld_95_5 : rld (E g q) 95 (nI 5) = some (.ref 101) := rdA (n := 8) rfl (by decide) (by decide) (by decide) rfl
theorem ld_95_6 : rld (E g q) 95 (nI 6) = some (.ref 102) := rdA (n := 8) rfl (by decide) (by decide) (by decide) rfl
theorem ld_95_7 : rld (E g q) 95 (nI 7) = some (.ref 103) := rdA (n := 8) rfl (by decide) (by decide) (by decide) rfl
theorem ld_96 (h : k < 16) : ild (E g q) 96 (nI k) = some (.int (g 96 k)) := ldA rfl (by decide) h (by decide)
theorem sd_96 (h : k < 16) : ist (E g q) 96 (nI k) x = some (E (up2 g 96 k x) q) := stA rfl (by decide) h (by decide)
theorem ln_96 : aln (E g q) 96 = some 16 := alA rfl (by decide)
theorem ld_97 (h : k < 16) : ild (E g q) 97 (nI k) = some (.int (g 97 k)) := ldA rfl (by decide) h (by decide)
theorem sd_97 (h : k < 16) : ist (E g q) 97 (nI k) x = some (E (up2 g 97 k x) q) := stA rfl (by decide) h (by decide)
theorem ln_97 : aln (E g q) 97 = some 16 := alA rfl (by decide)
theorem ld_98 (h : k < 16) : ild (E g q) 98 (nI k) = some (.int (g 98 k)) := ldA rfl (by decide) h (by decide)
theorem sd_98 (h : k < 16) : ist (E g q) 98 (nI k) x = some (E (up2 g 98 k x) q) := stA rfl (by decide) h (by decide)
theorem ln_98 : aln (E g q) 98 = some 16 := alA rfl (by decide)
theorem ld_99 (h : k < 16) : ild (E g q) 99 (nI k) = some (.int (g 99 k)) := ldA rfl (by decide) h (by decide)
theorem sd_99 (h : k < 16) : ist (E g q) 99 (nI k) x = some (E (up2 g 99 k x) q) := stA rfl (by decide) h (by decide)
theorem ln_99 : aln (E g q) 99 = some 16 := alA rfl (by decide)
theorem ld_100 (h : k < 16) : ild (E g q) 100 (nI k) = some (.int (g 100 k)) := ldA rfl (by decide) h (by decide)
theorem sd_100 (h : k < 16) : ist (E g q) 100 (nI k) x = some (E (up2 g 100 k x) q) := stA rfl (by decide) h (by decide)
theorem ln_100 : aln (E g q) 100 = some 16 := alA rfl (by decide)
theorem ld_101 (h : k < 16) : ild (E g q) 101 (nI k) = some (.int (g 101 k)) := ldA rfl (by decide) h (by decide)
theorem sd_101 (h : k < 16) : ist (E g q) 101 (nI k) x = some (E (up2 g 101 k x) q) := stA rfl (by decide) h (by decide)
theorem ln_101 : aln (E g q) 101 = some 16 := alA rfl (by decide)
theorem ld_102 (h : k < 16) : ild (E g q) 102 (nI k) = some (.int (g 102 k)) := ldA rfl (by decide) h (by decide)
theorem sd_102 (h : k < 16) : ist (E g q) 102 (nI k) x = some (E (up2 g 102 k x) q) := stA rfl (by decide) h (by decide)
theorem ln_102 : aln (E g q) 102 = some 16 := alA rfl (by decide)
theorem ld_103 (h : k < 16) : ild (E g q) 103 (nI k) = some (.int (g 103 k)) := ldA rfl (by decide) h (by decide)
theorem sd_103 (h : k < 16) : ist (E g q) 103 (nI k) x = some (E (up2 g 103 k x) q) := stA rfl (by decide) h (by decide)
theorem ln_103 : aln (E g q) 103 = some 16 := alA rfl (by decide)
theorem ld_104 (h : k < 16) : ild (E g q) 104 (nI k) = some (.int (g 104 k)) := ldA rfl (by decide) h (by decide)
theorem sd_104 (h : k < 16) : ist (E g q) 104 (nI k) x = some (E (up2 g 104 k x) q) := stA rfl (by decide) h (by decide)
theorem ln_104 : aln (E g q) 104 = some 16 := alA rfl (by decide)
theorem ld_105 (h : k < 16) : ild (E g q) 105 (nI k) = some (.int (g 105 k)) := ldA rfl (by decide) h (by decide)
theorem sd_105 (h : k < 16) : ist (E g q) 105 (nI k) x = some (E (up2 g 105 k x) q) := stA rfl (by decide) h (by decide)
theorem ln_105 : aln (E g q) 105 = some 16 := alA rfl (by decide)
theorem ld_106 (h : k < 48) : ild (E g q) 106 (nI k) = some (.int (g 106 k)) := ldA rfl (by decide) h (by decide)
theorem sd_106 (h : k < 48) : ist (E g q) 106 (nI k) x = some (E (up2 g 106 k x) q) := stA rfl (by decide) h (by decide)
theorem ln_106 : aln (E g q) 106 = some 48 := alA rfl (by decide)
theorem ld_107 (h : k < 256) : ild (E g q) 107 (nI k) = some (.int (g 107 k)) := ldA rfl (by decide) h (by decide)
theorem sd_107 (h : k < 256) : ist (E g q) 107 (nI k) x = some (E (up2 g 107 k x) q) := stA rfl (by decide) h (by decide)
theorem ln_107 : aln (E g q) 107 = some 256 := alA rfl (by decide)
theorem fd_108_0 : fld (E g q) 108 700 = some (.int (g 108 0)) := fdI (by decide) rfl (by decide) (by decide) (by decide)
theorem sf_108_0 : sfd y (E g q) 108 700 (.int x) = some (E (up2 g 108 0 x) q) := sfI rfl (by decide) (by decide) rfl rfl
theorem fd_108_1 : fld (E g q) 108 701 = some (.int (g 108 1)) := fdI (by decide) rfl (by decide) (by decide) (by decide)
theorem sf_108_1 : sfd y (E g q) 108 701 (.int x) = some (E (up2 g 108 1 x) q) := sfI rfl (by decide) (by decide) rfl rfl
theorem fd_108_2 : fld (E g q) 108 702 = some (.int (g 108 2)) := fdI (by decide) rfl (by decide) (by decide) (by decide)
theorem sf_108_2 : sfd y (E g q) 108 702 (.int x) = some (E (up2 g 108 2 x) q) := sfI rfl (by decide) (by decide) rfl rfl
theorem fd_108_3 : fld (E g q) 108 703 = some (.int (g 108 3)) := fdI (by decide) rfl (by decide) (by decide) (by decide)
theorem sf_108_3 : sfd y (E g q) 108 703 (.int x) = some (E (up2 g 108 3 x) q) := sfI rfl (by decide) (by decide) rfl rfl
theorem fd_108_4 : fld (E g q) 108 704 = some (.int (g 108 4)) := fdI (by decide) rfl (by decide) (by decide) (by decide)
theorem sf_108_4 : sfd y (E g q) 108 704 (.int x) = some (E (up2 g 108 4 x) q) := sfI rfl (by decide) (by decide) rfl rfl
theorem fd_108_5 : fld (E g q) 108 705 = some (.ref 109) := fdR (by decide) rfl (by decide) (by decide) rfl rfl
theorem fd_108_6 : fld (E g q) 108 706 = some (.ref 110) := fdR (by decide) rfl (by decide) (by decide) rfl rfl
theorem fd_108_7 : fld (E g q) 108 707 = some (.ref 119) := fdR (by decide) rfl (by decide) (by decide) rfl rfl
theorem fd_108_8 : fld (E g q) 108 708 = some (.ref 120) := fdR (by decide) rfl (by decide) (by decide) rfl rfl
theorem fd_108_9 : fld (E g q) 108 709 = some (.ref 121) := fdR (by decide) rfl (by decide) (by decide) rfl rfl
theorem fd_108_10 : fld (E g q) 108 710 = some (.ref 122) := fdR (by decide) rfl (by decide) (by decide) rfl rfl
theorem ld_109 (h : k < 4) : ild (E g q) 109 (nI k) = some (.int (g 109 k)) := ldA rfl (by decide) h (by decide)
theorem sd_109 (h : k < 4) : ist (E g q) 109 (nI k) x = some (E (up2 g 109 k x) q) := stA rfl (by decide) h (by decide)
theorem ln_109 : aln (E g q) 109 = some 4 := alA rfl (by decide)
theorem ld_110_0 : rld (E g q) 110 (nI 0) = some (.ref 111) := rdA (n := 8) rfl (by decide) (by decide) (by decide) rfl
theorem ld_110_1 : rld (E g q) 110 (nI 1) = some (.ref 112) := rdA (n := 8) rfl (by decide) (by decide) (by decide) rfl
theorem ld_110_2 : rld (E g q) 110 (nI 2) = some (.ref 113) := rdA (n := 8) rfl (by decide) (by decide) (by decide) rfl
theorem ld_110_3 : rld (E g q) 110 (nI 3) = some (.ref 114) := rdA (n := 8) rfl (by decide) (by decide) (by decide) rfl
theorem ld_110_4 : rld (E g q) 110 (nI 4) = some (.ref 115) := rdA (n := 8) rfl (by decide) (by decide) (by decide) rfl
theorem ld_110_5 : rld (E g q) 110 (nI 5) = some (.ref 116) := rdA (n := 8) rfl (by decide) (by decide) (by decide) rfl
theorem ld_110_6 : rld (E g q) 110 (nI 6) = some (.ref 117) := rdA (n := 8) rfl (by decide) (by decide) (by decide) rfl
theorem ld_110_7 : rld (E g q) 110 (nI 7) = some (.ref 118) := rdA (n := 8) rfl (by decide) (by decide) (by decide) rfl
theorem ld_111 (h : k < 16) : ild (E g q) 111 (nI k) = some (.int (g 111 k)) := ldA rfl (by decide) h (by decide)
theorem sd_111 (h : k < 16) : ist (E g q) 111 (nI k) x = some (E (up2 g 111 k x) q) := stA rfl (by decide) h (by decide)
theorem ln_111 : aln (E g q) 111 = some 16 := alA rfl (by decide)
theorem ld_112 (h : k < 16) : ild (E g q) 112 (nI k) = some (.int (g 112 k)) := ldA rfl (by decide) h (by decide)
theorem sd_112 (h : k < 16) : ist (E g q) 112 (nI k) x = some (E (up2 g 112 k x) q) := stA rfl (by decide) h (by decide)
theorem ln_112 : aln (E g q) 112 = some 16 := alA rfl (by decide)
theorem ld_113 (h : k < 16) : ild (E g q) 113 (nI k) = some (.int (g 113 k)) := ldA rfl (by decide) h (by decide)
theorem sd_113 (h : k < 16) : ist (E g q) 113 (nI k) x = some (E (up2 g 113 k x) q) := stA rfl (by decide) h (by decide)
theorem ln_113 : aln (E g q) 113 = some 16 := alA rfl (by decide)
theorem ld_114 (h : k < 16) : ild (E g q) 114 (nI k) = some (.int (g 114 k)) := ldA rfl (by decide) h (by decide)
theorem sd_114 (h : k < 16) : ist (E g q) 114 (nI k) x = some (E (up2 g 114 k x) q) := stA rfl (by decide) h (by decide)
theorem ln_114 : aln (E g q) 114 = some 16 := alA rfl (by decide)
theorem ld_115 (h : k < 16) : ild (E g q) 115 (nI k) = some (.int (g 115 k)) := ldA rfl (by decide) h (by decide)
theorem sd_115 (h : k < 16) : ist (E g q) 115 (nI k) x = some (E (up2 g 115 k x) q) := stA rfl (by decide) h (by decide)
theorem ln_115 : aln (E g q) 115 = some 16 := alA rfl (by decide)
theorem ld_116 (h : k < 16) : ild (E g q) 116 (nI k) = some (.int (g 116 k)) := ldA rfl (by decide) h (by decide)
theorem sd_116 (h : k < 16) : ist (E g q) 116 (nI k) x = some (E (up2 g 116 k x) q) := stA rfl (by decide) h (by decide)
theorem ln_116 : aln (E g q) 116 = some 16 := alA rfl (by decide)
theorem ld_117 (h : k < 16) : ild (E g q) 117 (nI k) = some (.int (g 117 k)) := ldA rfl (by decide) h (by decide)
theorem sd_117 (h : k < 16) : ist (E g q) 117 (nI k) x = some (E (up2 g 117 k x) q) := stA rfl (by decide) h (by decide)
theorem ln_117 : aln (E g q) 117 = some 16 := alA rfl (by decide)
theorem ld_118 (h : k < 16) : ild (E g q) 118 (nI k) = some (.int (g 118 k)) := ldA rfl (by decide) h (by decide)
theorem sd_118 (h : k < 16) : ist (E g q) 118 (nI k) x = some (E (up2 g 118 k x) q) := stA rfl (by decide) h (by decide)
theorem ln_118 : aln (E g q) 118 = some 16 := alA rfl (by decide)
theorem ld_119 (h : k < 16) : ild (E g q) 119 (nI k) = some (.int (g 119 k)) := ldA rfl (by decide) h (by decide)
theorem sd_119 (h : k < 16) : ist (E g q) 119 (nI k) x = some (E (up2 g 119 k x) q) := stA rfl (by decide) h (by decide)
theorem ln_119 : aln (E g q) 119 = some 16 := alA rfl (by decide)
theorem ld_120 (h : k < 16) : ild (E g q) 120 (nI k) = some (.int (g 120 k)) := ldA rfl (by decide) h (by decide)
theorem sd_120 (h : k < 16) : ist (E g q) 120 (nI k) x = some (E (up2 g 120 k x) q) := stA rfl (by decide) h (by decide)
theorem ln_120 : aln (E g q) 120 = some 16 := alA rfl (by decide)
theorem ld_121 (h : k < 48) : ild (E g q) 121 (nI k) = some (.int (g 121 k)) := ldA rfl (by decide) h (by decide)
theorem sd_121 (h : k < 48) : ist (E g q) 121 (nI k) x = some (E (up2 g 121 k x) q) := stA rfl (by decide) h (by decide)
theorem ln_121 : aln (E g q) 121 = some 48 := alA rfl (by decide)
theorem ld_122 (h : k < 256) : ild (E g q) 122 (nI k) = some (.int (g 122 k)) := ldA rfl (by decide) h (by decide)
theorem sd_122 (h : k < 256) : ist (E g q) 122 (nI k) x = some (E (up2 g 122 k x) q) := stA rfl (by decide) h (by decide)
theorem ln_122 : aln (E g q) 122 = some 256 := alA rfl (by decide)
theorem fd_123_0 : fld (E g q) 123 700 = some (.int (g 123 0)) := fdI (by decide) rfl (by decide) (by decide) (by decide)
theorem sf_123_0 : sfd y (E g q) 123 700 (.int x) = some (E (up2 g 123 0 x) q) := sfI rfl (by decide) (by decide) rfl rfl
theorem fd_123_1 : fld (E g q) 123 701 = some (.int (g 123 1)) := fdI (by decide) rfl (by decide) (by decide) (by decide)
theorem sf_123_1 : sfd y (E g q) 123 701 (.int x) = some (E (up2 g 123 1 x) q) := sfI rfl (by decide) (by decide) rfl rfl
theorem fd_123_2 : fld (E g q) 123 702 = some (.int (g 123 2)) := fdI (by decide) rfl (by decide) (by decide) (by decide)
theorem sf_123_2 : sfd y (E g q) 123 702 (.int x) = some (E (up2 g 123 2 x) q) := sfI rfl (by decide) (by decide) rfl rfl
theorem fd_123_3 : fld (E g q) 123 703 = some (.int (g 123 3)) := fdI (by decide) rfl (by decide) (by decide) (by decide)
theorem sf_123_3 : sfd y (E g q) 123 703 (.int x) = some (E (up2 g 123 3 x) q) := sfI rfl (by decide) (by decide) rfl rfl
theorem fd_123_4 : fld (E g q) 123 704 = some (.int (g 123 4)) := fdI (by decide) rfl (by decide) (by decide) (by decide)
theorem sf_123_4 : sfd y (E g q) 123 704 (.int x) = some (E (up2 g 123 4 x) q) := sfI rfl (by decide) (by decide) rfl rfl
theorem fd_123_5 : fld (E g q) 123 705 = some (.ref 124) := fdR (by decide) rfl (by decide) (by decide) rfl rfl
theorem fd_123_6 : fld (E g q) 123 706 = some (.ref 125) := fdR (by decide) rfl (by decide) (by decide) rfl rfl
theorem fd_123_7 : fld (E g q) 123 707 = some (.ref 134) := fdR (by decide) rfl (by decide) (by decide) rfl rfl
theorem fd_123_8 : fld (E g q) 123 708 = some (.ref 135) := fdR (by decide) rfl (by decide) (by decide) rfl rfl
theorem fd_123_9 : fld (E g q) 123 709 = some (.ref 136) := fdR (by decide) rfl (by decide) (by decide) rfl rfl
theorem fd_123_10 : fld (E g q) 123 710 = some (.ref 137) := fdR (by decide) rfl (by decide) (by decide) rfl rfl
theorem ld_124 (h : k < 4) : ild (E g q) 124 (nI k) = some (.int (g 124 k)) := ldA rfl (by decide) h (by decide)
theorem sd_124 (h : k < 4) : ist (E g q) 124 (nI k) x = some (E (up2 g 124 k x) q) := stA rfl (by decide) h (by decide)
theorem ln_124 : aln (E g q) 124 = some 4 := alA rfl (by decide)
theorem ld_125_0 : rld (E g q) 125 (nI 0) = some (.ref 126) := rdA (n := 8) rfl (by decide) (by decide) (by decide) rfl
theorem ld_125_1 : rld (E g q) 125 (nI 1) = some (.ref 127) := rdA (n := 8) rfl (by decide) (by decide) (by decide) rfl
theorem ld_125_2 : rld (E g q) 125 (nI 2) = some (.ref 128) := rdA (n := 8) rfl (by decide) (by decide) (by decide) rfl
theorem ld_125_3 : rld (E g q) 125 (nI 3) = some (.ref 129) := rdA (n := 8) rfl (by decide) (by decide) (by decide) rfl
theorem ld_125_4 : rld (E g q) 125 (nI 4) = some (.ref 130) := rdA (n := 8) rfl (by decide) (by decide) (by decide) rfl
theorem ld_125_5 : rld (E g q) 125 (nI 5) = some (.ref 131) := rdA (n := 8) rfl (by decide) (by decide) (by decide) rfl
theorem ld_125_6 : rld (E g q) 125 (nI 6) = some (.ref 132) := rdA (n := 8) rfl (by decide) (by decide) (by decide) rfl
theorem ld_125_7 : rld (E g q) 125 (nI 7) = some (.ref 133) := rdA (n := 8) rfl (by decide) (by decide) (by decide) rfl
theorem ld_126 (h : k < 16) : ild (E g q) 126 (nI k) = some (.int (g 126 k)) := ldA rfl (by decide) h (by decide)
theorem sd_126 (h : k < 16) : ist (E g q) 126 (nI k) x = some (E (up2 g 126 k x) q) := stA rfl (by decide) h (by decide)
theorem ln_126 : aln (E g q) 126 = some 16 := alA rfl (by decide)
theorem ld_127 (h : k < 16) : ild (E g q) 127 (nI k) = some (.int (g 127 k)) := ldA rfl (by decide) h (by decide)
theorem sd_127 (h : k < 16) : ist (E g q) 127 (nI k) x = some (E (up2 g 127 k x) q) := stA rfl (by decide) h (by decide)
theorem ln_127 : aln (E g q) 127 = some 16 := alA rfl (by decide)
theorem ld_128 (h : k < 16) : ild (E g q) 128 (nI k) = some (.int (g 128 k)) := ldA rfl (by decide) h (by decide)
theorem sd_128 (h : k < 16) : ist (E g q) 128 (nI k) x = some (E (up2 g 128 k x) q) := stA rfl (by decide) h (by decide)
theorem ln_128 : aln (E g q) 128 = some 16 := alA rfl (by decide)
theorem ld_129 (h : k < 16) : ild (E g q) 129 (nI k) = some (.int (g 129 k)) := ldA rfl (by decide) h (by decide)
theorem sd_129 (h : k < 16) : ist (E g q) 129 (nI k) x = some (E (up2 g 129 k x) q) := stA rfl (by decide) h (by decide)
theorem ln_129 : aln (E g q) 129 = some 16 := alA rfl (by decide)
theorem ld_130 (h : k < 16) : ild (E g q) 130 (nI k) = some (.int (g 130 k)) := ldA rfl (by decide) h (by decide)
theorem sd_130 (h : k < 16) : ist (E g q) 130 (nI k) x = some (E (up2 g 130 k x) q) := stA rfl (by decide) h (by decide)
theorem ln_130 : aln (E g q) 130 = some 16 := alA rfl (by decide)
theorem ld_131 (h : k < 16) : ild (E g q) 131 (nI k) = some (.int (g 131 k)) := ldA rfl (by decide) h (by decide)
theorem sd_131 (h : k < 16) : ist (E g q) 131 (nI k) x = some (E (up2 g 131 k x) q) := stA rfl (by decide) h (by decide)
theorem ln_131 : aln (E g q) 131 = some 16 := alA rfl (by decide)
theorem ld_132 (h : k < 16) : ild (E g q) 132 (nI k) = some (.int (g 132 k)) := ldA rfl (by decide) h (by decide)
theorem sd_132 (h : k < 16) : ist (E g q) 132 (nI k) x = some (E (up2 g 132 k x) q) := stA rfl (by decide) h (by decide)
theorem ln_132 : aln (E g q) 132 = some 16 := alA rfl (by decide)
theorem ld_133 (h : k < 16) : ild (E g q) 133 (nI k) = some (.int (g 133 k)) := ldA rfl (by decide) h (by decide)
theorem sd_133 (h : k < 16) : ist (E g q) 133 (nI k) x = some (E (up2 g 133 k x) q) := stA rfl (by decide) h (by decide)
theorem ln_133 : aln (E g q) 133 = some 16 := alA rfl (by decide)
theorem ld_134 (h : k < 16) : ild (E g q) 134 (nI k) = some (.int (g 134 k)) := ldA rfl (by decide) h (by decide)
theorem sd_134 (h : k < 16) : ist (E g q) 134 (nI k) x = some (E (up2 g 134 k x) q) := stA rfl (by decide) h (by decide)
theorem ln_134 : aln (E g q) 134 = some 16 := alA rfl (by decide)
theorem ld_135 (h : k < 16) : ild (E g q) 135 (nI k) = some (.int (g 135 k)) := ldA rfl (by decide) h (by decide)
theorem sd_135 (h : k < 16) : ist (E g q) 135 (nI k) x = some (E (up2 g 135 k x) q) := stA rfl (by decide) h (by decide)
theorem ln_135 : aln (E g q) 135 = some 16 := alA rfl (by decide)
theorem ld_136 (h : k < 48) : ild (E g q) 136 (nI k) = some (.int (g 136 k)) := ldA rfl (by decide) h (by decide)
theorem sd_136 (h : k < 48) : ist (E g q) 136 (nI k) x = some (E (up2 g 136 k x) q) := stA rfl (by decide) h (by decide)
theorem ln_136 : aln (E g q) 136 = some 48 := alA rfl (by decide)
theorem ld_137 (h : k < 256) : ild (E g q) 137 (nI k) = some (.int (g 137 k)) := ldA rfl (by decide) h (by decide)
theorem sd_137 (h : k < 256) : ist (E g q) 137 (nI k) x = some (E (up2 g 137 k x) q) := stA rfl (by decide) h (by decide)
theorem ln_137 : aln (E g q) 137 = some 256 := alA rfl (by decide)
theorem fd_138_0 : fld (E g q) 138 700 = some (.int (g 138 0)) := fdI (by decide) rfl (by decide) (by decide) (by decide)
theorem sf_138_0 : sfd y (E g q) 138 700 (.int x) = some (E (up2 g 138 0 x) q) := sfI rfl (by decide) (by decide) rfl rfl
theorem fd_138_1 : fld (E g q) 138 701 = some (.int (g 138 1)) := fdI (by decide) rfl (by decide) (by decide) (by decide)
theorem sf_138_1 : sfd y (E g q) 138 701 (.int x) = some (E (up2 g 138 1 x) q) := sfI rfl (by decide) (by decide) rfl rfl
theorem fd_138_2 : fld (E g q) 138 702 = some (.int (g 138 2)) := fdI (by decide) rfl (by decide) (by decide) (by decide)
theorem sf_138_2 : sfd y (E g q) 138 702 (.int x) = some (E (up2 g 138 2 x) q) := sfI rfl (by decide) (by decide) rfl rfl
theorem fd_138_3 : fld (E g q) 138 703 = some (.int (g 138 3)) := fdI (by decide) rfl (by decide) (by decide) (by decide)
theorem sf_138_3 : sfd y (E g q) 138 703 (.int x) = some (E (up2 g 138 3 x) q) := sfI rfl (by decide) (by decide) rfl rfl
theorem fd_138_4 : fld (E g q) 138 704 = some (.int (g 138 4)) := fdI (by decide) rfl (by decide) (by decide) (by decide)
theorem sf_138_4 : sfd y (E g q) 138 704 (.int x) = some (E (up2 g 138 4 x) q) := sfI rfl (by decide) (by decide) rfl rfl
theorem fd_138_5 : fld (E g q) 138 705 = some (.ref 139) := fdR (by decide) rfl (by decide) (by decide) rfl rfl
theorem fd_138_6 : fld (E g q) 138 706 = some (.ref 140) := fdR (by decide) rfl (by decide) (by decide) rfl rfl
theorem fd_138_7 : fld (E g q) 138 707 = some (.ref 149) := fdR (by decide) rfl (by decide) (by decide) rfl rfl
theorem fd_138_8 : fld (E g q) 138 708 = some (.ref 150) := fdR (by decide) rfl (by decide) (by decide) rfl rfl
theorem fd_138_9 : fld (E g q) 138 709 = some (.ref 151) := fdR (by decide) rfl (by decide) (by decide) rfl rfl
theorem fd_138_10 : fld (E g q) 138 710 = some (.ref 152) := fdR (by decide) rfl (by decide) (by decide) rfl rfl
theorem ld_139 (h : k < 4) : ild (E g q) 139 (nI k) = some (.int (g 139 k)) := ldA rfl (by decide) h (by decide)
theorem sd_139 (h : k < 4) : ist (E g q) 139 (nI k) x = some (E (up2 g 139 k x) q) := stA rfl (by decide) h (by decide)
theorem ln_139 : aln (E g q) 139 = some 4 := alA rfl (by decide)
theorem ld_140_0 : rld (E g q) 140 (nI 0) = some (.ref 141) := rdA (n := 8) rfl (by decide) (by decide) (by decide) rfl
theorem ld_140_1 : rld (E g q) 140 (nI 1) = some (.ref 142) := rdA (n := 8) rfl (by decide) (by decide) (by decide) rfl
theorem ld_140_2 : rld (E g q) 140 (nI 2) = some (.ref 143) := rdA (n := 8) rfl (by decide) (by decide) (by decide) rfl
theorem ld_140_3 : rld (E g q) 140 (nI 3) = some (.ref 144) := rdA (n := 8) rfl (by decide) (by decide) (by decide) rfl
theorem ld_140_4 : rld (E g q) 140 (nI 4) = some (.ref 145) := rdA (n := 8) rfl (by decide) (by decide) (by decide) rfl
theorem ld_140_5 : rld (E g q) 140 (nI 5) = some (.ref 146) := rdA (n := 8) rfl (by decide) (by decide) (by decide) rfl
theorem ld_140_6 : rld (E g q) 140 (nI 6) = some (.ref 147) := rdA (n := 8) rfl (by decide) (by decide) (by decide) rfl
theorem ld_140_7 : rld (E g q) 140 (nI 7) = some (.ref 148) := rdA (n := 8) rfl (by decide) (by decide) (by decide) rfl
theorem ld_141 (h : k < 16) : ild (E g q) 141 (nI k) = some (.int (g 141 k)) := ldA rfl (by decide) h (by decide)
theorem sd_141 (h : k < 16) : ist (E g q) 141 (nI k) x = some (E (up2 g 141 k x) q) := stA rfl (by decide) h (by decide)
theorem ln_141 : aln (E g q) 141 = some 16 := alA rfl (by decide)
theorem ld_142 (h : k < 16) : ild (E g q) 142 (nI k) = some (.int (g 142 k)) := ldA rfl (by decide) h (by decide)
theorem sd_142 (h : k < 16) : ist (E g q) 142 (nI k) x = some (E (up2 g 142 k x) q) := stA rfl (by decide) h (by decide)
theorem ln_142 : aln (E g q) 142 = some 16 := alA rfl (by decide)
theorem ld_143 (h : k < 16) : ild (E g q) 143 (nI k) = some (.int (g 143 k)) := ldA rfl (by decide) h (by decide)
theorem sd_143 (h : k < 16) : ist (E g q) 143 (nI k) x = some (E (up2 g 143 k x) q) := stA rfl (by decide) h (by decide)
theorem ln_143 : aln (E g q) 143 = some 16 := alA rfl (by decide)
theorem ld_144 (h : k < 16) : ild (E g q) 144 (nI k) = some (.int (g 144 k)) := ldA rfl (by decide) h (by decide)
theorem sd_144 (h : k < 16) : ist (E g q) 144 (nI k) x = some (E (up2 g 144 k x) q) := stA rfl (by decide) h (by decide)
theorem ln_144 : aln (E g q) 144 = some 16 := alA rfl (by decide)
theorem ld_145 (h : k < 16) : ild (E g q) 145 (nI k) = some (.int (g 145 k)) := ldA rfl (by decide) h (by decide)
theorem sd_145 (h : k < 16) : ist (E g q) 145 (nI k) x = some (E (up2 g 145 k x) q) := stA rfl (by decide) h (by decide)
theorem ln_145 : aln (E g q) 145 = some 16 := alA rfl (by decide)
theorem ld_146 (h : k < 16) : ild (E g q) 146 (nI k) = some (.int (g 146 k)) := ldA rfl (by decide) h (by decide)
theorem sd_146 (h : k < 16) : ist (E g q) 146 (nI k) x = some (E (up2 g 146 k x) q) := stA rfl (by decide) h (by decide)
theorem ln_146 : aln (E g q) 146 = some 16 := alA rfl (by decide)
theorem ld_147 (h : k < 16) : ild (E g q) 147 (nI k) = some (.int (g 147 k)) := ldA rfl (by decide) h (by decide)
theorem sd_147 (h : k < 16) : ist (E g q) 147 (nI k) x = some (E (up2 g 147 k x) q) := stA rfl (by decide) h (by decide)
theorem ln_147 : aln (E g q) 147 = some 16 := alA rfl (by decide)
theorem ld_148 (h : k < 16) : ild (E g q) 148 (nI k) = some (.int (g 148 k)) := ldA rfl (by decide) h (by decide)
theorem sd_148 (h : k < 16) : ist (E g q) 148 (nI k) x = some (E (up2 g 148 k x) q) := stA rfl (by decide) h (by decide)
theorem ln_148 : aln (E g q) 148 = some 16 := alA rfl (by decide)
theorem ld_149 (h : k < 16) : ild (E g q) 149 (nI k) = some (.int (g 149 k)) := ldA rfl (by decide) h (by decide)
theorem sd_149 (h : k < 16) : ist (E g q) 149 (nI k) x = some (E (up2 g 149 k x) q) := stA rfl (by decide) h (by decide)
theorem ln_149 : aln (E g q) 149 = some 16 := alA rfl (by decide)
theorem ld_150 (h : k < 16) : ild (E g q) 150 (nI k) = some (.int (g 150 k)) := ldA rfl (by decide) h (by decide)
theorem sd_150 (h : k < 16) : ist (E g q) 150 (nI k) x = some (E (up2 g 150 k x) q) := stA rfl (by decide) h (by decide)
theorem ln_150 : aln (E g q) 150 = some 16 := alA rfl (by decide)
theorem ld_151 (h : k < 48) : ild (E g q) 151 (nI k) = some (.int (g 151 k)) := ldA rfl (by decide) h (by decide)
theorem sd_151 (h : k < 48) : ist (E g q) 151 (nI k) x = some (E (up2 g 151 k x) q) := stA rfl (by decide) h (by decide)
theorem ln_151 : aln (E g q) 151 = some 48 := alA rfl (by decide)
theorem ld_152 (h : k < 256) : ild (E g q) 152 (nI k) = some (.int (g 152 k)) := ldA rfl (by decide) h (by decide)
theorem sd_152 (h : k < 256) : ist (E g q) 152 (nI k) x = some (E (up2 g 152 k x) q) := stA rfl (by decide) h (by decide)
theorem ln_152 : aln (E g q) 152 = some 256 := alA rfl (by decide)
theorem fd_153_0 : fld (E g q) 153 700 = some (.int (g 153 0)) := fdI (by decide) rfl (by decide) (by decide) (by decide)
theorem sf_153_0 : sfd y (E g q) 153 700 (.int x) = some (E (up2 g 153 0 x) q) := sfI rfl (by decide) (by decide) rfl rfl
theorem fd_153_1 : fld (E g q) 153 701 = some (.int (g 153 1)) := fdI (by decide) rfl (by decide) (by decide) (by decide)
theorem sf_153_1 : sfd y (E g q) 153 701 (.int x) = some (E (up2 g 153 1 x) q) := sfI rfl (by decide) (by decide) rfl rfl
theorem fd_153_2 : fld (E g q) 153 702 = some (.int (g 153 2)) := fdI (by decide) rfl (by decide) (by decide) (by decide)
theorem sf_153_2 : sfd y (E g q) 153 702 (.int x) = some (E (up2 g 153 2 x) q) := sfI rfl (by decide) (by decide) rfl rfl
theorem fd_153_3 : fld (E g q) 153 703 = some (.int (g 153 3)) := fdI (by decide) rfl (by decide) (by decide) (by decide)
theorem sf_153_3 : sfd y (E g q) 153 703 (.int x) = some (E (up2 g 153 3 x) q) := sfI rfl (by decide) (by decide) rfl rfl
theorem fd_153_4 : fld (E g q) 153 704 = some (.int (g 153 4)) := fdI (by decide) rfl (by decide) (by decide) (by decide)
theorem sf_153_4 : sfd y (E g q) 153 704 (.int x) = some (E (up2 g 153 4 x) q) := sfI rfl (by decide) (by decide) rfl rfl
theorem fd_153_5 : fld (E g q) 153 705 = some (.ref 154) := fdR (by decide) rfl (by decide) (by decide) rfl rfl
theorem fd_153_6 : fld (E g q) 153 706 = some (.ref 155) := fdR (by decide) rfl (by decide) (by decide) rfl rfl
theorem fd_153_7 : fld (E g q) 153 707 = some (.ref 164) := fdR (by decide) rfl (by decide) (by decide) rfl rfl
theorem fd_153_8 : fld (E g q) 153 708 = some (.ref 165) := fdR (by decide) rfl (by decide) (by decide) rfl rfl
theorem fd_153_9 : fld (E g q) 153 709 = some (.ref 166) := fdR (by decide) rfl (by decide) (by decide) rfl rfl
theorem fd_153_10 : fld (E g q) 153 710 = some (.ref 167) := fdR (by decide) rfl (by decide) (by decide) rfl rfl
theorem ld_154 (h : k < 4) : ild (E g q) 154 (nI k) = some (.int (g 154 k)) := ldA rfl (by decide) h (by decide)
theorem sd_154 (h : k < 4) : ist (E g q) 154 (nI k) x = some (E (up2 g 154 k x) q) := stA rfl (by decide) h (by decide)
theorem ln_154 : aln (E g q) 154 = some 4 := alA rfl (by decide)
theorem ld_155_0 : rld (E g q) 155 (nI 0) = some (.ref 156) := rdA (n := 8) rfl (by decide) (by decide) (by decide) rfl
theorem ld_155_1 : rld (E g q) 155 (nI 1) = some (.ref 157) := rdA (n := 8) rfl (by decide) (by decide) (by decide) rfl
theorem ld_155_2 : rld (E g q) 155 (nI 2) = some (.ref 158) := rdA (n := 8) rfl (by decide) (by decide) (by decide) rfl
theorem ld_155_3 : rld (E g q) 155 (nI 3) = some (.ref 159) := rdA (n := 8) rfl (by decide) (by decide) (by decide) rfl
theorem ld_155_4 : rld (E g q) 155 (nI 4) = some (.ref 160) := rdA (n := 8) rfl (by decide) (by decide) (by decide) rfl
theorem ld_155_5 : rld (E g q) 155 (nI 5) = some (.ref 161) := rdA (n := 8) rfl (by decide) (by decide) (by decide) rfl
theorem ld_155_6 : rld (E g q) 155 (nI 6) = some (.ref 162) := rdA (n := 8) rfl (by decide) (by decide) (by decide) rfl
theorem ld_155_7 : rld (E g q) 155 (nI 7) = some (.ref 163) := rdA (n := 8) rfl (by decide) (by decide) (by decide) rfl
theorem ld_156 (h : k < 16) : ild (E g q) 156 (nI k) = some (.int (g 156 k)) := ldA rfl (by decide) h (by decide)
theorem sd_156 (h : k < 16) : ist (E g q) 156 (nI k) x = some (E (up2 g 156 k x) q) := stA rfl (by decide) h (by decide)
theorem ln_156 : aln (E g q) 156 = some 16 := alA rfl (by decide)
theorem ld_157 (h : k < 16) : ild (E g q) 157 (nI k) = some (.int (g 157 k)) := ldA rfl (by decide) h (by decide)
theorem sd_157 (h : k < 16) : ist (E g q) 157 (nI k) x = some (E (up2 g 157 k x) q) := stA rfl (by decide) h (by decide)
theorem ln_157 : aln (E g q) 157 = some 16 := alA rfl (by decide)
theorem ld_158 (h : k < 16) : ild (E g q) 158 (nI k) = some (.int (g 158 k)) := ldA rfl (by decide) h (by decide)
theorem sd_158 (h : k < 16) : ist (E g q) 158 (nI k) x = some (E (up2 g 158 k x) q) := stA rfl (by decide) h (by decide)
theorem ln_158 : aln (E g q) 158 = some 16 := alA rfl (by decide)
theorem ld_159 (h : k < 16) : ild (E g q) 159 (nI k) = some (.int (g 159 k)) := ldA rfl (by decide) h (by decide)
theorem sd_159 (h : k < 16) : ist (E g q) 159 (nI k) x = some (E (up2 g 159 k x) q) := stA rfl (by decide) h (by decide)
theorem ln_159 : aln (E g q) 159 = some 16 := alA rfl (by decide)
theorem ld_160 (h : k < 16) : ild (E g q) 160 (nI k) = some (.int (g 160 k)) := ldA rfl (by decide) h (by decide)
theorem sd_160 (h : k < 16) : ist (E g q) 160 (nI k) x = some (E (up2 g 160 k x) q) := stA rfl (by decide) h (by decide)
theorem ln_160 : aln (E g q) 160 = some 16 := alA rfl (by decide)
theorem ld_161 (h : k < 16) : ild (E g q) 161 (nI k) = some (.int (g 161 k)) := ldA rfl (by decide) h (by decide)
theorem sd_161 (h : k < 16) : ist (E g q) 161 (nI k) x = some (E (up2 g 161 k x) q) := stA rfl (by decide) h (by decide)
theorem ln_161 : aln (E g q) 161 = some 16 := alA rfl (by decide)
theorem ld_162 (h : k < 16) : ild (E g q) 162 (nI k) = some (.int (g 162 k)) := ldA rfl (by decide) h (by decide)
theorem sd_162 (h : k < 16) : ist (E g q) 162 (nI k) x = some (E (up2 g 162 k x) q) := stA rfl (by decide) h (by decide)
theorem ln_162 : aln (E g q) 162 = some 16 := alA rfl (by decide)
theorem ld_163 (h : k < 16) : ild (E g q) 163 (nI k) = some (.int (g 163 k)) := ldA rfl (by decide) h (by decide)
theorem sd_163 (h : k < 16) : ist (E g q) 163 (nI k) x = some (E (up2 g 163 k x) q) := stA rfl (by decide) h (by decide)
theorem ln_163 : aln (E g q) 163 = some 16 := alA rfl (by decide)
theorem ld_164 (h : k < 16) : ild (E g q) 164 (nI k) = some (.int (g 164 k)) := ldA rfl (by decide) h (by decide)
theorem sd_164 (h : k < 16) : ist (E g q) 164 (nI k) x = some (E (up2 g 164 k x) q) := stA rfl (by decide) h (by decide)
theorem ln_164 : aln (E g q) 164 = some 16 := alA rfl (by decide)
theorem ld_165 (h : k < 16) : ild (E g q) 165 (nI k) = some (.int (g 165 k)) := ldA rfl (by decide) h (by decide)
theorem sd_165 (h : k < 16) : ist (E g q) 165 (nI k) x = some (E (up2 g 165 k x) q) := stA rfl (by decide) h (by decide)
theorem ln_165 : aln (E g q) 165 = some 16 := alA rfl (by decide)
theorem ld_166 (h : k < 48) : ild (E g q) 166 (nI k) = some (.int (g 166 k)) := ldA rfl (by decide) h (by decide)
theorem sd_166 (h : k < 48) : ist (E g q) 166 (nI k) x = some (E (up2 g 166 k x) q) := stA rfl (by decide) h (by decide)
theorem ln_166 : aln (E g q) 166 = some 48 := alA rfl (by decide)
theorem ld_167 (h : k < 256) : ild (E g q) 167 (nI k) = some (.int (g 167 k)) := ldA rfl (by decide) h (by decide)
theorem sd_167 (h : k < 256) : ist (E g q) 167 (nI k) x = some (E (up2 g 167 k x) q) := stA rfl (by decide) h (by decide)
theorem ln_167 : aln (E g q) 167 = some 256 := alA rfl (by decide)
theorem fd_168_0 : fld (E g q) 168 500 = some (.ref 169) := fdR (by decide) rfl (by decide) (by decide) rfl rfl
theorem fd_168_1 : fld (E g q) 168 501 = some (.int (g 168 1)) := fdI (by decide) rfl (by decide) (by decide) (by decide)
theorem sf_168_1 : sfd y (E g q) 168 501 (.int x) = some (E (up2 g 168 1 x) q) := sfI rfl (by decide) (by decide) rfl rfl
theorem fd_168_2 : fld (E g q) 168 502 = some (.int (g 168 2)) := fdI (by decide) rfl (by decide) (by decide) (by decide)
theorem sf_168_2 : sfd y (E g q) 168 502 (.int x) = some (E (up2 g 168 2 x) q) := sfI rfl (by decide) (by decide) rfl rfl
theorem fd_168_3 : fld (E g q) 168 503 = some (.int (g 168 3)) := fdI (by decide) rfl (by decide) (by decide) (by decide)
theorem sf_168_3 : sfd y (E g q) 168 503 (.int x) = some (E (up2 g 168 3 x) q) := sfI rfl (by decide) (by decide) rfl rfl
theorem fd_168_4 : fld (E g q) 168 504 = some (.int (g 168 4)) := fdI (by decide) rfl (by decide) (by decide) (by decide)
theorem sf_168_4 : sfd y (E g q) 168 504 (.int x) = some (E (up2 g 168 4 x) q) := sfI rfl (by decide) (by decide) rfl rfl
theorem fd_168_5 : fld (E g q) 168 505 = some (.int (g 168 5)) := fdI (by decide) rfl (by decide) (by decide) (by decide)
theorem sf_168_5 : sfd y (E g q) 168 505 (.int x) = some (E (up2 g 168 5 x) q) := sfI rfl (by decide) (by decide) rfl rfl
theorem fd_168_6 : fld (E g q) 168 506 = some (.ref 170) := fdR (by decide) rfl (by decide) (by decide) rfl rfl
theorem fd_168_7 : fld (E g q) 168 507 = some (.ref 171) := fdR (by decide) rfl (by decide) (by decide) rfl rfl
theorem fd_168_8 : fld (E g q) 168 508 = some (.ref 172) := fdR (by decide) rfl (by decide) (by decide) rfl rfl
theorem fd_168_9 : fld (E g q) 168 509 = some (.int (g 168 9)) := fdI (by decide) rfl (by decide) (by decide) (by decide)
theorem sf_168_9 : sfd y (E g q) 168 509 (.int x) = some (E (up2 g 168 9 x) q) := sfI rfl (by decide) (by decide) rfl rfl
theorem fd_168_10 : fld (E g q) 168 510 = some (.int (g 168 10)) := fdI (by decide) rfl (by decide) (by decide) (by decide)
theorem sf_168_10 : sfd y (E g q) 168 510 (.int x) = some (E (up2 g 168 10 x) q) := sfI rfl (by decide) (by decide) rfl rfl
theorem ld_169 (h : k < 400) : ild (E g q) 169 (nI k) = some (.int (g 169 k)) := ldA rfl (by decide) h (by decide)
theorem sd_169 (h : k < 400) : ist (E g q) 169 (nI k) x = some (E (up2 g 169 k x) q) := stA rfl (by decide) h (by decide)
theorem ln_169 : aln (E g q) 169 = some 400 := alA rfl (by decide)
theorem ld_170 (h : k < 401) : ild (E g q) 170 (nI k) = some (.int (g 170 k)) := ldA rfl (by decide) h (by decide)
theorem sd_170 (h : k < 401) : ist (E g q) 170 (nI k) x = some (E (up2 g 170 k x) q) := stA rfl (by decide) h (by decide)
theorem ln_170 : aln (E g q) 170 = some 401 := alA rfl (by decide)
theorem ld_171 (h : k < 401) : ild (E g q) 171 (nI k) = some (.int (g 171 k)) := ldA rfl (by decide) h (by decide)
theorem sd_171 (h : k < 401) : ist (E g q) 171 (nI k) x = some (E (up2 g 171 k x) q) := stA rfl (by decide) h (by decide)
theorem ln_171 : aln (E g q) 171 = some 401 := alA rfl (by decide)
theorem ld_172 (h : k < 401) : ild (E g q) 172 (nI k) = some (.int (g 172 k)) := ldA rfl (by decide) h (by decide)
theorem sd_172 (h : k < 401) : ist (E g q) 172 (nI k) x = some (E (up2 g 172 k x) q) := stA rfl (by decide) h (by decide)
theorem ln_172 : aln (E g q) 172 = some 401 := alA rfl (by decide)
theorem fd_173_0 : fld (E g q) 173 300 = some (.ref 168) := fdR (by decide) rfl (by decide) (by decide) rfl rfl
theorem fd_174_0 : fld (E g q) 174 600 = some (.ref 175) := fdR (by decide) rfl (by decide) (by decide) rfl rfl
theorem fd_174_1 : fld (E g q) 174 601 = some (.ref 179) := fdR (by decide) rfl (by decide) (by decide) rfl rfl
theorem fd_174_2 : fld (E g q) 174 602 = some (.ref 180) := fdR (by decide) rfl (by decide) (by decide) rfl rfl
theorem fd_174_3 : fld (E g q) 174 603 = some (.ref 181) := fdR (by decide) rfl (by decide) (by decide) rfl rfl
theorem fd_175_0 : fld (E g q) 175 1000 = some (.ref 176) := fdR (by decide) rfl (by decide) (by decide) rfl rfl
theorem fd_175_1 : fld (E g q) 175 1001 = some (.ref 177) := fdR (by decide) rfl (by decide) (by decide) rfl rfl
theorem fd_175_2 : fld (E g q) 175 1002 = some (.ref 178) := fdR (by decide) rfl (by decide) (by decide) rfl rfl
theorem fd_175_3 : fld (E g q) 175 1003 = some (.int (g 175 3)) := fdI (by decide) rfl (by decide) (by decide) (by decide)
theorem sf_175_3 : sfd y (E g q) 175 1003 (.int x) = some (E (up2 g 175 3 x) q) := sfI rfl (by decide) (by decide) rfl rfl
theorem fd_175_4 : fld (E g q) 175 1004 = some (.int (g 175 4)) := fdI (by decide) rfl (by decide) (by decide) (by decide)
theorem sf_175_4 : sfd y (E g q) 175 1004 (.int x) = some (E (up2 g 175 4 x) q) := sfI rfl (by decide) (by decide) rfl rfl
theorem ld_176 (h : k < 16) : ild (E g q) 176 (nI k) = some (.int (g 176 k)) := ldA rfl (by decide) h (by decide)
theorem sd_176 (h : k < 16) : ist (E g q) 176 (nI k) x = some (E (up2 g 176 k x) q) := stA rfl (by decide) h (by decide)
theorem ln_176 : aln (E g q) 176 = some 16 := alA rfl (by decide)
theorem ld_177 (h : k < 16) : ild (E g q) 177 (nI k) = some (.int (g 177 k)) := ldA rfl (by decide) h (by decide)
theorem sd_177 (h : k < 16) : ist (E g q) 177 (nI k) x = some (E (up2 g 177 k x) q) := stA rfl (by decide) h (by decide)
theorem ln_177 : aln (E g q) 177 = some 16 := alA rfl (by decide)
theorem ld_178 (h : k < 48) : ild (E g q) 178 (nI k) = some (.int (g 178 k)) := ldA rfl (by decide) h (by decide)
theorem sd_178 (h : k < 48) : ist (E g q) 178 (nI k) x = some (E (up2 g 178 k x) q) := stA rfl (by decide) h (by decide)
theorem ln_178 : aln (E g q) 178 = some 48 := alA rfl (by decide)
theorem ld_179 (h : k < 3) : ild (E g q) 179 (nI k) = some (.int (g 179 k)) := ldA rfl (by decide) h (by decide)
theorem sd_179 (h : k < 3) : ist (E g q) 179 (nI k) x = some (E (up2 g 179 k x) q) := stA rfl (by decide) h (by decide)
theorem ln_179 : aln (E g q) 179 = some 3 := alA rfl (by decide)
theorem ld_180 (h : k < 48) : ild (E g q) 180 (nI k) = some (.int (g 180 k)) := ldA rfl (by decide) h (by decide)
theorem sd_180 (h : k < 48) : ist (E g q) 180 (nI k) x = some (E (up2 g 180 k x) q) := stA rfl (by decide) h (by decide)
theorem ln_180 : aln (E g q) 180 = some 48 := alA rfl (by decide)
theorem ld_181 (h : k < 10) : ild (E g q) 181 (nI k) = some (.int (g 181 k)) := ldA rfl (by decide) h (by decide)
theorem sd_181 (h : k < 10) : ist (E g q) 181 (nI k) x = some (E (up2 g 181 k x) q) := stA rfl (by decide) h (by decide)
theorem ln_181 : aln (E g q) 181 = some 10 := alA rfl (by decide)
theorem fd_182_0 : fld (E g q) 182 800 = some (.ref 174) := fdR (by decide) rfl (by decide) (by decide) rfl rfl
theorem fd_182_1 : fld (E g q) 182 801 = some (.ref 61) := fdR (by decide) rfl (by decide) (by decide) rfl rfl
theorem fd_182_2 : fld (E g q) 182 802 = some (.ref 183) := fdR (by decide) rfl (by decide) (by decide) rfl rfl
theorem fd_182_3 : fld (E g q) 182 803 = some (.int (g 182 3)) := fdI (by decide) rfl (by decide) (by decide) (by decide)
theorem sf_182_3 : sfd y (E g q) 182 803 (.int x) = some (E (up2 g 182 3 x) q) := sfI rfl (by decide) (by decide) rfl rfl
theorem ld_183 (h : k < 3216) : lld (E g q) 183 (nI k) = some (.long (q 183 k)) := llA rfl (by decide) h (by decide)
theorem sd_183 (h : k < 3216) : lst (E g q) 183 (nI k) u = some (E g (up2 q 183 k u)) := slA rfl (by decide) h (by decide)
theorem fd_184_0 : fld (E g q) 184 0 = some (.ref 174) := fdR (by decide) rfl (by decide) (by decide) rfl rfl
theorem fd_184_1 : fld (E g q) 184 1 = some (.ref 61) := fdR (by decide) rfl (by decide) (by decide) rfl rfl
theorem fd_184_2 : fld (E g q) 184 2 = some (.ref 185) := fdR (by decide) rfl (by decide) (by decide) rfl rfl
theorem fd_184_3 : fld (E g q) 184 3 = some (.ref 189) := fdR (by decide) rfl (by decide) (by decide) rfl rfl
theorem fd_184_4 : fld (E g q) 184 4 = some (.ref 190) := fdR (by decide) rfl (by decide) (by decide) rfl rfl
theorem fd_184_5 : fld (E g q) 184 5 = some (.ref 191) := fdR (by decide) rfl (by decide) (by decide) rfl rfl
theorem fd_184_6 : fld (E g q) 184 6 = some (.ref 192) := fdR (by decide) rfl (by decide) (by decide) rfl rfl
theorem fd_184_7 : fld (E g q) 184 7 = some (.int (g 184 7)) := fdI (by decide) rfl (by decide) (by decide) (by decide)
theorem sf_184_7 : sfd y (E g q) 184 7 (.int x) = some (E (up2 g 184 7 x) q) := sfI rfl (by decide) (by decide) rfl rfl
theorem fd_184_8 : fld (E g q) 184 8 = some (.int (g 184 8)) := fdI (by decide) rfl (by decide) (by decide) (by decide)
theorem sf_184_8 : sfd y (E g q) 184 8 (.int x) = some (E (up2 g 184 8 x) q) := sfI rfl (by decide) (by decide) rfl rfl
theorem fd_184_9 : fld (E g q) 184 9 = some (.ref 193) := fdR (by decide) rfl (by decide) (by decide) rfl rfl
theorem fd_184_10 : fld (E g q) 184 10 = some (.ref 194) := fdR (by decide) rfl (by decide) (by decide) rfl rfl
theorem fd_184_11 : fld (E g q) 184 11 = some (.ref 195) := fdR (by decide) rfl (by decide) (by decide) rfl rfl
theorem fd_185_0 : fld (E g q) 185 1000 = some (.ref 186) := fdR (by decide) rfl (by decide) (by decide) rfl rfl
theorem fd_185_1 : fld (E g q) 185 1001 = some (.ref 187) := fdR (by decide) rfl (by decide) (by decide) rfl rfl
theorem fd_185_2 : fld (E g q) 185 1002 = some (.ref 188) := fdR (by decide) rfl (by decide) (by decide) rfl rfl
theorem fd_185_3 : fld (E g q) 185 1003 = some (.int (g 185 3)) := fdI (by decide) rfl (by decide) (by decide) (by decide)
theorem sf_185_3 : sfd y (E g q) 185 1003 (.int x) = some (E (up2 g 185 3 x) q) := sfI rfl (by decide) (by decide) rfl rfl
theorem fd_185_4 : fld (E g q) 185 1004 = some (.int (g 185 4)) := fdI (by decide) rfl (by decide) (by decide) (by decide)
theorem sf_185_4 : sfd y (E g q) 185 1004 (.int x) = some (E (up2 g 185 4 x) q) := sfI rfl (by decide) (by decide) rfl rfl
theorem ld_186 (h : k < 16) : ild (E g q) 186 (nI k) = some (.int (g 186 k)) := ldA rfl (by decide) h (by decide)
theorem sd_186 (h : k < 16) : ist (E g q) 186 (nI k) x = some (E (up2 g 186 k x) q) := stA rfl (by decide) h (by decide)
theorem ln_186 : aln (E g q) 186 = some 16 := alA rfl (by decide)
theorem ld_187 (h : k < 16) : ild (E g q) 187 (nI k) = some (.int (g 187 k)) := ldA rfl (by decide) h (by decide)
theorem sd_187 (h : k < 16) : ist (E g q) 187 (nI k) x = some (E (up2 g 187 k x) q) := stA rfl (by decide) h (by decide)
theorem ln_187 : aln (E g q) 187 = some 16 := alA rfl (by decide)
theorem ld_188 (h : k < 48) : ild (E g q) 188 (nI k) = some (.int (g 188 k)) := ldA rfl (by decide) h (by decide)
theorem sd_188 (h : k < 48) : ist (E g q) 188 (nI k) x = some (E (up2 g 188 k x) q) := stA rfl (by decide) h (by decide)
theorem ln_188 : aln (E g q) 188 = some 48 := alA rfl (by decide)
theorem ld_189 (h : k < 16) : ild (E g q) 189 (nI k) = some (.int (g 189 k)) := ldA rfl (by decide) h (by decide)
theorem sd_189 (h : k < 16) : ist (E g q) 189 (nI k) x = some (E (up2 g 189 k x) q) := stA rfl (by decide) h (by decide)
theorem ln_189 : aln (E g q) 189 = some 16 := alA rfl (by decide)
theorem ld_190 (h : k < 48) : ild (E g q) 190 (nI k) = some (.int (g 190 k)) := ldA rfl (by decide) h (by decide)
theorem sd_190 (h : k < 48) : ist (E g q) 190 (nI k) x = some (E (up2 g 190 k x) q) := stA rfl (by decide) h (by decide)
theorem ln_190 : aln (E g q) 190 = some 48 := alA rfl (by decide)
theorem ld_191 (h : k < 16) : ild (E g q) 191 (nI k) = some (.int (g 191 k)) := ldA rfl (by decide) h (by decide)
theorem sd_191 (h : k < 16) : ist (E g q) 191 (nI k) x = some (E (up2 g 191 k x) q) := stA rfl (by decide) h (by decide)
theorem ln_191 : aln (E g q) 191 = some 16 := alA rfl (by decide)
theorem ld_192 (h : k < 16) : ild (E g q) 192 (nI k) = some (.int (g 192 k)) := ldA rfl (by decide) h (by decide)
theorem sd_192 (h : k < 16) : ist (E g q) 192 (nI k) x = some (E (up2 g 192 k x) q) := stA rfl (by decide) h (by decide)
theorem ln_192 : aln (E g q) 192 = some 16 := alA rfl (by decide)
theorem ld_193 (h : k < 16) : ild (E g q) 193 (nI k) = some (.int (g 193 k)) := ldA rfl (by decide) h (by decide)
theorem sd_193 (h : k < 16) : ist (E g q) 193 (nI k) x = some (E (up2 g 193 k x) q) := stA rfl (by decide) h (by decide)
theorem ln_193 : aln (E g q) 193 = some 16 := alA rfl (by decide)
theorem ld_194 (h : k < 4) : ild (E g q) 194 (nI k) = some (.int (g 194 k)) := ldA rfl (by decide) h (by decide)
theorem sd_194 (h : k < 4) : ist (E g q) 194 (nI k) x = some (E (up2 g 194 k x) q) := stA rfl (by decide) h (by decide)
theorem ln_194 : aln (E g q) 194 = some 4 := alA rfl (by decide)
theorem ld_195 (h : k < 16) : ild (E g q) 195 (nI k) = some (.int (g 195 k)) := ldA rfl (by decide) h (by decide)
theorem sd_195 (h : k < 16) : ist (E g q) 195 (nI k) x = some (E (up2 g 195 k x) q) := stA rfl (by decide) h (by decide)
theorem ln_195 : aln (E g q) 195 = some 16 := alA rfl (by decide)
theorem fd_196_0 : fld (E g q) 196 1200 = some (.ref 197) := fdR (by decide) rfl (by decide) (by decide) rfl rfl
theorem fd_196_1 : fld (E g q) 196 1201 = some (.ref 198) := fdR (by decide) rfl (by decide) (by decide) rfl rfl
theorem fd_196_2 : fld (E g q) 196 1202 = some (.ref 199) := fdR (by decide) rfl (by decide) (by decide) rfl rfl
theorem fd_196_3 : fld (E g q) 196 1203 = some (.ref 200) := fdR (by decide) rfl (by decide) (by decide) rfl rfl
theorem fd_196_4 : fld (E g q) 196 1204 = some (.int (g 196 4)) := fdI (by decide) rfl (by decide) (by decide) (by decide)
theorem sf_196_4 : sfd y (E g q) 196 1204 (.int x) = some (E (up2 g 196 4 x) q) := sfI rfl (by decide) (by decide) rfl rfl
theorem fd_196_5 : fld (E g q) 196 1205 = some (.int (g 196 5)) := fdI (by decide) rfl (by decide) (by decide) (by decide)
theorem sf_196_5 (hx : x = 0 ∨ x = 1) : sfd y (E g q) 196 1205 (.int x) = some (E (up2 g 196 5 x) q) := sfZ rfl (by decide) (by decide) rfl rfl hx
theorem fd_196_6 : fld (E g q) 196 1206 = some (.ref 201) := fdR (by decide) rfl (by decide) (by decide) rfl rfl
theorem fd_196_7 : fld (E g q) 196 1207 = some (.ref 202) := fdR (by decide) rfl (by decide) (by decide) rfl rfl
theorem fd_196_8 : fld (E g q) 196 1208 = some (.ref 203) := fdR (by decide) rfl (by decide) (by decide) rfl rfl
theorem fd_196_9 : fld (E g q) 196 1209 = some (.ref 204) := fdR (by decide) rfl (by decide) (by decide) rfl rfl
theorem fd_196_10 : fld (E g q) 196 1210 = some (.ref 205) := fdR (by decide) rfl (by decide) (by decide) rfl rfl
theorem fd_196_11 : fld (E g q) 196 1211 = some (.ref 206) := fdR (by decide) rfl (by decide) (by decide) rfl rfl
theorem fd_196_12 : fld (E g q) 196 1212 = some (.int (g 196 12)) := fdI (by decide) rfl (by decide) (by decide) (by decide)
theorem sf_196_12 : sfd y (E g q) 196 1212 (.int x) = some (E (up2 g 196 12 x) q) := sfI rfl (by decide) (by decide) rfl rfl
theorem fd_196_13 : fld (E g q) 196 1213 = some (.int (g 196 13)) := fdI (by decide) rfl (by decide) (by decide) (by decide)
theorem sf_196_13 : sfd y (E g q) 196 1213 (.int x) = some (E (up2 g 196 13 x) q) := sfI rfl (by decide) (by decide) rfl rfl
theorem fd_196_14 : fld (E g q) 196 1214 = some (.int (g 196 14)) := fdI (by decide) rfl (by decide) (by decide) (by decide)
theorem sf_196_14 : sfd y (E g q) 196 1214 (.int x) = some (E (up2 g 196 14 x) q) := sfI rfl (by decide) (by decide) rfl rfl
theorem fd_196_15 : fld (E g q) 196 1215 = some (.int (g 196 15)) := fdI (by decide) rfl (by decide) (by decide) (by decide)
theorem sf_196_15 : sfd y (E g q) 196 1215 (.int x) = some (E (up2 g 196 15 x) q) := sfI rfl (by decide) (by decide) rfl rfl
theorem fd_196_16 : fld (E g q) 196 1216 = some (.int (g 196 16)) := fdI (by decide) rfl (by decide) (by decide) (by decide)
theorem sf_196_16 : sfd y (E g q) 196 1216 (.int x) = some (E (up2 g 196 16 x) q) := sfI rfl (by decide) (by decide) rfl rfl
theorem fd_196_17 : fld (E g q) 196 1217 = some (.int (g 196 17)) := fdI (by decide) rfl (by decide) (by decide) (by decide)
theorem sf_196_17 : sfd y (E g q) 196 1217 (.int x) = some (E (up2 g 196 17 x) q) := sfI rfl (by decide) (by decide) rfl rfl
theorem fd_196_18 : fld (E g q) 196 1218 = some (.int (g 196 18)) := fdI (by decide) rfl (by decide) (by decide) (by decide)
theorem sf_196_18 : sfd y (E g q) 196 1218 (.int x) = some (E (up2 g 196 18 x) q) := sfI rfl (by decide) (by decide) rfl rfl
theorem fd_196_19 : fld (E g q) 196 1219 = some (.int (g 196 19)) := fdI (by decide) rfl (by decide) (by decide) (by decide)
theorem sf_196_19 : sfd y (E g q) 196 1219 (.int x) = some (E (up2 g 196 19 x) q) := sfI rfl (by decide) (by decide) rfl rfl
theorem fd_196_20 : fld (E g q) 196 1220 = some (.int (g 196 20)) := fdI (by decide) rfl (by decide) (by decide) (by decide)
theorem sf_196_20 : sfd y (E g q) 196 1220 (.int x) = some (E (up2 g 196 20 x) q) := sfI rfl (by decide) (by decide) rfl rfl
theorem fd_196_21 : fld (E g q) 196 1221 = some (.int (g 196 21)) := fdI (by decide) rfl (by decide) (by decide) (by decide)
theorem sf_196_21 : sfd y (E g q) 196 1221 (.int x) = some (E (up2 g 196 21 x) q) := sfI rfl (by decide) (by decide) rfl rfl
theorem fd_196_22 : fld (E g q) 196 1222 = some (.int (g 196 22)) := fdI (by decide) rfl (by decide) (by decide) (by decide)
theorem sf_196_22 : sfd y (E g q) 196 1222 (.int x) = some (E (up2 g 196 22 x) q) := sfI rfl (by decide) (by decide) rfl rfl
theorem fd_196_23 : fld (E g q) 196 1223 = some (.int (g 196 23)) := fdI (by decide) rfl (by decide) (by decide) (by decide)
theorem sf_196_23 : sfd y (E g q) 196 1223 (.int x) = some (E (up2 g 196 23 x) q) := sfI rfl (by decide) (by decide) rfl rfl
theorem fd_196_24 : fld (E g q) 196 1224 = some (.int (g 196 24)) := fdI (by decide) rfl (by decide) (by decide) (by decide)
theorem sf_196_24 : sfd y (E g q) 196 1224 (.int x) = some (E (up2 g 196 24 x) q) := sfI rfl (by decide) (by decide) rfl rfl
theorem fd_196_25 : fld (E g q) 196 1225 = some (.int (g 196 25)) := fdI (by decide) rfl (by decide) (by decide) (by decide)
theorem sf_196_25 : sfd y (E g q) 196 1225 (.int x) = some (E (up2 g 196 25 x) q) := sfI rfl (by decide) (by decide) rfl rfl
theorem fd_196_26 : fld (E g q) 196 1226 = some (.int (g 196 26)) := fdI (by decide) rfl (by decide) (by decide) (by decide)
theorem sf_196_26 : sfd y (E g q) 196 1226 (.int x) = some (E (up2 g 196 26 x) q) := sfI rfl (by decide) (by decide) rfl rfl
theorem fd_196_27 : fld (E g q) 196 1227 = some (.ref 207) := fdR (by decide) rfl (by decide) (by decide) rfl rfl
theorem fd_196_28 : fld (E g q) 196 1228 = some (.ref 208) := fdR (by decide) rfl (by decide) (by decide) rfl rfl
theorem fd_196_29 : fld (E g q) 196 1229 = some (.ref 209) := fdR (by decide) rfl (by decide) (by decide) rfl rfl
theorem fd_196_30 : fld (E g q) 196 1230 = some (.int (g 196 30)) := fdI (by decide) rfl (by decide) (by decide) (by decide)
theorem sf_196_30 : sfd y (E g q) 196 1230 (.int x) = some (E (up2 g 196 30 x) q) := sfI rfl (by decide) (by decide) rfl rfl
theorem fd_196_31 : fld (E g q) 196 1231 = some (.ref 210) := fdR (by decide) rfl (by decide) (by decide) rfl rfl
theorem fd_196_32 : fld (E g q) 196 1232 = some (.ref 211) := fdR (by decide) rfl (by decide) (by decide) rfl rfl
theorem fd_196_33 : fld (E g q) 196 1233 = some (.ref 212) := fdR (by decide) rfl (by decide) (by decide) rfl rfl
theorem fd_196_34 : fld (E g q) 196 1234 = some (.ref 213) := fdR (by decide) rfl (by decide) (by decide) rfl rfl
theorem fd_196_35 : fld (E g q) 196 1235 = some (.ref 214) := fdR (by decide) rfl (by decide) (by decide) rfl rfl
theorem fd_196_36 : fld (E g q) 196 1236 = some (.ref 215) := fdR (by decide) rfl (by decide) (by decide) rfl rfl
theorem fd_196_37 : fld (E g q) 196 1237 = some (.int (g 196 37)) := fdI (by decide) rfl (by decide) (by decide) (by decide)
theorem sf_196_37 : sfd y (E g q) 196 1237 (.int x) = some (E (up2 g 196 37 x) q) := sfI rfl (by decide) (by decide) rfl rfl
theorem fd_196_38 : fld (E g q) 196 1238 = some (.ref 216) := fdR (by decide) rfl (by decide) (by decide) rfl rfl
theorem fd_196_39 : fld (E g q) 196 1239 = some (.int (g 196 39)) := fdI (by decide) rfl (by decide) (by decide) (by decide)
theorem sf_196_39 : sfd y (E g q) 196 1239 (.int x) = some (E (up2 g 196 39 x) q) := sfI rfl (by decide) (by decide) rfl rfl
theorem fd_196_40 : fld (E g q) 196 1240 = some (.int (g 196 40)) := fdI (by decide) rfl (by decide) (by decide) (by decide)
theorem sf_196_40 : sfd y (E g q) 196 1240 (.int x) = some (E (up2 g 196 40 x) q) := sfI rfl (by decide) (by decide) rfl rfl
theorem fd_196_41 : fld (E g q) 196 1241 = some (.int (g 196 41)) := fdI (by decide) rfl (by decide) (by decide) (by decide)
theorem sf_196_41 : sfd y (E g q) 196 1241 (.int x) = some (E (up2 g 196 41 x) q) := sfI rfl (by decide) (by decide) rfl rfl
theorem fd_196_42 : fld (E g q) 196 1242 = some (.ref 217) := fdR (by decide) rfl (by decide) (by decide) rfl rfl
theorem fd_196_43 : fld (E g q) 196 1243 = some (.ref 218) := fdR (by decide) rfl (by decide) (by decide) rfl rfl
theorem fd_196_44 : fld (E g q) 196 1244 = some (.ref 219) := fdR (by decide) rfl (by decide) (by decide) rfl rfl
theorem ld_197 (h : k < 2955) : ild (E g q) 197 (nI k) = some (.int (g 197 k)) := ldA rfl (by decide) h (by decide)
theorem sd_197 (h : k < 2955) : ist (E g q) 197 (nI k) x = some (E (up2 g 197 k x) q) := stA rfl (by decide) h (by decide)
theorem ln_197 : aln (E g q) 197 = some 2955 := alA rfl (by decide)
theorem ld_198 (h : k < 2955) : ild (E g q) 198 (nI k) = some (.int (g 198 k)) := ldA rfl (by decide) h (by decide)
theorem sd_198 (h : k < 2955) : ist (E g q) 198 (nI k) x = some (E (up2 g 198 k x) q) := stA rfl (by decide) h (by decide)
theorem ln_198 : aln (E g q) 198 = some 2955 := alA rfl (by decide)
theorem ld_199 (h : k < 2980) : ild (E g q) 199 (nI k) = some (.int (g 199 k)) := ldA rfl (by decide) h (by decide)
theorem sd_199 (h : k < 2980) : ist (E g q) 199 (nI k) x = some (E (up2 g 199 k x) q) := stA rfl (by decide) h (by decide)
theorem ln_199 : aln (E g q) 199 = some 2980 := alA rfl (by decide)
theorem ld_200 (h : k < 596) : ild (E g q) 200 (nI k) = some (.int (g 200 k)) := ldA rfl (by decide) h (by decide)
theorem sd_200 (h : k < 596) : ist (E g q) 200 (nI k) x = some (E (up2 g 200 k x) q) := stA rfl (by decide) h (by decide)
theorem ln_200 : aln (E g q) 200 = some 596 := alA rfl (by decide)
theorem ld_201 (h : k < 48) : ild (E g q) 201 (nI k) = some (.int (g 201 k)) := ldA rfl (by decide) h (by decide)
theorem sd_201 (h : k < 48) : ist (E g q) 201 (nI k) x = some (E (up2 g 201 k x) q) := stA rfl (by decide) h (by decide)
theorem ln_201 : aln (E g q) 201 = some 48 := alA rfl (by decide)
theorem ld_202 (h : k < 820) : ild (E g q) 202 (nI k) = some (.int (g 202 k)) := ldA rfl (by decide) h (by decide)
theorem sd_202 (h : k < 820) : ist (E g q) 202 (nI k) x = some (E (up2 g 202 k x) q) := stA rfl (by decide) h (by decide)
theorem ln_202 : aln (E g q) 202 = some 820 := alA rfl (by decide)
theorem ld_203 (h : k < 128) : ild (E g q) 203 (nI k) = some (.int (g 203 k)) := ldA rfl (by decide) h (by decide)
theorem sd_203 (h : k < 128) : ist (E g q) 203 (nI k) x = some (E (up2 g 203 k x) q) := stA rfl (by decide) h (by decide)
theorem ln_203 : aln (E g q) 203 = some 128 := alA rfl (by decide)
theorem ld_204 (h : k < 400) : ild (E g q) 204 (nI k) = some (.int (g 204 k)) := ldA rfl (by decide) h (by decide)
theorem sd_204 (h : k < 400) : ist (E g q) 204 (nI k) x = some (E (up2 g 204 k x) q) := stA rfl (by decide) h (by decide)
theorem ln_204 : aln (E g q) 204 = some 400 := alA rfl (by decide)
theorem ld_205 (h : k < 420) : ild (E g q) 205 (nI k) = some (.int (g 205 k)) := ldA rfl (by decide) h (by decide)
theorem sd_205 (h : k < 420) : ist (E g q) 205 (nI k) x = some (E (up2 g 205 k x) q) := stA rfl (by decide) h (by decide)
theorem ln_205 : aln (E g q) 205 = some 420 := alA rfl (by decide)
theorem ld_206 (h : k < 13) : ild (E g q) 206 (nI k) = some (.int (g 206 k)) := ldA rfl (by decide) h (by decide)
theorem sd_206 (h : k < 13) : ist (E g q) 206 (nI k) x = some (E (up2 g 206 k x) q) := stA rfl (by decide) h (by decide)
theorem ln_206 : aln (E g q) 206 = some 13 := alA rfl (by decide)
theorem ld_207 (h : k < 16) : ild (E g q) 207 (nI k) = some (.int (g 207 k)) := ldA rfl (by decide) h (by decide)
theorem sd_207 (h : k < 16) : ist (E g q) 207 (nI k) x = some (E (up2 g 207 k x) q) := stA rfl (by decide) h (by decide)
theorem ln_207 : aln (E g q) 207 = some 16 := alA rfl (by decide)
theorem ld_208 (h : k < 16) : ild (E g q) 208 (nI k) = some (.int (g 208 k)) := ldA rfl (by decide) h (by decide)
theorem sd_208 (h : k < 16) : ist (E g q) 208 (nI k) x = some (E (up2 g 208 k x) q) := stA rfl (by decide) h (by decide)
theorem ln_208 : aln (E g q) 208 = some 16 := alA rfl (by decide)
theorem ld_209 (h : k < 3) : ild (E g q) 209 (nI k) = some (.int (g 209 k)) := ldA rfl (by decide) h (by decide)
theorem sd_209 (h : k < 3) : ist (E g q) 209 (nI k) x = some (E (up2 g 209 k x) q) := stA rfl (by decide) h (by decide)
theorem ln_209 : aln (E g q) 209 = some 3 := alA rfl (by decide)
theorem ld_210 (h : k < 64320) : ild (E g q) 210 (nI k) = some (.int (g 210 k)) := ldA rfl (by decide) h (by decide)
theorem sd_210 (h : k < 64320) : ist (E g q) 210 (nI k) x = some (E (up2 g 210 k x) q) := stA rfl (by decide) h (by decide)
theorem ln_210 : aln (E g q) 210 = some 64320 := alA rfl (by decide)
theorem ld_211 (h : k < 16) : ild (E g q) 211 (nI k) = some (.int (g 211 k)) := ldA rfl (by decide) h (by decide)
theorem sd_211 (h : k < 16) : ist (E g q) 211 (nI k) x = some (E (up2 g 211 k x) q) := stA rfl (by decide) h (by decide)
theorem ln_211 : aln (E g q) 211 = some 16 := alA rfl (by decide)
theorem ld_212 (h : k < 16) : ild (E g q) 212 (nI k) = some (.int (g 212 k)) := ldA rfl (by decide) h (by decide)
theorem sd_212 (h : k < 16) : ist (E g q) 212 (nI k) x = some (E (up2 g 212 k x) q) := stA rfl (by decide) h (by decide)
theorem ln_212 : aln (E g q) 212 = some 16 := alA rfl (by decide)
theorem ld_213 (h : k < 48) : ild (E g q) 213 (nI k) = some (.int (g 213 k)) := ldA rfl (by decide) h (by decide)
theorem sd_213 (h : k < 48) : ist (E g q) 213 (nI k) x = some (E (up2 g 213 k x) q) := stA rfl (by decide) h (by decide)
theorem ln_213 : aln (E g q) 213 = some 48 := alA rfl (by decide)
theorem ld_214 (h : k < 16) : ild (E g q) 214 (nI k) = some (.int (g 214 k)) := ldA rfl (by decide) h (by decide)
theorem sd_214 (h : k < 16) : ist (E g q) 214 (nI k) x = some (E (up2 g 214 k x) q) := stA rfl (by decide) h (by decide)
theorem ln_214 : aln (E g q) 214 = some 16 := alA rfl (by decide)
theorem ld_215 (h : k < 16) : ild (E g q) 215 (nI k) = some (.int (g 215 k)) := ldA rfl (by decide) h (by decide)
theorem sd_215 (h : k < 16) : ist (E g q) 215 (nI k) x = some (E (up2 g 215 k x) q) := stA rfl (by decide) h (by decide)
theorem ln_215 : aln (E g q) 215 = some 16 := alA rfl (by decide)
theorem ld_216 (h : k < 16) : ild (E g q) 216 (nI k) = some (.int (g 216 k)) := ldA rfl (by decide) h (by decide)
theorem sd_216 (h : k < 16) : ist (E g q) 216 (nI k) x = some (E (up2 g 216 k x) q) := stA rfl (by decide) h (by decide)
theorem ln_216 : aln (E g q) 216 = some 16 := alA rfl (by decide)
theorem ld_217 (h : k < 16) : ild (E g q) 217 (nI k) = some (.int (g 217 k)) := ldA rfl (by decide) h (by decide)
theorem sd_217 (h : k < 16) : ist (E g q) 217 (nI k) x = some (E (up2 g 217 k x) q) := stA rfl (by decide) h (by decide)
theorem ln_217 : aln (E g q) 217 = some 16 := alA rfl (by decide)
theorem ld_218 (h : k < 3) : ild (E g q) 218 (nI k) = some (.int (g 218 k)) := ldA rfl (by decide) h (by decide)
theorem sd_218 (h : k < 3) : ist (E g q) 218 (nI k) x = some (E (up2 g 218 k x) q) := stA rfl (by decide) h (by decide)
theorem ln_218 : aln (E g q) 218 = some 3 := alA rfl (by decide)
theorem ld_219 (h : k < 3) : ild (E g q) 219 (nI k) = some (.int (g 219 k)) := ldA rfl (by decide) h (by decide)
theorem sd_219 (h : k < 3) : ist (E g q) 219 (nI k) x = some (E (up2 g 219 k x) q) := stA rfl (by decide) h (by decide)
theorem ln_219 : aln (E g q) 219 = some 3 := alA rfl (by decide)
end XC
