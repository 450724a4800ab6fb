/-! more of the class's plain calls -/
theorem i_m8 : Int32.ofInt (-8) = -8 := rfl
/-- which arm is due, as the class chooses -/
theorem dueC {x y z : Int32} : (if x < y then (if y < z then 2 else 1) else if x < z then (if y < z then 2 else 1) else 0) = (if y ≤ x then (if z ≤ x then 0 else 2) else (if z ≤ y then 1 else 2)) := by
  simp only [ltE, leE]
  by_cases h1 : x.toInt < y.toInt
  · rw [if_pos h1, if_neg (show ¬ y.toInt ≤ x.toInt by omega)]
    by_cases h2 : y.toInt < z.toInt
    · rw [if_pos h2, if_neg (by omega)]
    · rw [if_neg h2, if_pos (by omega)]
  · rw [if_neg h1, if_pos (show y.toInt ≤ x.toInt by omega)]
    by_cases h2 : x.toInt < z.toInt
    · rw [if_pos h2, if_pos (show y.toInt < z.toInt by omega), if_neg (by omega)]
    · rw [if_neg h2, if_pos (by omega)]
/-- a byte of an int -/
def byt (x : Int32) (s : Nat) : Nat := (x.toBitVec >>> s).toNat % 256
theorem byt_l (x : Int32) (s : Nat) : byt x s < 256 := Nat.mod_lt _ (by decide)
theorem and255 (v : BitVec 32) : v &&& 255#32 = BitVec.ofNat 32 (v.toNat % 256) := by
  refine BitVec.eq_of_toNat_eq ?_
  rw [BitVec.toNat_and, BitVec.toNat_ofNat, BitVec.toNat_ofNat, show 255 % 2 ^ 32 = 2 ^ 8 - 1 from rfl, Nat.and_two_pow_sub_one_eq_mod]
  have := v.isLt
  omega
theorem by_s {x : Int32} {s : Nat} (hs : s ≤ 24) : x >>> (nI s &&& 31) &&& nI 255 = nI (byt x s) := by
  refine Int32.toBitVec_inj.mp ?_
  rw [sh_31 (by omega)]
  show (x >>> nI s).toBitVec &&& (nI 255).toBitVec = (nI (byt x s)).toBitVec
  have e1 : (x >>> nI s).toBitVec = x.toBitVec.sshiftRight s := by
    show x.toBitVec.sshiftRight ((nI s).toBitVec.smod 32).toNat = _
    rw [nI_sm (by omega)]
  rw [e1, nI_bv, nI_bv]
  show x.toBitVec.sshiftRight s &&& 255#32 = _
  have e2 : x.toBitVec.sshiftRight s &&& 255#32 = (x.toBitVec >>> s) &&& 255#32 := by
    refine BitVec.eq_of_getLsbD_eq fun i hi => ?_
    rw [BitVec.getLsbD_and, BitVec.getLsbD_and]
    by_cases h8 : i < 8
    · have h1 : (x.toBitVec.sshiftRight s).getLsbD i = (x.toBitVec >>> s).getLsbD i := by
        rw [BitVec.getLsbD_sshiftRight, BitVec.getLsbD_ushiftRight]
        have h2 : s + i < 32 := by omega
        have h3 : ¬ 32 ≤ i := by omega
        simp only [h2, h3, decide_false, Bool.not_false, Bool.true_and, ↓reduceIte]
      rw [h1]
    · have h1 : (255#32).getLsbD i = false := by
        show (255 % 2 ^ 32).testBit i = false
        refine Nat.testBit_lt_two_pow (Nat.lt_of_lt_of_le (show 255 % 2 ^ 32 < 2 ^ 8 by decide) (Nat.pow_le_pow_right (by decide) (by omega)))
      rw [h1, Bool.and_false, Bool.and_false]
  rw [e2, and255]
  rfl
theorem by_u {x : Int32} {s : Nat} (hs : s ≤ 24) : (x.toUInt32 >>> ((nI s).toUInt32 &&& Int32.toUInt32 31)).toInt32 &&& nI 255 = nI (byt x s) := by
  refine Int32.toBitVec_inj.mp ?_
  have e1 : (x.toUInt32 >>> ((nI s).toUInt32 &&& Int32.toUInt32 31)).toInt32.toBitVec = x.toBitVec >>> s := by
    show (x.toUInt32 >>> ((nI s).toUInt32 &&& Int32.toUInt32 31)).toBitVec = _
    have : ((nI s).toUInt32 &&& Int32.toUInt32 31) = (nI s).toUInt32 := by
      have := sh_31 (k := s) (by omega)
      exact congrArg Int32.toUInt32 this
    rw [this]
    show x.toBitVec >>> ((nI s).toBitVec % 32) = x.toBitVec >>> s
    have e : ((nI s).toBitVec % 32).toNat = s := by
      rw [BitVec.toNat_umod, nI_bv, BitVec.toNat_ofNat]
      show s % 2 ^ 32 % (32 % 2 ^ 32) = s
      rw [Nat.mod_eq_of_lt (show s < 2 ^ 32 by omega)]
      exact Nat.mod_eq_of_lt (by omega)
    rw [BitVec.ushiftRight_eq', e]
  show (x.toUInt32 >>> ((nI s).toUInt32 &&& Int32.toUInt32 31)).toInt32.toBitVec &&& (nI 255).toBitVec = _
  rw [e1, nI_bv]
  show x.toBitVec >>> s &&& 255#32 = _
  rw [and255]
  rfl
section CB
variable {d : Nat} {g : Nat → Nat → Int32} {q : Nat → Nat → Int64} {P : QT} {w : Nat → Int32} {V M : LW} {pl : PL} {im : IM} {R : RD}
theorem ar_lp {A B C n E' : Nat} (hE : E' < 99) (H : P (some (.int (nI (rwV A B C n E')))) (E g q)) : ∀ (j D : Nat) (v : Int32) (o1 o2 o3 : Option Value), D + j = E' + 1 → (0 < D → v = nI (rwV A B C n (D - 1))) →
    wp (ev d) P co_armOfRow 22 [some (.ref 184), some (.int (nI A)), some (.int (nI B)), some (.int (nI C)), some (.int (nI E')), some (.int (nI n)), some (.int (nI (rwS A B C n D).1)), some (.int (nI (rwS A B C n D).2.1)), some (.int (nI (rwS A B C n D).2.2)), some (.int v), some (.int (nI D)), o1, o2, o3] [] (E g q) := by
  intro j
  induction j with
  | zero =>
    intro D v o1 o2 o3 hD hv
    have hD : D = E' + 1 := hD
    subst hD
    have hv := hv (by omega)
    rw [Nat.add_sub_cancel] at hv
    have hl : E' < E' + 1 := Nat.lt_succ_self _
    rw [b_co_armOfRow_22]
    simp -implicitDefEqProofs (disch := first | assumption | omega) only [szS_0, szS_i, szS_r, szS_l, x_cons, x_goto, ob_some, kl_i, kl_r, kl_l, kl_n, push_n, push_s, pop_0, pop_i, pop_r, Int.reduceToNat, List.length_cons, List.length_nil, Nat.reduceAdd, Nat.reduceLeDiff, Nat.zero_add, true_and, nI_n0, nat_le, Nat.add_zero, i_1, rt_co_armOfRow, x_goto, x_iadd, x_icgt, x_iclt, x_icne, x_ifne, x_il1, x_il10, x_il11, x_il12, x_il13, x_il2, x_il3, x_il4, x_il5, x_il6, x_il7, x_il8, x_il9, x_imul, x_inc10, x_iret, x_is10, x_is11, x_is12, x_is13, x_is5, x_is6, x_is7, x_is8, x_is9, x_isub, x_ldc, x_m1, nI_ltE, hl, ↓reduceIte, b_co_armOfRow_156, hv]
    exact H
  | succ j ih =>
    intro D v o1 o2 o3 hD hv
    have hl : ¬ E' < D := by omega
    have hS : rwS A B C n (D + 1) = if rwV A B C n D = 0 then ((rwS A B C n D).1 + 1, (rwS A B C n D).2.1, (rwS A B C n D).2.2) else if rwV A B C n D = 1 then ((rwS A B C n D).1, (rwS A B C n D).2.1 + 1, (rwS A B C n D).2.2) else ((rwS A B C n D).1, (rwS A B C n D).2.1, (rwS A B C n D).2.2 + 1) := rfl
    have hV : rwV A B C n D = dueA (duF A B C n (rwS A B C n D).1 (rwS A B C n D).2.1 (rwS A B C n D).2.2 D) := rfl
    have n10 : (nI 1 = nI 0) = False := eq_false (by decide)
    have n20 : (nI 2 = nI 0) = False := eq_false (by decide)
    have n01 : (nI 0 = nI 1) = False := eq_false (by decide)
    have n21 : (nI 2 = nI 1) = False := eq_false (by decide)
    have n02 : (nI 0 = nI 2) = False := eq_false (by decide)
    have n12 : (nI 1 = nI 2) = False := eq_false (by decide)
    have hi := fun v o1 o2 o3 => ih (D + 1) v o1 o2 o3 (by omega)
    obtain ⟨x, hx⟩ : ∃ x, x = nI (A * (D + 1)) - nI (n * (rwS A B C n D).1) := ⟨_, rfl⟩
    obtain ⟨y, hy⟩ : ∃ y, y = nI (B * (D + 1)) - nI (n * (rwS A B C n D).2.1) := ⟨_, rfl⟩
    obtain ⟨z, hz⟩ : ∃ z, z = nI (C * (D + 1)) - nI (n * (rwS A B C n D).2.2) := ⟨_, rfl⟩
    have hd : rwV A B C n D = if y ≤ x then (if z ≤ x then 0 else 2) else (if z ≤ y then 1 else 2) := by rw [hV, hx, hy, hz]; rfl
    rw [← dueC] at hd
    rw [hS] at hi
    have a0 : rwV A B C n D = 0 → wp (ev d) P co_armOfRow 101 [some (.ref 184), some (.int (nI A)), some (.int (nI B)), some (.int (nI C)), some (.int (nI E')), some (.int (nI n)), some (.int (nI (rwS A B C n D).1)), some (.int (nI (rwS A B C n D).2.1)), some (.int (nI (rwS A B C n D).2.2)), some (.int v), some (.int (nI D)), some (.int x), some (.int y), some (.int z)] [.int (nI 0)] (E g q) := by
      intro h
      rw [if_pos h] at hi
      have hh := hi (nI 0) (some (.int x)) (some (.int y)) (some (.int z)) fun _ => by rw [Nat.add_sub_cancel, h]
      rw [b_co_armOfRow_101]
      simp -implicitDefEqProofs (disch := first | assumption | omega) only [szS_0, szS_i, szS_r, szS_l, x_cons, x_goto, ob_some, kl_i, kl_r, kl_l, kl_n, push_n, push_s, pop_0, pop_i, pop_r, Int.reduceToNat, List.length_cons, List.length_nil, Nat.reduceAdd, Nat.reduceLeDiff, Nat.zero_add, true_and, nI_n0, nat_le, Nat.add_zero, i_1, rt_co_armOfRow, x_goto, x_iadd, x_icgt, x_iclt, x_icne, x_ifne, x_il1, x_il10, x_il11, x_il12, x_il13, x_il2, x_il3, x_il4, x_il5, x_il6, x_il7, x_il8, x_il9, x_imul, x_inc10, x_iret, x_is10, x_is11, x_is12, x_is13, x_is5, x_is6, x_is7, x_is8, x_is9, x_isub, x_ldc, x_m1, ↓reduceIte, n01, n02, b_co_armOfRow_115, b_co_armOfRow_130, b_co_armOfRow_131, b_co_armOfRow_146, b_co_armOfRow_147, nI_add]
      exact hh
    have a1 : rwV A B C n D = 1 → wp (ev d) P co_armOfRow 101 [some (.ref 184), some (.int (nI A)), some (.int (nI B)), some (.int (nI C)), some (.int (nI E')), some (.int (nI n)), some (.int (nI (rwS A B C n D).1)), some (.int (nI (rwS A B C n D).2.1)), some (.int (nI (rwS A B C n D).2.2)), some (.int v), some (.int (nI D)), some (.int x), some (.int y), some (.int z)] [.int (nI 1)] (E g q) := by
      intro h
      rw [if_neg (by omega), if_pos h] at hi
      have hh := hi (nI 1) (some (.int x)) (some (.int y)) (some (.int z)) fun _ => by rw [Nat.add_sub_cancel, h]
      rw [b_co_armOfRow_101]
      simp -implicitDefEqProofs (disch := first | assumption | omega) only [szS_0, szS_i, szS_r, szS_l, x_cons, x_goto, ob_some, kl_i, kl_r, kl_l, kl_n, push_n, push_s, pop_0, pop_i, pop_r, Int.reduceToNat, List.length_cons, List.length_nil, Nat.reduceAdd, Nat.reduceLeDiff, Nat.zero_add, true_and, nI_n0, nat_le, Nat.add_zero, i_1, rt_co_armOfRow, x_goto, x_iadd, x_icgt, x_iclt, x_icne, x_ifne, x_il1, x_il10, x_il11, x_il12, x_il13, x_il2, x_il3, x_il4, x_il5, x_il6, x_il7, x_il8, x_il9, x_imul, x_inc10, x_iret, x_is10, x_is11, x_is12, x_is13, x_is5, x_is6, x_is7, x_is8, x_is9, x_isub, x_ldc, x_m1, ↓reduceIte, n10, n12, b_co_armOfRow_114, b_co_armOfRow_115, b_co_armOfRow_130, b_co_armOfRow_131, b_co_armOfRow_146, b_co_armOfRow_147, nI_add]
      exact hh
    have a2 : rwV A B C n D = 2 → wp (ev d) P co_armOfRow 101 [some (.ref 184), some (.int (nI A)), some (.int (nI B)), some (.int (nI C)), some (.int (nI E')), some (.int (nI n)), some (.int (nI (rwS A B C n D).1)), some (.int (nI (rwS A B C n D).2.1)), some (.int (nI (rwS A B C n D).2.2)), some (.int v), some (.int (nI D)), some (.int x), some (.int y), some (.int z)] [.int (nI 2)] (E g q) := by
      intro h
      rw [if_neg (by omega), if_neg (by omega)] at hi
      have hh := hi (nI 2) (some (.int x)) (some (.int y)) (some (.int z)) fun _ => by rw [Nat.add_sub_cancel, h]
      rw [b_co_armOfRow_101]
      simp -implicitDefEqProofs (disch := first | assumption | omega) only [szS_0, szS_i, szS_r, szS_l, x_cons, x_goto, ob_some, kl_i, kl_r, kl_l, kl_n, push_n, push_s, pop_0, pop_i, pop_r, Int.reduceToNat, List.length_cons, List.length_nil, Nat.reduceAdd, Nat.reduceLeDiff, Nat.zero_add, true_and, nI_n0, nat_le, Nat.add_zero, i_1, rt_co_armOfRow, x_goto, x_iadd, x_icgt, x_iclt, x_icne, x_ifne, x_il1, x_il10, x_il11, x_il12, x_il13, x_il2, x_il3, x_il4, x_il5, x_il6, x_il7, x_il8, x_il9, x_imul, x_inc10, x_iret, x_is10, x_is11, x_is12, x_is13, x_is5, x_is6, x_is7, x_is8, x_is9, x_isub, x_ldc, x_m1, ↓reduceIte, n20, n21, b_co_armOfRow_114, b_co_armOfRow_115, b_co_armOfRow_130, b_co_armOfRow_131, b_co_armOfRow_146, b_co_armOfRow_147, nI_add]
      exact hh
    rw [b_co_armOfRow_22]
    simp -implicitDefEqProofs (disch := first | assumption | omega) only [szS_0, szS_i, szS_r, szS_l, x_cons, x_goto, ob_some, kl_i, kl_r, kl_l, kl_n, push_n, push_s, pop_0, pop_i, pop_r, Int.reduceToNat, List.length_cons, List.length_nil, Nat.reduceAdd, Nat.reduceLeDiff, Nat.zero_add, true_and, nI_n0, nat_le, Nat.add_zero, i_1, rt_co_armOfRow, x_goto, x_iadd, x_icgt, x_iclt, x_icne, x_ifne, x_il1, x_il10, x_il11, x_il12, x_il13, x_il2, x_il3, x_il4, x_il5, x_il6, x_il7, x_il8, x_il9, x_imul, x_inc10, x_iret, x_is10, x_is11, x_is12, x_is13, x_is5, x_is6, x_is7, x_is8, x_is9, x_isub, x_ldc, x_m1, nI_ltE, hl, ↓reduceIte, nI_add, nI_mul, ← hx, ← hy, ← hz]
    by_cases c1 : x < y
    · rw [if_pos c1] at hd
      simp only [c1, ↓reduceIte]
      by_cases c2 : y < z
      · rw [if_pos c2] at hd
        simp -implicitDefEqProofs (disch := first | assumption | omega) only [b_co_armOfRow_89, b_co_armOfRow_100, szS_0, szS_i, szS_r, szS_l, x_cons, x_goto, ob_some, kl_i, kl_r, kl_l, kl_n, push_n, push_s, pop_0, pop_i, pop_r, Int.reduceToNat, List.length_cons, List.length_nil, Nat.reduceAdd, Nat.reduceLeDiff, Nat.zero_add, true_and, nI_n0, nat_le, Nat.add_zero, i_1, rt_co_armOfRow, x_goto, x_iadd, x_icgt, x_iclt, x_icne, x_ifne, x_il1, x_il10, x_il11, x_il12, x_il13, x_il2, x_il3, x_il4, x_il5, x_il6, x_il7, x_il8, x_il9, x_imul, x_inc10, x_iret, x_is10, x_is11, x_is12, x_is13, x_is5, x_is6, x_is7, x_is8, x_is9, x_isub, x_ldc, x_m1, c2, ↓reduceIte]
        exact a2 hd
      · rw [if_neg c2] at hd
        simp -implicitDefEqProofs (disch := first | assumption | omega) only [b_co_armOfRow_89, b_co_armOfRow_100, szS_0, szS_i, szS_r, szS_l, x_cons, x_goto, ob_some, kl_i, kl_r, kl_l, kl_n, push_n, push_s, pop_0, pop_i, pop_r, Int.reduceToNat, List.length_cons, List.length_nil, Nat.reduceAdd, Nat.reduceLeDiff, Nat.zero_add, true_and, nI_n0, nat_le, Nat.add_zero, i_1, rt_co_armOfRow, x_goto, x_iadd, x_icgt, x_iclt, x_icne, x_ifne, x_il1, x_il10, x_il11, x_il12, x_il13, x_il2, x_il3, x_il4, x_il5, x_il6, x_il7, x_il8, x_il9, x_imul, x_inc10, x_iret, x_is10, x_is11, x_is12, x_is13, x_is5, x_is6, x_is7, x_is8, x_is9, x_isub, x_ldc, x_m1, c2, ↓reduceIte]
        exact a1 hd
    · rw [if_neg c1] at hd
      simp only [c1, ↓reduceIte]
      by_cases c3 : x < z
      · rw [if_pos c3] at hd
        simp only [c3, ↓reduceIte]
        by_cases c2 : y < z
        · rw [if_pos c2] at hd
          simp -implicitDefEqProofs (disch := first | assumption | omega) only [b_co_armOfRow_89, b_co_armOfRow_100, szS_0, szS_i, szS_r, szS_l, x_cons, x_goto, ob_some, kl_i, kl_r, kl_l, kl_n, push_n, push_s, pop_0, pop_i, pop_r, Int.reduceToNat, List.length_cons, List.length_nil, Nat.reduceAdd, Nat.reduceLeDiff, Nat.zero_add, true_and, nI_n0, nat_le, Nat.add_zero, i_1, rt_co_armOfRow, x_goto, x_iadd, x_icgt, x_iclt, x_icne, x_ifne, x_il1, x_il10, x_il11, x_il12, x_il13, x_il2, x_il3, x_il4, x_il5, x_il6, x_il7, x_il8, x_il9, x_imul, x_inc10, x_iret, x_is10, x_is11, x_is12, x_is13, x_is5, x_is6, x_is7, x_is8, x_is9, x_isub, x_ldc, x_m1, c2, c3, ↓reduceIte]
          exact a2 hd
        · rw [if_neg c2] at hd
          simp -implicitDefEqProofs (disch := first | assumption | omega) only [b_co_armOfRow_89, b_co_armOfRow_100, szS_0, szS_i, szS_r, szS_l, x_cons, x_goto, ob_some, kl_i, kl_r, kl_l, kl_n, push_n, push_s, pop_0, pop_i, pop_r, Int.reduceToNat, List.length_cons, List.length_nil, Nat.reduceAdd, Nat.reduceLeDiff, Nat.zero_add, true_and, nI_n0, nat_le, Nat.add_zero, i_1, rt_co_armOfRow, x_goto, x_iadd, x_icgt, x_iclt, x_icne, x_ifne, x_il1, x_il10, x_il11, x_il12, x_il13, x_il2, x_il3, x_il4, x_il5, x_il6, x_il7, x_il8, x_il9, x_imul, x_inc10, x_iret, x_is10, x_is11, x_is12, x_is13, x_is5, x_is6, x_is7, x_is8, x_is9, x_isub, x_ldc, x_m1, c2, c3, ↓reduceIte]
          exact a1 hd
      · rw [if_neg c3] at hd
        simp only [c3, ↓reduceIte]
        try simp -implicitDefEqProofs (disch := first | assumption | omega) only [szS_0, szS_i, szS_r, szS_l, x_cons, x_goto, ob_some, kl_i, kl_r, kl_l, kl_n, push_n, push_s, pop_0, pop_i, pop_r, Int.reduceToNat, List.length_cons, List.length_nil, Nat.reduceAdd, Nat.reduceLeDiff, Nat.zero_add, true_and, nI_n0, nat_le, Nat.add_zero, i_1, rt_co_armOfRow, x_goto, x_iadd, x_icgt, x_iclt, x_icne, x_ifne, x_il1, x_il10, x_il11, x_il12, x_il13, x_il2, x_il3, x_il4, x_il5, x_il6, x_il7, x_il8, x_il9, x_imul, x_inc10, x_iret, x_is10, x_is11, x_is12, x_is13, x_is5, x_is6, x_is7, x_is8, x_is9, x_isub, x_ldc, x_m1, c3, ↓reduceIte]
        exact a0 hd
theorem s_vrows {a b c e : Int32} (H : P (some (.int (rwA a b c e))) (E g q)) : callC (ev (d + 2)) vr_rows [.ref 0, .int a, .int b, .int c, .int e] (E g q) P := by
  refine in_vr_rows rfl ?_
  have no1 : rwB a b c e = false → wp (ev (d + 1)) P vr_rows 30 [some (.ref 0), some (.int a), some (.int b), some (.int c), some (.int e), none] [] (E g q) := by
    intro h
    unfold rwA at H
    rw [h, if_neg Bool.false_ne_true] at H
    rw [b_vr_rows_30]
    simp -implicitDefEqProofs (disch := first | assumption | omega) only [szS_0, szS_i, szS_r, szS_l, x_cons, x_goto, ob_some, kl_i, kl_r, kl_l, kl_n, push_n, push_s, pop_0, pop_i, pop_r, Int.reduceToNat, List.length_cons, List.length_nil, Nat.reduceAdd, Nat.reduceLeDiff, Nat.zero_add, true_and, nI_n0, nat_le, Nat.add_zero, rt_vr_rows, x_al0, x_call, x_getf, x_iadd, x_icgt, x_iclt, x_ifeq, x_iflt, x_ifne, x_il1, x_il2, x_il3, x_il4, x_il5, x_iret, x_is5, x_ldc, x_m1]
    exact H
  have no2 : ∀ o, rwB a b c e = false → wp (ev (d + 1)) P vr_rows 58 [some (.ref 0), some (.int a), some (.int b), some (.int c), some (.int e), o] [] (E g q) := by
    intro o h
    unfold rwA at H
    rw [h, if_neg Bool.false_ne_true] at H
    rw [b_vr_rows_58]
    simp -implicitDefEqProofs (disch := first | assumption | omega) only [szS_0, szS_i, szS_r, szS_l, x_cons, x_goto, ob_some, kl_i, kl_r, kl_l, kl_n, push_n, push_s, pop_0, pop_i, pop_r, Int.reduceToNat, List.length_cons, List.length_nil, Nat.reduceAdd, Nat.reduceLeDiff, Nat.zero_add, true_and, nI_n0, nat_le, Nat.add_zero, rt_vr_rows, x_al0, x_call, x_getf, x_iadd, x_icgt, x_iclt, x_ifeq, x_iflt, x_ifne, x_il1, x_il2, x_il3, x_il4, x_il5, x_iret, x_is5, x_ldc, x_m1]
    exact H
  rw [b_vr_rows_0]
  simp -implicitDefEqProofs (disch := first | assumption | omega) only [szS_0, szS_i, szS_r, szS_l, x_cons, x_goto, ob_some, kl_i, kl_r, kl_l, kl_n, push_n, push_s, pop_0, pop_i, pop_r, Int.reduceToNat, List.length_cons, List.length_nil, Nat.reduceAdd, Nat.reduceLeDiff, Nat.zero_add, true_and, nI_n0, nat_le, Nat.add_zero, rt_vr_rows, x_al0, x_call, x_getf, x_iadd, x_icgt, x_iclt, x_ifeq, x_iflt, x_ifne, x_il1, x_il2, x_il3, x_il4, x_il5, x_iret, x_is5, x_ldc, x_m1, s_within, bI_0]
  by_cases h1 : nI 0 ≤ a ∧ a ≤ nI 99
  · obtain ⟨A, hA, rfl⟩ := int_is h1 (by decide)
    simp only [decide_eq_true h1, Bool.true_eq_false, ↓reduceIte]
    try simp -implicitDefEqProofs (disch := first | assumption | omega) only [szS_0, szS_i, szS_r, szS_l, x_cons, x_goto, ob_some, kl_i, kl_r, kl_l, kl_n, push_n, push_s, pop_0, pop_i, pop_r, Int.reduceToNat, List.length_cons, List.length_nil, Nat.reduceAdd, Nat.reduceLeDiff, Nat.zero_add, true_and, nI_n0, nat_le, Nat.add_zero, rt_vr_rows, x_al0, x_call, x_getf, x_iadd, x_icgt, x_iclt, x_ifeq, x_iflt, x_ifne, x_il1, x_il2, x_il3, x_il4, x_il5, x_iret, x_is5, x_ldc, x_m1, s_within, bI_0]
    by_cases h2 : nI 0 ≤ b ∧ b ≤ nI 99
    · obtain ⟨B, hB, rfl⟩ := int_is h2 (by decide)
      simp only [decide_eq_true h2, Bool.true_eq_false, ↓reduceIte]
      try simp -implicitDefEqProofs (disch := first | assumption | omega) only [szS_0, szS_i, szS_r, szS_l, x_cons, x_goto, ob_some, kl_i, kl_r, kl_l, kl_n, push_n, push_s, pop_0, pop_i, pop_r, Int.reduceToNat, List.length_cons, List.length_nil, Nat.reduceAdd, Nat.reduceLeDiff, Nat.zero_add, true_and, nI_n0, nat_le, Nat.add_zero, rt_vr_rows, x_al0, x_call, x_getf, x_iadd, x_icgt, x_iclt, x_ifeq, x_iflt, x_ifne, x_il1, x_il2, x_il3, x_il4, x_il5, x_iret, x_is5, x_ldc, x_m1, s_within, bI_0]
      by_cases h3 : nI 0 ≤ c ∧ c ≤ nI 99
      · obtain ⟨C, hC, rfl⟩ := int_is h3 (by decide)
        simp only [decide_eq_true h3, Bool.true_eq_false, ↓reduceIte]
        have eB : rwB (nI A) (nI B) (nI C) e = (decide (1 ≤ A + B + C ∧ A + B + C ≤ 99) && decide (nI 0 ≤ e ∧ e ≤ nI (A + B + C) - nI 1)) := by
          unfold rwB
          rw [decide_eq_true h1, decide_eq_true h2, decide_eq_true h3, Bool.true_and, Bool.true_and, Bool.true_and, nI_add, nI_add]
          congr 1
          refine decide_eq_decide.mpr ?_
          rw [nI_leE (by decide) (by omega), nI_leE (by omega) (by decide)]
        rw [b_vr_rows_32]
        simp -implicitDefEqProofs (disch := first | assumption | omega) only [szS_0, szS_i, szS_r, szS_l, x_cons, x_goto, ob_some, kl_i, kl_r, kl_l, kl_n, push_n, push_s, pop_0, pop_i, pop_r, Int.reduceToNat, List.length_cons, List.length_nil, Nat.reduceAdd, Nat.reduceLeDiff, Nat.zero_add, true_and, nI_n0, nat_le, Nat.add_zero, rt_vr_rows, x_al0, x_call, x_getf, x_iadd, x_icgt, x_iclt, x_ifeq, x_iflt, x_ifne, x_il1, x_il2, x_il3, x_il4, x_il5, x_iret, x_is5, x_ldc, x_m1, nI_add, nI_ltE]
        by_cases h4 : 99 < A + B + C
        · rw [if_pos h4]
          exact no2 _ (by rw [eB, decide_eq_false (by omega), Bool.false_and])
        · rw [if_neg h4]
          try simp -implicitDefEqProofs (disch := first | assumption | omega) only [szS_0, szS_i, szS_r, szS_l, x_cons, x_goto, ob_some, kl_i, kl_r, kl_l, kl_n, push_n, push_s, pop_0, pop_i, pop_r, Int.reduceToNat, List.length_cons, List.length_nil, Nat.reduceAdd, Nat.reduceLeDiff, Nat.zero_add, true_and, nI_n0, nat_le, Nat.add_zero, rt_vr_rows, x_al0, x_call, x_getf, x_iadd, x_icgt, x_iclt, x_ifeq, x_iflt, x_ifne, x_il1, x_il2, x_il3, x_il4, x_il5, x_iret, x_is5, x_ldc, x_m1]
          by_cases h5 : e < nI 0
          · rw [if_pos h5]
            exact no2 _ (by rw [eB, decide_eq_false (p := nI 0 ≤ e ∧ _) (fun h => by
              rw [← lt_le] at h
              exact h.1 h5), Bool.and_false])
          · rw [if_neg h5]
            try simp -implicitDefEqProofs (disch := first | assumption | omega) only [szS_0, szS_i, szS_r, szS_l, x_cons, x_goto, ob_some, kl_i, kl_r, kl_l, kl_n, push_n, push_s, pop_0, pop_i, pop_r, Int.reduceToNat, List.length_cons, List.length_nil, Nat.reduceAdd, Nat.reduceLeDiff, Nat.zero_add, true_and, nI_n0, nat_le, Nat.add_zero, rt_vr_rows, x_al0, x_call, x_getf, x_iadd, x_icgt, x_iclt, x_ifeq, x_iflt, x_ifne, x_il1, x_il2, x_il3, x_il4, x_il5, x_iret, x_is5, x_ldc, x_m1]
            by_cases h6 : e < nI (A + B + C)
            · rw [if_pos h6]
              rw [lt_le] at h5
              obtain ⟨e', he, rfl⟩ := nI_is h5 h6 (by omega)
              have eT : rwB (nI A) (nI B) (nI C) (nI e') = true := by
                rw [eB, decide_eq_true (by omega), Bool.true_and]
                exact decide_eq_true ⟨h5, by rw [nI_sub (by omega), nI_leE (by omega) (by omega)]; omega⟩
              unfold rwA at H
              rw [eT, if_pos rfl, ix_nI (by omega), ix_nI (by omega), ix_nI (by omega), ix_nI (by omega)] at H
              rw [b_vr_rows_60]
              simp -implicitDefEqProofs (disch := first | assumption | omega) only [szS_0, szS_i, szS_r, szS_l, x_cons, x_goto, ob_some, kl_i, kl_r, kl_l, kl_n, push_n, push_s, pop_0, pop_i, pop_r, Int.reduceToNat, List.length_cons, List.length_nil, Nat.reduceAdd, Nat.reduceLeDiff, Nat.zero_add, true_and, nI_n0, nat_le, Nat.add_zero, rt_vr_rows, x_al0, x_call, x_getf, x_iadd, x_icgt, x_iclt, x_ifeq, x_iflt, x_ifne, x_il1, x_il2, x_il3, x_il4, x_il5, x_iret, x_is5, x_ldc, x_m1, fd_0_0, fd_0_1, fd_0_2, fd_0_3, fd_0_4, fd_0_5, fd_0_6, fd_0_7, fd_0_8, fd_0_9, sf_0_9]
              refine in_co_armOfRow rfl ?_
              rw [b_co_armOfRow_0]
              simp -implicitDefEqProofs (disch := first | assumption | omega) only [szS_0, szS_i, szS_r, szS_l, x_cons, x_goto, ob_some, kl_i, kl_r, kl_l, kl_n, push_n, push_s, pop_0, pop_i, pop_r, Int.reduceToNat, List.length_cons, List.length_nil, Nat.reduceAdd, Nat.reduceLeDiff, Nat.zero_add, true_and, nI_n0, nat_le, Nat.add_zero, i_1, rt_co_armOfRow, x_goto, x_iadd, x_icgt, x_iclt, x_icne, x_ifne, x_il1, x_il10, x_il11, x_il12, x_il13, x_il2, x_il3, x_il4, x_il5, x_il6, x_il7, x_il8, x_il9, x_imul, x_inc10, x_iret, x_is10, x_is11, x_is12, x_is13, x_is5, x_is6, x_is7, x_is8, x_is9, x_isub, x_ldc, x_m1, nI_add]
              refine ar_lp (A := A) (B := B) (C := C) (n := A + B + C) (E' := e') (by omega) ?_ (e' + 1) 0 (-1) none none none (Nat.zero_add _) fun h => absurd h (Nat.lt_irrefl _)
              simp -implicitDefEqProofs (disch := first | assumption | omega) only [szS_0, szS_i, szS_r, szS_l, x_cons, x_goto, ob_some, kl_i, kl_r, kl_l, kl_n, push_n, push_s, pop_0, pop_i, pop_r, Int.reduceToNat, List.length_cons, List.length_nil, Nat.reduceAdd, Nat.reduceLeDiff, Nat.zero_add, true_and, nI_n0, nat_le, Nat.add_zero, rt_vr_rows, x_al0, x_call, x_getf, x_iadd, x_icgt, x_iclt, x_ifeq, x_iflt, x_ifne, x_il1, x_il2, x_il3, x_il4, x_il5, x_iret, x_is5, x_ldc, x_m1]
              exact H
            · rw [if_neg h6]
              exact no2 _ (by rw [eB, decide_eq_false (p := nI 0 ≤ e ∧ _) (fun h => by
                have h7 := h.2
                rw [leE, nI_sI (by omega) (by decide)] at h7
                rw [ltE, nI_I (by omega)] at h6
                omega), Bool.and_false])
      · simp only [decide_eq_false h3, ↓reduceIte]
        exact no1 (by unfold rwB; rw [decide_eq_false h3, Bool.false_and, Bool.and_false, Bool.and_false])
    · simp only [decide_eq_false h2, ↓reduceIte]
      exact no1 (by unfold rwB; rw [decide_eq_false h2, Bool.false_and, Bool.and_false])
  · simp only [decide_eq_false h1, ↓reduceIte]
    exact no1 (by unfold rwB; rw [decide_eq_false h1, Bool.false_and])
theorem ah_lp (hw : WI w) (hc : Tc 1 w g) (H : P (some (.int (nI (sumH w (nn w))))) (E g q)) : ∀ (j n : Nat), n + j = nn w →
    wp (ev d) P vr_allHeads 4 [some (.ref 0), some (.int (nI (sumH w n))), some (.int (nI n))] [] (E g q) := by
  have h0 := wi_n hw
  have e1 : g 2 0 = nI (nn w) := (tc_n hc).trans h0.1
  intro j
  induction j with
  | zero =>
    intro n hn
    have hn : n = nn w := hn
    rw [hn, b_vr_allHeads_4]
    simp -implicitDefEqProofs (disch := first | assumption | omega) only [szS_0, szS_i, szS_r, szS_l, x_cons, x_goto, ob_some, kl_i, kl_r, kl_l, kl_n, push_n, push_s, pop_0, pop_i, pop_r, Int.reduceToNat, List.length_cons, List.length_nil, Nat.reduceAdd, Nat.reduceLeDiff, Nat.zero_add, true_and, nI_n0, nat_le, Nat.add_zero, i_1, rt_vr_allHeads, x_aaload, x_al0, x_getf, x_goto, x_iadd, x_iaload, x_icge, x_il1, x_il2, x_inc2, x_iret, x_is1, x_is2, x_ldc, fd_0_0, fd_0_1, fd_0_2, fd_0_3, fd_0_4, fd_0_5, fd_0_6, fd_0_7, fd_0_8, fd_0_9, sf_0_9, fd_1_0, fd_1_1, fd_1_2, fd_1_3, fd_1_4, fd_2_0, sf_2_0, fd_2_1, fd_2_2, fd_2_3, fd_2_4, e1, nI_ltE, Nat.lt_irrefl, ↓reduceIte, b_vr_allHeads_41]
    exact H
  | succ j ih =>
    intro n hn
    have hn' : n < nn w := by omega
    have hy := (wi_y hw (n := n) (by omega)).1
    have e2 : g 10 n = nI (fd w n 10) := (tc_t hc (n := n) (by omega)).1.trans hy.1
    have hi := ih (n + 1) (by omega)
    rw [b_vr_allHeads_4]
    simp -implicitDefEqProofs (disch := first | assumption | omega) only [szS_0, szS_i, szS_r, szS_l, x_cons, x_goto, ob_some, kl_i, kl_r, kl_l, kl_n, push_n, push_s, pop_0, pop_i, pop_r, Int.reduceToNat, List.length_cons, List.length_nil, Nat.reduceAdd, Nat.reduceLeDiff, Nat.zero_add, true_and, nI_n0, nat_le, Nat.add_zero, i_1, rt_vr_allHeads, x_aaload, x_al0, x_getf, x_goto, x_iadd, x_iaload, x_icge, x_il1, x_il2, x_inc2, x_iret, x_is1, x_is2, x_ldc, fd_0_0, fd_0_1, fd_0_2, fd_0_3, fd_0_4, fd_0_5, fd_0_6, fd_0_7, fd_0_8, fd_0_9, sf_0_9, fd_1_0, fd_1_1, fd_1_2, fd_1_3, fd_1_4, fd_2_0, sf_2_0, fd_2_1, fd_2_2, fd_2_3, fd_2_4, fd_7_0, sf_7_0, fd_7_1, sf_7_1, fd_7_2, sf_7_2, fd_7_3, sf_7_3, fd_7_4, sf_7_4, fd_7_5, fd_7_6, fd_7_7, fd_7_8, fd_7_9, fd_7_10, ld_9_0, ld_9_1, ld_9_2, ld_9_3, ld_9_4, ld_9_5, ld_9_6, ld_9_7, ld_10, sd_10, ln_10, e1, nI_ltE, hn', ↓reduceIte, e2, nI_add]
    exact hi
theorem hsF_tws (hw : WI w) : ∀ n, n ≤ nn w → hsF w (tws w (nn w)) n = sumH w n
  | 0, _ => rfl
  | n + 1, hn => by
    have h0 := wi_n hw
    unfold hsF sumH
    rw [hsF_tws hw n (by omega)]
    by_cases h : (tws w (nn w)).testBit n = true
    · rw [if_pos h]
    · rw [if_neg h]
      have : fd w n 0 ≠ 1 := fun e => h (tws_t.mpr ⟨by omega, by omega, e⟩)
      rw [(wi_f hw (n := n) (by omega)).2.2.2.2.2.2 (Or.inr this) 10 (by decide) (by decide)]
theorem s_vlook (hK : Kc w V M pl im R g) (hw : WI w) (hV : LK w 0 okV V) (hM : LK w 1 okM M) {k : Int32} (H : P (some (.int (lkA w (nI pl.length) k))) (E g q)) : callC (ev (d + 2)) vr_look [.ref 0, .int k] (E g q) P := by
  refine in_vr_look rfl ?_
  obtain ⟨nx, r1, r2, r3, r4, r5⟩ := hK.2.1
  have hc := hK.1.1
  have hx := hK.1.2.1
  have e0 : g 2 0 = w 0 := tc_n hc
  have e1 : g 7 0 = w 1 := hc.1.2.1
  have e2 : g 7 4 = w 2 := hx.1.1
  have e3 : g 7 2 = w 3 := hc.1.2.2.2.1
  have e4 : g 7 1 = w 4 := hc.1.2.2.1
  have e5 : g 7 3 = w 5 := hx.2.1
  have e6 : g 22 0 = w 1205 := hK.1.2.2.1.1.trans hV.1.1.symm
  have e7 : g 26 0 = w 1206 := hK.1.2.2.2.1.1.trans hM.1.1.symm
  have h9 := hsF_tws hw (nn w) (Nat.le_refl _)
  rw [b_vr_look_0]
  simp -implicitDefEqProofs (disch := first | assumption | omega) only [szS_0, szS_i, szS_r, szS_l, x_cons, x_goto, ob_some, kl_i, kl_r, kl_l, kl_n, push_n, push_s, pop_0, pop_i, pop_r, Int.reduceToNat, List.length_cons, List.length_nil, Nat.reduceAdd, Nat.reduceLeDiff, Nat.zero_add, true_and, nI_n0, nat_le, Nat.add_zero, rt_vr_look, x_al0, x_al2, x_as2, x_call, x_getf, x_goto, x_iaload, x_icge, x_iclt, x_il1, x_iret, x_isub, x_ldc, x_m1, x_tsw, fd_0_0, fd_0_1, fd_0_2, fd_0_3, fd_0_4, fd_0_5, fd_0_6, fd_0_7, fd_0_8, fd_0_9, sf_0_9, fd_1_0, fd_1_1, fd_1_2, fd_1_3, fd_1_4]
  by_cases h1 : nI 0 ≤ k ∧ k ≤ nI 9
  · obtain ⟨k', hk, rfl⟩ := int_is h1 (by decide)
    have : k' = 0 ∨ k' = 1 ∨ k' = 2 ∨ k' = 3 ∨ k' = 4 ∨ k' = 5 ∨ k' = 6 ∨ k' = 7 ∨ k' = 8 ∨ k' = 9 := by omega
    rcases this with rfl | rfl | rfl | rfl | rfl | rfl | rfl | rfl | rfl | rfl
    · show wp (ev (d + 1)) _ vr_look 64 _ _ _
      simp -implicitDefEqProofs (disch := first | assumption | omega) only [szS_0, szS_i, szS_r, szS_l, x_cons, x_goto, ob_some, kl_i, kl_r, kl_l, kl_n, push_n, push_s, pop_0, pop_i, pop_r, Int.reduceToNat, List.length_cons, List.length_nil, Nat.reduceAdd, Nat.reduceLeDiff, Nat.zero_add, true_and, nI_n0, nat_le, Nat.add_zero, rt_vr_look, x_al0, x_al2, x_as2, x_call, x_getf, x_goto, x_iaload, x_icge, x_iclt, x_il1, x_iret, x_isub, x_ldc, x_m1, x_tsw, b_vr_look_0, b_vr_look_64, b_vr_look_75, b_vr_look_80, b_vr_look_85, b_vr_look_90, b_vr_look_95, b_vr_look_100, b_vr_look_111, b_vr_look_122, b_vr_look_130, b_vr_look_135, b_vr_look_159, b_vr_look_160, fd_0_0, fd_0_1, fd_0_2, fd_0_3, fd_0_4, fd_0_5, fd_0_6, fd_0_7, fd_0_8, fd_0_9, sf_0_9, fd_1_0, fd_1_1, fd_1_2, fd_1_3, fd_1_4, fd_2_0, sf_2_0, fd_2_1, fd_2_2, fd_2_3, fd_2_4, e0]
      exact H
    · show wp (ev (d + 1)) _ vr_look 75 _ _ _
      simp -implicitDefEqProofs (disch := first | assumption | omega) only [szS_0, szS_i, szS_r, szS_l, x_cons, x_goto, ob_some, kl_i, kl_r, kl_l, kl_n, push_n, push_s, pop_0, pop_i, pop_r, Int.reduceToNat, List.length_cons, List.length_nil, Nat.reduceAdd, Nat.reduceLeDiff, Nat.zero_add, true_and, nI_n0, nat_le, Nat.add_zero, rt_vr_look, x_al0, x_al2, x_as2, x_call, x_getf, x_goto, x_iaload, x_icge, x_iclt, x_il1, x_iret, x_isub, x_ldc, x_m1, x_tsw, b_vr_look_0, b_vr_look_64, b_vr_look_75, b_vr_look_80, b_vr_look_85, b_vr_look_90, b_vr_look_95, b_vr_look_100, b_vr_look_111, b_vr_look_122, b_vr_look_130, b_vr_look_135, b_vr_look_159, b_vr_look_160, fd_7_0, sf_7_0, fd_7_1, sf_7_1, fd_7_2, sf_7_2, fd_7_3, sf_7_3, fd_7_4, sf_7_4, fd_7_5, fd_7_6, fd_7_7, fd_7_8, fd_7_9, fd_7_10, e1]
      exact H
    · show wp (ev (d + 1)) _ vr_look 80 _ _ _
      simp -implicitDefEqProofs (disch := first | assumption | omega) only [szS_0, szS_i, szS_r, szS_l, x_cons, x_goto, ob_some, kl_i, kl_r, kl_l, kl_n, push_n, push_s, pop_0, pop_i, pop_r, Int.reduceToNat, List.length_cons, List.length_nil, Nat.reduceAdd, Nat.reduceLeDiff, Nat.zero_add, true_and, nI_n0, nat_le, Nat.add_zero, rt_vr_look, x_al0, x_al2, x_as2, x_call, x_getf, x_goto, x_iaload, x_icge, x_iclt, x_il1, x_iret, x_isub, x_ldc, x_m1, x_tsw, b_vr_look_0, b_vr_look_64, b_vr_look_75, b_vr_look_80, b_vr_look_85, b_vr_look_90, b_vr_look_95, b_vr_look_100, b_vr_look_111, b_vr_look_122, b_vr_look_130, b_vr_look_135, b_vr_look_159, b_vr_look_160, fd_7_0, sf_7_0, fd_7_1, sf_7_1, fd_7_2, sf_7_2, fd_7_3, sf_7_3, fd_7_4, sf_7_4, fd_7_5, fd_7_6, fd_7_7, fd_7_8, fd_7_9, fd_7_10, e2]
      exact H
    · show wp (ev (d + 1)) _ vr_look 85 _ _ _
      simp -implicitDefEqProofs (disch := first | assumption | omega) only [szS_0, szS_i, szS_r, szS_l, x_cons, x_goto, ob_some, kl_i, kl_r, kl_l, kl_n, push_n, push_s, pop_0, pop_i, pop_r, Int.reduceToNat, List.length_cons, List.length_nil, Nat.reduceAdd, Nat.reduceLeDiff, Nat.zero_add, true_and, nI_n0, nat_le, Nat.add_zero, rt_vr_look, x_al0, x_al2, x_as2, x_call, x_getf, x_goto, x_iaload, x_icge, x_iclt, x_il1, x_iret, x_isub, x_ldc, x_m1, x_tsw, b_vr_look_0, b_vr_look_64, b_vr_look_75, b_vr_look_80, b_vr_look_85, b_vr_look_90, b_vr_look_95, b_vr_look_100, b_vr_look_111, b_vr_look_122, b_vr_look_130, b_vr_look_135, b_vr_look_159, b_vr_look_160, fd_7_0, sf_7_0, fd_7_1, sf_7_1, fd_7_2, sf_7_2, fd_7_3, sf_7_3, fd_7_4, sf_7_4, fd_7_5, fd_7_6, fd_7_7, fd_7_8, fd_7_9, fd_7_10, e3]
      exact H
    · show wp (ev (d + 1)) _ vr_look 90 _ _ _
      simp -implicitDefEqProofs (disch := first | assumption | omega) only [szS_0, szS_i, szS_r, szS_l, x_cons, x_goto, ob_some, kl_i, kl_r, kl_l, kl_n, push_n, push_s, pop_0, pop_i, pop_r, Int.reduceToNat, List.length_cons, List.length_nil, Nat.reduceAdd, Nat.reduceLeDiff, Nat.zero_add, true_and, nI_n0, nat_le, Nat.add_zero, rt_vr_look, x_al0, x_al2, x_as2, x_call, x_getf, x_goto, x_iaload, x_icge, x_iclt, x_il1, x_iret, x_isub, x_ldc, x_m1, x_tsw, b_vr_look_0, b_vr_look_64, b_vr_look_75, b_vr_look_80, b_vr_look_85, b_vr_look_90, b_vr_look_95, b_vr_look_100, b_vr_look_111, b_vr_look_122, b_vr_look_130, b_vr_look_135, b_vr_look_159, b_vr_look_160, fd_7_0, sf_7_0, fd_7_1, sf_7_1, fd_7_2, sf_7_2, fd_7_3, sf_7_3, fd_7_4, sf_7_4, fd_7_5, fd_7_6, fd_7_7, fd_7_8, fd_7_9, fd_7_10, e4]
      exact H
    · show wp (ev (d + 1)) _ vr_look 95 _ _ _
      simp -implicitDefEqProofs (disch := first | assumption | omega) only [szS_0, szS_i, szS_r, szS_l, x_cons, x_goto, ob_some, kl_i, kl_r, kl_l, kl_n, push_n, push_s, pop_0, pop_i, pop_r, Int.reduceToNat, List.length_cons, List.length_nil, Nat.reduceAdd, Nat.reduceLeDiff, Nat.zero_add, true_and, nI_n0, nat_le, Nat.add_zero, rt_vr_look, x_al0, x_al2, x_as2, x_call, x_getf, x_goto, x_iaload, x_icge, x_iclt, x_il1, x_iret, x_isub, x_ldc, x_m1, x_tsw, b_vr_look_0, b_vr_look_64, b_vr_look_75, b_vr_look_80, b_vr_look_85, b_vr_look_90, b_vr_look_95, b_vr_look_100, b_vr_look_111, b_vr_look_122, b_vr_look_130, b_vr_look_135, b_vr_look_159, b_vr_look_160, fd_7_0, sf_7_0, fd_7_1, sf_7_1, fd_7_2, sf_7_2, fd_7_3, sf_7_3, fd_7_4, sf_7_4, fd_7_5, fd_7_6, fd_7_7, fd_7_8, fd_7_9, fd_7_10, e5]
      exact H
    · show wp (ev (d + 1)) _ vr_look 100 _ _ _
      simp -implicitDefEqProofs (disch := first | assumption | omega) only [szS_0, szS_i, szS_r, szS_l, x_cons, x_goto, ob_some, kl_i, kl_r, kl_l, kl_n, push_n, push_s, pop_0, pop_i, pop_r, Int.reduceToNat, List.length_cons, List.length_nil, Nat.reduceAdd, Nat.reduceLeDiff, Nat.zero_add, true_and, nI_n0, nat_le, Nat.add_zero, rt_vr_look, x_al0, x_al2, x_as2, x_call, x_getf, x_goto, x_iaload, x_icge, x_iclt, x_il1, x_iret, x_isub, x_ldc, x_m1, x_tsw, b_vr_look_0, b_vr_look_64, b_vr_look_75, b_vr_look_80, b_vr_look_85, b_vr_look_90, b_vr_look_95, b_vr_look_100, b_vr_look_111, b_vr_look_122, b_vr_look_130, b_vr_look_135, b_vr_look_159, b_vr_look_160, fd_0_0, fd_0_1, fd_0_2, fd_0_3, fd_0_4, fd_0_5, fd_0_6, fd_0_7, fd_0_8, fd_0_9, sf_0_9, fd_1_0, fd_1_1, fd_1_2, fd_1_3, fd_1_4, fd_22_0, sf_22_0, fd_22_1, sf_22_1, fd_22_2, fd_22_3, fd_22_4, e6]
      exact H
    · show wp (ev (d + 1)) _ vr_look 111 _ _ _
      simp -implicitDefEqProofs (disch := first | assumption | omega) only [szS_0, szS_i, szS_r, szS_l, x_cons, x_goto, ob_some, kl_i, kl_r, kl_l, kl_n, push_n, push_s, pop_0, pop_i, pop_r, Int.reduceToNat, List.length_cons, List.length_nil, Nat.reduceAdd, Nat.reduceLeDiff, Nat.zero_add, true_and, nI_n0, nat_le, Nat.add_zero, rt_vr_look, x_al0, x_al2, x_as2, x_call, x_getf, x_goto, x_iaload, x_icge, x_iclt, x_il1, x_iret, x_isub, x_ldc, x_m1, x_tsw, b_vr_look_0, b_vr_look_64, b_vr_look_75, b_vr_look_80, b_vr_look_85, b_vr_look_90, b_vr_look_95, b_vr_look_100, b_vr_look_111, b_vr_look_122, b_vr_look_130, b_vr_look_135, b_vr_look_159, b_vr_look_160, fd_0_0, fd_0_1, fd_0_2, fd_0_3, fd_0_4, fd_0_5, fd_0_6, fd_0_7, fd_0_8, fd_0_9, sf_0_9, fd_1_0, fd_1_1, fd_1_2, fd_1_3, fd_1_4, fd_26_0, sf_26_0, fd_26_1, sf_26_1, fd_26_2, fd_26_3, fd_26_4, e7]
      exact H
    · show wp (ev (d + 1)) _ vr_look 122 _ _ _
      simp -implicitDefEqProofs (disch := first | assumption | omega) only [szS_0, szS_i, szS_r, szS_l, x_cons, x_goto, ob_some, kl_i, kl_r, kl_l, kl_n, push_n, push_s, pop_0, pop_i, pop_r, Int.reduceToNat, List.length_cons, List.length_nil, Nat.reduceAdd, Nat.reduceLeDiff, Nat.zero_add, true_and, nI_n0, nat_le, Nat.add_zero, rt_vr_look, x_al0, x_al2, x_as2, x_call, x_getf, x_goto, x_iaload, x_icge, x_iclt, x_il1, x_iret, x_isub, x_ldc, x_m1, x_tsw, b_vr_look_0, b_vr_look_64, b_vr_look_75, b_vr_look_80, b_vr_look_85, b_vr_look_90, b_vr_look_95, b_vr_look_100, b_vr_look_111, b_vr_look_122, b_vr_look_130, b_vr_look_135, b_vr_look_159, b_vr_look_160, fd_0_0, fd_0_1, fd_0_2, fd_0_3, fd_0_4, fd_0_5, fd_0_6, fd_0_7, fd_0_8, fd_0_9, sf_0_9, fd_91_0, fd_91_1, sf_91_1, fd_91_2, sf_91_2, r3]
      exact H
    · show wp (ev (d + 1)) _ vr_look 130 _ _ _
      have H : P (some (.int (nI (hsF w (tws w (nn w)) (nn w))))) (E g q) := H
      rw [h9] at H
      simp -implicitDefEqProofs (disch := first | assumption | omega) only [szS_0, szS_i, szS_r, szS_l, x_cons, x_goto, ob_some, kl_i, kl_r, kl_l, kl_n, push_n, push_s, pop_0, pop_i, pop_r, Int.reduceToNat, List.length_cons, List.length_nil, Nat.reduceAdd, Nat.reduceLeDiff, Nat.zero_add, true_and, nI_n0, nat_le, Nat.add_zero, rt_vr_look, x_al0, x_al2, x_as2, x_call, x_getf, x_goto, x_iaload, x_icge, x_iclt, x_il1, x_iret, x_isub, x_ldc, x_m1, x_tsw, b_vr_look_0, b_vr_look_64, b_vr_look_75, b_vr_look_80, b_vr_look_85, b_vr_look_90, b_vr_look_95, b_vr_look_100, b_vr_look_111, b_vr_look_122, b_vr_look_130, b_vr_look_135, b_vr_look_159, b_vr_look_160]
      refine in_vr_allHeads rfl ?_
      rw [b_vr_allHeads_0]
      simp -implicitDefEqProofs (disch := first | assumption | omega) only [szS_0, szS_i, szS_r, szS_l, x_cons, x_goto, ob_some, kl_i, kl_r, kl_l, kl_n, push_n, push_s, pop_0, pop_i, pop_r, Int.reduceToNat, List.length_cons, List.length_nil, Nat.reduceAdd, Nat.reduceLeDiff, Nat.zero_add, true_and, nI_n0, nat_le, Nat.add_zero, i_1, rt_vr_allHeads, x_aaload, x_al0, x_getf, x_goto, x_iadd, x_iaload, x_icge, x_il1, x_il2, x_inc2, x_iret, x_is1, x_is2, x_ldc]
      refine ah_lp hw hc ?_ (nn w) 0 (Nat.zero_add _)
      simp -implicitDefEqProofs (disch := first | assumption | omega) only [szS_0, szS_i, szS_r, szS_l, x_cons, x_goto, ob_some, kl_i, kl_r, kl_l, kl_n, push_n, push_s, pop_0, pop_i, pop_r, Int.reduceToNat, List.length_cons, List.length_nil, Nat.reduceAdd, Nat.reduceLeDiff, Nat.zero_add, true_and, nI_n0, nat_le, Nat.add_zero, rt_vr_look, x_al0, x_al2, x_as2, x_call, x_getf, x_goto, x_iaload, x_icge, x_iclt, x_il1, x_iret, x_isub, x_ldc, x_m1, x_tsw]
      exact H
  · have hcx : k.toInt < 0 ∨ 9 < k.toInt := by
      rw [leE, leE, nI_I (by decide), nI_I (by decide)] at h1
      omega
    have x1 : ¬ (nI 0 ≤ k ∧ k ≤ nI 7) := by
      rw [leE, leE, nI_I (by decide), nI_I (by decide)]
      omega
    have x2 : ¬ k = nI 8 := fun e => by
      rw [e, nI_I (by decide)] at hcx
      omega
    have x3 : ¬ k = nI 9 := fun e => by
      rw [e, nI_I (by decide)] at hcx
      omega
    unfold lkA at H
    rw [if_neg x1, if_neg x2, if_neg x3] at H
    rw [if_pos hcx]
    show wp (ev (d + 1)) _ vr_look 135 _ _ _
    rw [b_vr_look_135]
    simp -implicitDefEqProofs (disch := first | assumption | omega) only [szS_0, szS_i, szS_r, szS_l, x_cons, x_goto, ob_some, kl_i, kl_r, kl_l, kl_n, push_n, push_s, pop_0, pop_i, pop_r, Int.reduceToNat, List.length_cons, List.length_nil, Nat.reduceAdd, Nat.reduceLeDiff, Nat.zero_add, true_and, nI_n0, nat_le, Nat.add_zero, rt_vr_look, x_al0, x_al2, x_as2, x_call, x_getf, x_goto, x_iaload, x_icge, x_iclt, x_il1, x_iret, x_isub, x_ldc, x_m1, x_tsw]
    by_cases h2 : nI 10 ≤ k ∧ k ≤ nI 13
    · obtain ⟨k', k1, k2, rfl⟩ := int_in h2 (by decide) (by decide)
      have l1 : ¬ k' < 10 := by omega
      have l2 : k' < 14 := by omega
      have es : g 8 (k' - 10) = w (k' - 4) := by
        have h4 : k' = 10 ∨ k' = 11 ∨ k' = 12 ∨ k' = 13 := by omega
        rcases h4 with rfl | rfl | rfl | rfl
        · exact hc.1.2.2.2.2.1
        · exact hc.1.2.2.2.2.2
        · exact hx.2.2.1
        · exact hx.2.2.2
      rw [if_pos h2, ix_nI (by omega)] at H
      simp -implicitDefEqProofs (disch := first | assumption | omega) only [nI_ltE, l1, l2, ↓reduceIte, szS_0, szS_i, szS_r, szS_l, x_cons, x_goto, ob_some, kl_i, kl_r, kl_l, kl_n, push_n, push_s, pop_0, pop_i, pop_r, Int.reduceToNat, List.length_cons, List.length_nil, Nat.reduceAdd, Nat.reduceLeDiff, Nat.zero_add, true_and, nI_n0, nat_le, Nat.add_zero, rt_vr_look, x_al0, x_al2, x_as2, x_call, x_getf, x_goto, x_iaload, x_icge, x_iclt, x_il1, x_iret, x_isub, x_ldc, x_m1, x_tsw, fd_7_0, sf_7_0, fd_7_1, sf_7_1, fd_7_2, sf_7_2, fd_7_3, sf_7_3, fd_7_4, sf_7_4, fd_7_5, fd_7_6, fd_7_7, fd_7_8, fd_7_9, fd_7_10, ld_8, sd_8, ln_8, nI_sub, es, b_vr_look_160]
      exact H
    · rw [if_neg h2] at H
      by_cases l1 : k < nI 10
      · simp -implicitDefEqProofs (disch := first | assumption | omega) only [l1, ↓reduceIte, b_vr_look_159, b_vr_look_160, szS_0, szS_i, szS_r, szS_l, x_cons, x_goto, ob_some, kl_i, kl_r, kl_l, kl_n, push_n, push_s, pop_0, pop_i, pop_r, Int.reduceToNat, List.length_cons, List.length_nil, Nat.reduceAdd, Nat.reduceLeDiff, Nat.zero_add, true_and, nI_n0, nat_le, Nat.add_zero, rt_vr_look, x_al0, x_al2, x_as2, x_call, x_getf, x_goto, x_iaload, x_icge, x_iclt, x_il1, x_iret, x_isub, x_ldc, x_m1, x_tsw]
        exact H
      · have l2 : ¬ k < nI 14 := fun l2 => h2 (by
          rw [ltE, nI_I (by decide)] at l1 l2
          rw [leE, leE, nI_I (by decide), nI_I (by decide)]
          omega)
        simp -implicitDefEqProofs (disch := first | assumption | omega) only [l1, l2, ↓reduceIte, b_vr_look_159, b_vr_look_160, szS_0, szS_i, szS_r, szS_l, x_cons, x_goto, ob_some, kl_i, kl_r, kl_l, kl_n, push_n, push_s, pop_0, pop_i, pop_r, Int.reduceToNat, List.length_cons, List.length_nil, Nat.reduceAdd, Nat.reduceLeDiff, Nat.zero_add, true_and, nI_n0, nat_le, Nat.add_zero, rt_vr_look, x_al0, x_al2, x_as2, x_call, x_getf, x_goto, x_iaload, x_icge, x_iclt, x_il1, x_iret, x_isub, x_ldc, x_m1, x_tsw]
        exact H
theorem s_vfault (hR : rdK R g) {k : Int32} (H : P (some (.int (if k = nI 0 then R.2.1 else if k = nI 1 then R.2.2 else -1))) (E g q)) : callC (ev (d + 1)) vr_fault [.ref 0, .int k] (E g q) P := by
  refine in_vr_fault rfl ?_
  obtain ⟨-, -, r2, r3, -⟩ := hR
  rw [b_vr_fault_0]
  by_cases k0 : k = nI 0
  · rw [if_pos k0] at H
    simp -implicitDefEqProofs (disch := first | assumption | omega) only [szS_0, szS_i, szS_r, szS_l, x_cons, x_goto, ob_some, kl_i, kl_r, kl_l, kl_n, push_n, push_s, pop_0, pop_i, pop_r, Int.reduceToNat, List.length_cons, List.length_nil, Nat.reduceAdd, Nat.reduceLeDiff, Nat.zero_add, true_and, nI_n0, nat_le, Nat.add_zero, rt_vr_fault, x_al0, x_getf, x_goto, x_icne, x_ifne, x_il1, x_iret, x_ldc, x_m1, k0, ↓reduceIte, fd_0_0, fd_0_1, fd_0_2, fd_0_3, fd_0_4, fd_0_5, fd_0_6, fd_0_7, fd_0_8, fd_0_9, sf_0_9, fd_168_0, fd_168_1, sf_168_1, fd_168_2, sf_168_2, fd_168_3, sf_168_3, fd_168_4, sf_168_4, fd_168_5, sf_168_5, fd_168_6, fd_168_7, fd_168_8, fd_168_9, sf_168_9, fd_168_10, sf_168_10, r2]
    exact H
  · rw [if_neg k0] at H
    by_cases k1 : k = nI 1
    · rw [if_pos k1] at H
      have n10 : (nI 1 = nI 0) = False := eq_false (by decide)
      simp -implicitDefEqProofs (disch := first | assumption | omega) only [szS_0, szS_i, szS_r, szS_l, x_cons, x_goto, ob_some, kl_i, kl_r, kl_l, kl_n, push_n, push_s, pop_0, pop_i, pop_r, Int.reduceToNat, List.length_cons, List.length_nil, Nat.reduceAdd, Nat.reduceLeDiff, Nat.zero_add, true_and, nI_n0, nat_le, Nat.add_zero, rt_vr_fault, x_al0, x_getf, x_goto, x_icne, x_ifne, x_il1, x_iret, x_ldc, x_m1, k1, n10, ↓reduceIte, b_vr_fault_12, b_vr_fault_28, fd_0_0, fd_0_1, fd_0_2, fd_0_3, fd_0_4, fd_0_5, fd_0_6, fd_0_7, fd_0_8, fd_0_9, sf_0_9, fd_168_0, fd_168_1, sf_168_1, fd_168_2, sf_168_2, fd_168_3, sf_168_3, fd_168_4, sf_168_4, fd_168_5, sf_168_5, fd_168_6, fd_168_7, fd_168_8, fd_168_9, sf_168_9, fd_168_10, sf_168_10, r3]
      exact H
    · rw [if_neg k1] at H
      simp -implicitDefEqProofs (disch := first | assumption | omega) only [szS_0, szS_i, szS_r, szS_l, x_cons, x_goto, ob_some, kl_i, kl_r, kl_l, kl_n, push_n, push_s, pop_0, pop_i, pop_r, Int.reduceToNat, List.length_cons, List.length_nil, Nat.reduceAdd, Nat.reduceLeDiff, Nat.zero_add, true_and, nI_n0, nat_le, Nat.add_zero, rt_vr_fault, x_al0, x_getf, x_goto, x_icne, x_ifne, x_il1, x_iret, x_ldc, x_m1, k0, k1, ↓reduceIte, b_vr_fault_12, b_vr_fault_27, b_vr_fault_28]
      exact H
/-- a tape cut to n -/
def RDe (R : RD) (n : Nat) : RD := ((n, R.1.2), R.2)
theorem s_vend0 (hR : rdK R g) {n : Int32} (h : ¬ (nI 0 ≤ n ∧ n ≤ nI R.1.1)) : callC (ev (d + 1)) vr_end [.ref 0, .int n] (E g q) P = P (some (.int (nI 0))) (E g q) := by
  refine call_eq (in_vr_end rfl ?_)
  have r1 := hR.1
  have no : wp (ev d) (fun r1 h1 => r1 = some (.int (nI 0)) ∧ h1 = E g q) vr_end 15 [some (.ref 0), some (.int n)] [] (E g q) := by
    rw [b_vr_end_15]
    simp -implicitDefEqProofs (disch := first | assumption | omega) only [szS_0, szS_i, szS_r, szS_l, x_cons, x_goto, ob_some, kl_i, kl_r, kl_l, kl_n, push_n, push_s, pop_0, pop_i, pop_r, Int.reduceToNat, List.length_cons, List.length_nil, Nat.reduceAdd, Nat.reduceLeDiff, Nat.zero_add, true_and, nI_n0, nat_le, Nat.add_zero, rt_vr_end_0, rt_vr_end_1, rt_vr_end_b, x_al0, x_getf, x_icle, x_iflt, x_il1, x_iret, x_ldc, x_putf]
    all_goals first | rfl | exact ⟨rfl, rfl⟩ | exact ⟨rfl, trivial⟩ | exact ⟨trivial, rfl⟩ | trivial
  rw [b_vr_end_0]
  simp -implicitDefEqProofs (disch := first | assumption | omega) only [szS_0, szS_i, szS_r, szS_l, x_cons, x_goto, ob_some, kl_i, kl_r, kl_l, kl_n, push_n, push_s, pop_0, pop_i, pop_r, Int.reduceToNat, List.length_cons, List.length_nil, Nat.reduceAdd, Nat.reduceLeDiff, Nat.zero_add, true_and, nI_n0, nat_le, Nat.add_zero, rt_vr_end_0, rt_vr_end_1, rt_vr_end_b, x_al0, x_getf, x_icle, x_iflt, x_il1, x_iret, x_ldc, x_putf]
  by_cases h1 : n < nI 0
  · rw [if_pos h1]
    exact no
  · rw [if_neg h1]
    try simp -implicitDefEqProofs (disch := first | assumption | omega) only [szS_0, szS_i, szS_r, szS_l, x_cons, x_goto, ob_some, kl_i, kl_r, kl_l, kl_n, push_n, push_s, pop_0, pop_i, pop_r, Int.reduceToNat, List.length_cons, List.length_nil, Nat.reduceAdd, Nat.reduceLeDiff, Nat.zero_add, true_and, nI_n0, nat_le, Nat.add_zero, rt_vr_end_0, rt_vr_end_1, rt_vr_end_b, x_al0, x_getf, x_icle, x_iflt, x_il1, x_iret, x_ldc, x_putf, fd_0_0, fd_0_1, fd_0_2, fd_0_3, fd_0_4, fd_0_5, fd_0_6, fd_0_7, fd_0_8, fd_0_9, sf_0_9, fd_168_0, fd_168_1, sf_168_1, fd_168_2, sf_168_2, fd_168_3, sf_168_3, fd_168_4, sf_168_4, fd_168_5, sf_168_5, fd_168_6, fd_168_7, fd_168_8, fd_168_9, sf_168_9, fd_168_10, sf_168_10, r1]
    by_cases h2 : nI R.1.1 < n
    · rw [if_pos h2]
      exact no
    · rw [lt_le] at h1 h2
      exact absurd ⟨h1, h2⟩ h
theorem s_vend (hK : Kc w V M pl im R g) (hn400 : R.1.1 ≤ 400) {n : Nat} (h : n ≤ R.1.1) (H : ∀ g', fC g g' → Kc w V M pl im (RDe R n) g' → P (some (.int (nI 1))) (E g' q)) : callC (ev (d + 1)) vr_end [.ref 0, .int (nI n)] (E g q) P := by
  refine in_vr_end rfl ?_
  obtain ⟨r1, r2, r3, r4⟩ := hK.2.2.2
  have l1 : ¬ n < 0 := by omega
  have l2 : ¬ R.1.1 < n := by omega
  rw [b_vr_end_0]
  simp -implicitDefEqProofs (disch := first | assumption | omega) only [szS_0, szS_i, szS_r, szS_l, x_cons, x_goto, ob_some, kl_i, kl_r, kl_l, kl_n, push_n, push_s, pop_0, pop_i, pop_r, Int.reduceToNat, List.length_cons, List.length_nil, Nat.reduceAdd, Nat.reduceLeDiff, Nat.zero_add, true_and, nI_n0, nat_le, Nat.add_zero, rt_vr_end_0, rt_vr_end_1, rt_vr_end_b, x_al0, x_getf, x_icle, x_iflt, x_il1, x_iret, x_ldc, x_putf, nI_ltE, l1, ↓reduceIte, fd_0_0, fd_0_1, fd_0_2, fd_0_3, fd_0_4, fd_0_5, fd_0_6, fd_0_7, fd_0_8, fd_0_9, sf_0_9, fd_168_0, fd_168_1, sf_168_1, fd_168_2, sf_168_2, fd_168_3, sf_168_3, fd_168_4, sf_168_4, fd_168_5, sf_168_5, fd_168_6, fd_168_7, fd_168_8, fd_168_9, sf_168_9, fd_168_10, sf_168_10, r1, l2, b_vr_end_17, pu_g, pu_w, upw_s, upw_w, pu_s]
  refine H _ (fun b hb => upw_o (by omega)) ⟨KA_c hK.1 fun b b1 b2 _ _ => upw_o (by omega), rgK_c hK.2.1 fun b b1 b2 => upw_o (by omega), imK_c hK.2.2.1 fun b hb => upw_o (by omega), ?_, fun k hk => ?_, ?_, ?_⟩
  · rw [upw_s, pu_s]
    rfl
  · have hk : k < n := hk
    rw [upw_o (by decide)]
    exact r2 k (by omega)
  · rw [upw_s, pu_n (by decide)]
    exact r3
  · rw [upw_s, pu_n (by decide)]
    exact ⟨r4.1, zS_c r4.2 fun b hb => upw_o (by omega)⟩
theorem ap_lp {x : Int32} {n : Nat} (hn : n + 4 ≤ 400) {g0 : Nat → Nat → Int32} (H : ∀ g', (∀ b, b ≠ 168 → b ≠ 169 → g' b = g0 b) → (∀ k, k ≠ 1 → g' 168 k = g0 168 k) → g' 168 1 = nI (n + 4) → (∀ k, g' 169 k = if n ≤ k ∧ k < n + 4 then nI (byt x (24 - 8 * (k - n))) else g0 169 k) → P none (E g' q)) :
    ∀ (j i : Nat) (g : Nat → Nat → Int32), i + j = 4 → (∀ b, b ≠ 168 → b ≠ 169 → g b = g0 b) → (∀ k, k ≠ 1 → g 168 k = g0 168 k) → g 168 1 = nI (n + i) → (∀ k, g 169 k = if n ≤ k ∧ k < n + i then nI (byt x (24 - 8 * (k - n))) else g0 169 k) →
    wp (ev d) P re_append 3 [some (.ref 168), some (.int x), some (.int (nI 24 - nI (8 * i)))] [] (E g q) := by
  intro j
  induction j with
  | zero =>
    intro i g hi h1 h2 h3 h4
    have hi : i = 4 := hi
    subst hi
    have hl : (nI 24 - nI (8 * 4) < nI 0) = True := eq_true (by decide)
    rw [b_re_append_3]
    simp -implicitDefEqProofs (disch := first | assumption | omega) only [szS_0, szS_i, szS_r, szS_l, x_cons, x_goto, ob_some, kl_i, kl_r, kl_l, kl_n, push_n, push_s, pop_0, pop_i, pop_r, Int.reduceToNat, List.length_cons, List.length_nil, Nat.reduceAdd, Nat.reduceLeDiff, Nat.zero_add, true_and, nI_n0, nat_le, Nat.add_zero, i_m8, rt_re_append, x_al0, x_dupi, x_dupr, x_getf, x_goto, x_iadd, x_iand, x_iastore, x_icge, x_iflt, x_il1, x_il2, x_inc2, x_is2, x_iushr, x_ldc, x_putf, x_vret, hl, ↓reduceIte, b_re_append_49]
    exact H g h1 h2 h3 h4
  | succ j ih =>
    intro i g hi h1 h2 h3 h4
    have hi' : i < 4 := by omega
    have e0 : nI 24 - nI (8 * i) = nI (24 - 8 * i) := nI_sub (by omega)
    have hl : ¬ 24 - 8 * i < 0 := by omega
    have hl2 : n + i < 400 := by omega
    have e8 : nI (24 - 8 * i) + -8 = nI 24 - nI (8 * (i + 1)) := by
      have : i = 0 ∨ i = 1 ∨ i = 2 ∨ i = 3 := by omega
      rcases this with rfl | rfl | rfl | rfl <;> decide
    have hb := by_u (x := x) (s := 24 - 8 * i) (by omega)
    rw [e0, b_re_append_3]
    simp -implicitDefEqProofs (disch := first | assumption | omega) only [szS_0, szS_i, szS_r, szS_l, x_cons, x_goto, ob_some, kl_i, kl_r, kl_l, kl_n, push_n, push_s, pop_0, pop_i, pop_r, Int.reduceToNat, List.length_cons, List.length_nil, Nat.reduceAdd, Nat.reduceLeDiff, Nat.zero_add, true_and, nI_n0, nat_le, Nat.add_zero, i_m8, rt_re_append, x_al0, x_dupi, x_dupr, x_getf, x_goto, x_iadd, x_iand, x_iastore, x_icge, x_iflt, x_il1, x_il2, x_inc2, x_is2, x_iushr, x_ldc, x_putf, x_vret, nI_ltE, hl, hl2, ↓reduceIte, fd_168_0, fd_168_1, sf_168_1, fd_168_2, sf_168_2, fd_168_3, sf_168_3, fd_168_4, sf_168_4, fd_168_5, sf_168_5, fd_168_6, fd_168_7, fd_168_8, fd_168_9, sf_168_9, fd_168_10, sf_168_10, ld_169, sd_169, ln_169, h3, hb, pu_g, upw_o, nI_add, b_re_append_43, e8, pu_w, upw_s, upw_w, pu_s]
    refine ih (i + 1) _ (by omega) (fun b b1 b2 => by rw [upw_o b1, upw_o b2]; exact h1 b b1 b2) (fun k hk => by rw [upw_s, pu_n hk]; exact h2 k hk) (by rw [upw_s, pu_s, Nat.add_assoc]) fun k => ?_
    rw [upw_o (by decide), upw_s]
    by_cases e : k = n + i
    · rw [e, pu_s, if_pos (by omega), show n + i - n = i by omega]
    · rw [pu_n e, h4]
      by_cases e2 : n ≤ k ∧ k < n + i
      · rw [if_pos e2, if_pos (by omega)]
      · rw [if_neg e2, if_neg (by omega)]
theorem s_append {x : Int32} {n : Nat} (hn : n + 4 ≤ 400) (h3 : g 168 1 = nI n) (H : ∀ g', (∀ b, b ≠ 168 → b ≠ 169 → g' b = g b) → (∀ k, k ≠ 1 → g' 168 k = g 168 k) → g' 168 1 = nI (n + 4) → (∀ k, g' 169 k = if n ≤ k ∧ k < n + 4 then nI (byt x (24 - 8 * (k - n))) else g 169 k) → P none (E g' q)) :
    callC (ev (d + 1)) re_append [.ref 168, .int x] (E g q) P := by
  refine in_re_append rfl ?_
  have e : nI 24 = nI 24 - nI (8 * 0) := by decide
  rw [b_re_append_0]
  simp -implicitDefEqProofs (disch := first | assumption | omega) only [szS_0, szS_i, szS_r, szS_l, x_cons, x_goto, ob_some, kl_i, kl_r, kl_l, kl_n, push_n, push_s, pop_0, pop_i, pop_r, Int.reduceToNat, List.length_cons, List.length_nil, Nat.reduceAdd, Nat.reduceLeDiff, Nat.zero_add, true_and, nI_n0, nat_le, Nat.add_zero, i_m8, rt_re_append, x_al0, x_dupi, x_dupr, x_getf, x_goto, x_iadd, x_iand, x_iastore, x_icge, x_iflt, x_il1, x_il2, x_inc2, x_is2, x_iushr, x_ldc, x_putf, x_vret]
  rw [e]
  exact ap_lp hn H 4 0 g rfl (fun _ _ _ => rfl) (fun _ _ => rfl) h3 fun k => by rw [if_neg (by omega)]
/-- a tape with 20 more -/
def fdV (a b c e f : Int32) (i : Nat) : Int32 := if i < 4 then a else if i < 8 then b else if i < 12 then c else if i < 16 then e else f
def RDf (R : RD) (a b c e f : Int32) : RD := ((R.1.1 + 20, fun k => if k < R.1.1 then R.1.2 k else byt (fdV a b c e f (k - R.1.1)) (24 - 8 * ((k - R.1.1) % 4))), R.2)
theorem s_vfeed0 (hR : rdK R g) (hn400 : R.1.1 ≤ 400) (h : 380 < R.1.1) {a b c e f : Int32} : callC (ev (d + 2)) vr_feed [.ref 0, .int a, .int b, .int c, .int e, .int f] (E g q) P = P (some (.int (-1))) (E g q) := by
  refine call_eq (in_vr_feed rfl ?_)
  have r1 := hR.1
  rw [b_vr_feed_0]
  simp -implicitDefEqProofs (disch := first | assumption | omega) only [szS_0, szS_i, szS_r, szS_l, x_cons, x_goto, ob_some, kl_i, kl_r, kl_l, kl_n, push_n, push_s, pop_0, pop_i, pop_r, Int.reduceToNat, List.length_cons, List.length_nil, Nat.reduceAdd, Nat.reduceLeDiff, Nat.zero_add, true_and, nI_n0, nat_le, Nat.add_zero, rt_vr_feed, x_al0, x_call, x_getf, x_icle, x_il1, x_il2, x_il3, x_il4, x_il5, x_iret, x_ldc, x_m1, fd_0_0, fd_0_1, fd_0_2, fd_0_3, fd_0_4, fd_0_5, fd_0_6, fd_0_7, fd_0_8, fd_0_9, sf_0_9, fd_168_0, fd_168_1, sf_168_1, fd_168_2, sf_168_2, fd_168_3, sf_168_3, fd_168_4, sf_168_4, fd_168_5, sf_168_5, fd_168_6, fd_168_7, fd_168_8, fd_168_9, sf_168_9, fd_168_10, sf_168_10, r1, nI_ltE, h, ↓reduceIte]
  all_goals first | rfl | exact ⟨rfl, rfl⟩ | exact ⟨rfl, trivial⟩ | exact ⟨trivial, rfl⟩ | trivial
theorem s_vfeed (hK : Kc w V M pl im R g) (h : R.1.1 ≤ 380) {a b c e f : Int32} (H : ∀ g', fC g g' → Kc w V M pl im (RDf R a b c e f) g' → P (some (.int (nI (R.1.1 + 20)))) (E g' q)) : callC (ev (d + 2)) vr_feed [.ref 0, .int a, .int b, .int c, .int e, .int f] (E g q) P := by
  refine in_vr_feed rfl ?_
  obtain ⟨r1, r2, r3, r4⟩ := hK.2.2.2
  have hl : ¬ 380 < R.1.1 := by omega
  rw [b_vr_feed_0]
  simp -implicitDefEqProofs (disch := first | assumption | omega) only [szS_0, szS_i, szS_r, szS_l, x_cons, x_goto, ob_some, kl_i, kl_r, kl_l, kl_n, push_n, push_s, pop_0, pop_i, pop_r, Int.reduceToNat, List.length_cons, List.length_nil, Nat.reduceAdd, Nat.reduceLeDiff, Nat.zero_add, true_and, nI_n0, nat_le, Nat.add_zero, rt_vr_feed, x_al0, x_call, x_getf, x_icle, x_il1, x_il2, x_il3, x_il4, x_il5, x_iret, x_ldc, x_m1, fd_0_0, fd_0_1, fd_0_2, fd_0_3, fd_0_4, fd_0_5, fd_0_6, fd_0_7, fd_0_8, fd_0_9, sf_0_9, fd_168_0, fd_168_1, sf_168_1, fd_168_2, sf_168_2, fd_168_3, sf_168_3, fd_168_4, sf_168_4, fd_168_5, sf_168_5, fd_168_6, fd_168_7, fd_168_8, fd_168_9, sf_168_9, fd_168_10, sf_168_10, r1, nI_ltE, hl, ↓reduceIte, b_vr_feed_15]
  refine s_append (n := R.1.1) (by omega) r1 fun g1 a1 b1 c1 d1 => ?_
  simp -implicitDefEqProofs (disch := first | assumption | omega) only [szS_0, szS_i, szS_r, szS_l, x_cons, x_goto, ob_some, kl_i, kl_r, kl_l, kl_n, push_n, push_s, pop_0, pop_i, pop_r, Int.reduceToNat, List.length_cons, List.length_nil, Nat.reduceAdd, Nat.reduceLeDiff, Nat.zero_add, true_and, nI_n0, nat_le, Nat.add_zero, rt_vr_feed, x_al0, x_call, x_getf, x_icle, x_il1, x_il2, x_il3, x_il4, x_il5, x_iret, x_ldc, x_m1, fd_0_0, fd_0_1, fd_0_2, fd_0_3, fd_0_4, fd_0_5, fd_0_6, fd_0_7, fd_0_8, fd_0_9, sf_0_9]
  refine s_append (n := R.1.1 + 4) (by omega) c1 fun g2 a2 b2 c2 d2 => ?_
  simp -implicitDefEqProofs (disch := first | assumption | omega) only [szS_0, szS_i, szS_r, szS_l, x_cons, x_goto, ob_some, kl_i, kl_r, kl_l, kl_n, push_n, push_s, pop_0, pop_i, pop_r, Int.reduceToNat, List.length_cons, List.length_nil, Nat.reduceAdd, Nat.reduceLeDiff, Nat.zero_add, true_and, nI_n0, nat_le, Nat.add_zero, rt_vr_feed, x_al0, x_call, x_getf, x_icle, x_il1, x_il2, x_il3, x_il4, x_il5, x_iret, x_ldc, x_m1, fd_0_0, fd_0_1, fd_0_2, fd_0_3, fd_0_4, fd_0_5, fd_0_6, fd_0_7, fd_0_8, fd_0_9, sf_0_9]
  refine s_append (n := R.1.1 + 4 + 4) (by omega) c2 fun g3 a3 b3 c3 d3 => ?_
  simp -implicitDefEqProofs (disch := first | assumption | omega) only [szS_0, szS_i, szS_r, szS_l, x_cons, x_goto, ob_some, kl_i, kl_r, kl_l, kl_n, push_n, push_s, pop_0, pop_i, pop_r, Int.reduceToNat, List.length_cons, List.length_nil, Nat.reduceAdd, Nat.reduceLeDiff, Nat.zero_add, true_and, nI_n0, nat_le, Nat.add_zero, rt_vr_feed, x_al0, x_call, x_getf, x_icle, x_il1, x_il2, x_il3, x_il4, x_il5, x_iret, x_ldc, x_m1, fd_0_0, fd_0_1, fd_0_2, fd_0_3, fd_0_4, fd_0_5, fd_0_6, fd_0_7, fd_0_8, fd_0_9, sf_0_9]
  refine s_append (n := R.1.1 + 4 + 4 + 4) (by omega) c3 fun g4 a4 b4 c4 d4 => ?_
  simp -implicitDefEqProofs (disch := first | assumption | omega) only [szS_0, szS_i, szS_r, szS_l, x_cons, x_goto, ob_some, kl_i, kl_r, kl_l, kl_n, push_n, push_s, pop_0, pop_i, pop_r, Int.reduceToNat, List.length_cons, List.length_nil, Nat.reduceAdd, Nat.reduceLeDiff, Nat.zero_add, true_and, nI_n0, nat_le, Nat.add_zero, rt_vr_feed, x_al0, x_call, x_getf, x_icle, x_il1, x_il2, x_il3, x_il4, x_il5, x_iret, x_ldc, x_m1, fd_0_0, fd_0_1, fd_0_2, fd_0_3, fd_0_4, fd_0_5, fd_0_6, fd_0_7, fd_0_8, fd_0_9, sf_0_9]
  refine s_append (n := R.1.1 + 4 + 4 + 4 + 4) (by omega) c4 fun g5 a5 b5 c5 d5 => ?_
  simp -implicitDefEqProofs (disch := first | assumption | omega) only [szS_0, szS_i, szS_r, szS_l, x_cons, x_goto, ob_some, kl_i, kl_r, kl_l, kl_n, push_n, push_s, pop_0, pop_i, pop_r, Int.reduceToNat, List.length_cons, List.length_nil, Nat.reduceAdd, Nat.reduceLeDiff, Nat.zero_add, true_and, nI_n0, nat_le, Nat.add_zero, rt_vr_feed, x_al0, x_call, x_getf, x_icle, x_il1, x_il2, x_il3, x_il4, x_il5, x_iret, x_ldc, x_m1, fd_0_0, fd_0_1, fd_0_2, fd_0_3, fd_0_4, fd_0_5, fd_0_6, fd_0_7, fd_0_8, fd_0_9, sf_0_9, fd_168_0, fd_168_1, sf_168_1, fd_168_2, sf_168_2, fd_168_3, sf_168_3, fd_168_4, sf_168_4, fd_168_5, sf_168_5, fd_168_6, fd_168_7, fd_168_8, fd_168_9, sf_168_9, fd_168_10, sf_168_10, c5]
  have eo : ∀ b, b ≠ 168 → b ≠ 169 → g5 b = g b := fun b x y => by rw [a5 b x y, a4 b x y, a3 b x y, a2 b x y, a1 b x y]
  have ek : ∀ k, k ≠ 1 → g5 168 k = g 168 k := fun k x => by rw [b5 k x, b4 k x, b3 k x, b2 k x, b1 k x]
  refine H g5 (fun b hb => eo b (by omega) (by omega)) ⟨KA_c hK.1 fun b _ _ _ _ => eo b (by omega) (by omega), rgK_c hK.2.1 fun b _ _ => eo b (by omega) (by omega), imK_c hK.2.2.1 fun b hb => eo b (by omega) (by omega), c5, fun k hk => ?_, by rw [ek 2 (by decide)]; exact r3, by rw [ek 3 (by decide)]; exact r4.1, zS_c r4.2 fun b hb => eo b (by omega) (by omega)⟩
  have hk : k < R.1.1 + 20 := hk
  show g5 169 k = nI (if k < R.1.1 then R.1.2 k else byt (fdV a b c e f (k - R.1.1)) (24 - 8 * ((k - R.1.1) % 4)))
  by_cases k0 : k < R.1.1
  · rw [if_pos k0, d5, if_neg (by omega), d4, if_neg (by omega), d3, if_neg (by omega), d2, if_neg (by omega), d1, if_neg (by omega)]
    exact r2 k k0
  · rw [if_neg k0]
    unfold fdV
    by_cases k1 : k - R.1.1 < 4
    · rw [if_pos k1, d5, if_neg (by omega), d4, if_neg (by omega), d3, if_neg (by omega), d2, if_neg (by omega), d1, if_pos (by omega), show (k - R.1.1) % 4 = k - R.1.1 by omega]
    · rw [if_neg k1]
      by_cases k2 : k - R.1.1 < 8
      · rw [if_pos k2, d5, if_neg (by omega), d4, if_neg (by omega), d3, if_neg (by omega), d2, if_pos (by omega), show (k - R.1.1) % 4 = k - (R.1.1 + 4) by omega]
      · rw [if_neg k2]
        by_cases k3 : k - R.1.1 < 12
        · rw [if_pos k3, d5, if_neg (by omega), d4, if_neg (by omega), d3, if_pos (by omega), show (k - R.1.1) % 4 = k - (R.1.1 + 4 + 4) by omega]
        · rw [if_neg k3]
          by_cases k4 : k - R.1.1 < 16
          · rw [if_pos k4, d5, if_neg (by omega), d4, if_pos (by omega), show (k - R.1.1) % 4 = k - (R.1.1 + 4 + 4 + 4) by omega]
          · rw [if_neg k4, d5, if_pos (by omega), show (k - R.1.1) % 4 = k - (R.1.1 + 4 + 4 + 4 + 4) by omega]
/-- thought -/
theorem fD_Q {g g' : Nat → Nat → Int32} {V M : LW} (h : fD 61 g g') (l : CL 61 g' V M) : fQ g g' := ⟨fun b b1 b2 b3 b4 => h b (by omega) (by omega), fun _ _ => ⟨l.1.2.2.2, l.2.1.2.2.2⟩⟩
theorem s_vlater (hK : Kc w V M pl im R g) (hw : WI w) (hV : LK w 0 okV V) (hM : LK w 1 okM M) {n t k : Int32} (H : ∀ g', fQ g g' → P (some (.int (latA V M w n t k))) (E g' q)) : callC (ev (d + 8)) vr_later [.ref 0, .int n, .int t, .int k] (E g q) P := by
  refine in_vr_later rfl ?_
  have hc := hK.1.1
  have no : latB w n t k = false → wp (ev (d + 7)) P vr_later 34 [some (.ref 0), some (.int n), some (.int t), some (.int k)] [] (E g q) := by
    intro h
    have := H g fQ_r
    unfold latA at this
    rw [h, if_neg Bool.false_ne_true] at this
    rw [b_vr_later_34]
    simp -implicitDefEqProofs (disch := first | assumption | omega) only [szS_0, szS_i, szS_r, szS_l, x_cons, x_goto, ob_some, kl_i, kl_r, kl_l, kl_n, push_n, push_s, pop_0, pop_i, pop_r, Int.reduceToNat, List.length_cons, List.length_nil, Nat.reduceAdd, Nat.reduceLeDiff, Nat.zero_add, true_and, nI_n0, nat_le, Nat.add_zero, rt_vr_later, x_al0, x_call, x_getf, x_ifeq, x_ifne, x_il1, x_il2, x_il3, x_iret, x_ldc, x_m1]
    exact this
  rw [b_vr_later_0]
  simp -implicitDefEqProofs (disch := first | assumption | omega) only [szS_0, szS_i, szS_r, szS_l, x_cons, x_goto, ob_some, kl_i, kl_r, kl_l, kl_n, push_n, push_s, pop_0, pop_i, pop_r, Int.reduceToNat, List.length_cons, List.length_nil, Nat.reduceAdd, Nat.reduceLeDiff, Nat.zero_add, true_and, nI_n0, nat_le, Nat.add_zero, rt_vr_later, x_al0, x_call, x_getf, x_ifeq, x_ifne, x_il1, x_il2, x_il3, x_iret, x_ldc, x_m1, s_within, bI_0]
  by_cases h1 : nI 0 ≤ n ∧ n ≤ nI 100
  · simp only [decide_eq_true h1, Bool.true_eq_false, ↓reduceIte]
    try simp -implicitDefEqProofs (disch := first | assumption | omega) only [szS_0, szS_i, szS_r, szS_l, x_cons, x_goto, ob_some, kl_i, kl_r, kl_l, kl_n, push_n, push_s, pop_0, pop_i, pop_r, Int.reduceToNat, List.length_cons, List.length_nil, Nat.reduceAdd, Nat.reduceLeDiff, Nat.zero_add, true_and, nI_n0, nat_le, Nat.add_zero, rt_vr_later, x_al0, x_call, x_getf, x_ifeq, x_ifne, x_il1, x_il2, x_il3, x_iret, x_ldc, x_m1, fd_0_0, fd_0_1, fd_0_2, fd_0_3, fd_0_4, fd_0_5, fd_0_6, fd_0_7, fd_0_8, fd_0_9, sf_0_9, fd_1_0, fd_1_1, fd_1_2, fd_1_3, fd_1_4]
    rw [s_cTown (t := 1) (by decide) hw hc]
    simp -implicitDefEqProofs (disch := first | assumption | omega) only [szS_0, szS_i, szS_r, szS_l, x_cons, x_goto, ob_some, kl_i, kl_r, kl_l, kl_n, push_n, push_s, pop_0, pop_i, pop_r, Int.reduceToNat, List.length_cons, List.length_nil, Nat.reduceAdd, Nat.reduceLeDiff, Nat.zero_add, true_and, nI_n0, nat_le, Nat.add_zero, rt_vr_later, x_al0, x_call, x_getf, x_ifeq, x_ifne, x_il1, x_il2, x_il3, x_iret, x_ldc, x_m1, bI_0]
    cases h2 : townB w t
    · simp -implicitDefEqProofs (disch := first | assumption | omega) only [↓reduceIte]
      exact no (by unfold latB; rw [h2, Bool.false_and, Bool.and_false])
    · simp -implicitDefEqProofs (disch := first | assumption | omega) only [Bool.true_eq_false, ↓reduceIte, szS_0, szS_i, szS_r, szS_l, x_cons, x_goto, ob_some, kl_i, kl_r, kl_l, kl_n, push_n, push_s, pop_0, pop_i, pop_r, Int.reduceToNat, List.length_cons, List.length_nil, Nat.reduceAdd, Nat.reduceLeDiff, Nat.zero_add, true_and, nI_n0, nat_le, Nat.add_zero, rt_vr_later, x_al0, x_call, x_getf, x_ifeq, x_ifne, x_il1, x_il2, x_il3, x_iret, x_ldc, x_m1, s_within, bI_0]
      by_cases h3 : nI 0 ≤ k ∧ k ≤ nI 7
      · simp only [decide_eq_true h3, Bool.true_eq_false, ↓reduceIte]
        obtain ⟨n', hn, rfl⟩ := int_is h1 (by decide)
        obtain ⟨k', hk, rfl⟩ := int_is h3 (by decide)
        obtain ⟨t', ht, rfl, hs⟩ := townB_ex hw h2
        have h0 := wi_n hw
        have hB : latB w (nI n') (nI t') (nI k') = true := by
          unfold latB
          rw [decide_eq_true h1, h2, decide_eq_true h3]
          rfl
        have eA : latA V M w (nI n') (nI t') (nI k') = thN V M n' (th0 w) (10 + 20 * t' + tfd k') := by
          unfold latA
          rw [if_pos hB, ix_nI (by omega), ix_nI (by omega), ix_nI (by omega)]
        rw [eA] at H
        rw [b_vr_later_36]
        simp -implicitDefEqProofs (disch := first | assumption | omega) only [szS_0, szS_i, szS_r, szS_l, x_cons, x_goto, ob_some, kl_i, kl_r, kl_l, kl_n, push_n, push_s, pop_0, pop_i, pop_r, Int.reduceToNat, List.length_cons, List.length_nil, Nat.reduceAdd, Nat.reduceLeDiff, Nat.zero_add, true_and, nI_n0, nat_le, Nat.add_zero, rt_vr_later, x_al0, x_call, x_getf, x_ifeq, x_ifne, x_il1, x_il2, x_il3, x_iret, x_ldc, x_m1, fd_0_0, fd_0_1, fd_0_2, fd_0_3, fd_0_4, fd_0_5, fd_0_6, fd_0_7, fd_0_8, fd_0_9, sf_0_9]
        refine s_townLater hw hc hK.1.2.2 hV hM hK.1.2.1 (by omega) (by omega) (by omega) fun g1 f1 l1 => ?_
        simp -implicitDefEqProofs (disch := first | assumption | omega) only [szS_0, szS_i, szS_r, szS_l, x_cons, x_goto, ob_some, kl_i, kl_r, kl_l, kl_n, push_n, push_s, pop_0, pop_i, pop_r, Int.reduceToNat, List.length_cons, List.length_nil, Nat.reduceAdd, Nat.reduceLeDiff, Nat.zero_add, true_and, nI_n0, nat_le, Nat.add_zero, rt_vr_later, x_al0, x_call, x_getf, x_ifeq, x_ifne, x_il1, x_il2, x_il3, x_iret, x_ldc, x_m1]
        exact H g1 (fD_Q f1 l1)
      · simp only [decide_eq_false h3, ↓reduceIte]
        exact no (by unfold latB; rw [decide_eq_false h3, Bool.and_false, Bool.and_false])
  · simp only [decide_eq_false h1, ↓reduceIte]
    exact no (by unfold latB; rw [decide_eq_false h1, Bool.false_and])
theorem s_vthirst (hK : Kc w V M pl im R g) (hw : WI w) (hV : LK w 0 okV V) (hM : LK w 1 okM M) {t : Int32} (H : ∀ g', fQ g g' → P (some (.int (thrA V M w t))) (E g' q)) : callC (ev (d + 8)) vr_thirst [.ref 0, .int t] (E g q) P := by
  refine in_vr_thirst rfl ?_
  have hc := hK.1.1
  unfold thrA at H
  rw [b_vr_thirst_0]
  simp -implicitDefEqProofs (disch := first | assumption | omega) only [szS_0, szS_i, szS_r, szS_l, x_cons, x_goto, ob_some, kl_i, kl_r, kl_l, kl_n, push_n, push_s, pop_0, pop_i, pop_r, Int.reduceToNat, List.length_cons, List.length_nil, Nat.reduceAdd, Nat.reduceLeDiff, Nat.zero_add, true_and, nI_n0, nat_le, Nat.add_zero, rt_vr_thirst, x_al0, x_call, x_getf, x_goto, x_ifeq, x_il1, x_iret, x_m1, fd_0_0, fd_0_1, fd_0_2, fd_0_3, fd_0_4, fd_0_5, fd_0_6, fd_0_7, fd_0_8, fd_0_9, sf_0_9, fd_1_0, fd_1_1, fd_1_2, fd_1_3, fd_1_4]
  rw [s_cTown (t := 1) (by decide) hw hc]
  simp -implicitDefEqProofs (disch := first | assumption | omega) only [szS_0, szS_i, szS_r, szS_l, x_cons, x_goto, ob_some, kl_i, kl_r, kl_l, kl_n, push_n, push_s, pop_0, pop_i, pop_r, Int.reduceToNat, List.length_cons, List.length_nil, Nat.reduceAdd, Nat.reduceLeDiff, Nat.zero_add, true_and, nI_n0, nat_le, Nat.add_zero, rt_vr_thirst, x_al0, x_call, x_getf, x_goto, x_ifeq, x_il1, x_iret, x_m1, bI_0]
  cases h2 : townB w t
  · rw [h2, if_neg Bool.false_ne_true] at H
    simp -implicitDefEqProofs (disch := first | assumption | omega) only [↓reduceIte, b_vr_thirst_29, b_vr_thirst_30, szS_0, szS_i, szS_r, szS_l, x_cons, x_goto, ob_some, kl_i, kl_r, kl_l, kl_n, push_n, push_s, pop_0, pop_i, pop_r, Int.reduceToNat, List.length_cons, List.length_nil, Nat.reduceAdd, Nat.reduceLeDiff, Nat.zero_add, true_and, nI_n0, nat_le, Nat.add_zero, rt_vr_thirst, x_al0, x_call, x_getf, x_goto, x_ifeq, x_il1, x_iret, x_m1]
    exact H g fQ_r
  · obtain ⟨t', ht, rfl, hs⟩ := townB_ex hw h2
    have h0 := wi_n hw
    rw [h2, if_pos rfl, ix_nI (by omega)] at H
    simp -implicitDefEqProofs (disch := first | assumption | omega) only [Bool.true_eq_false, ↓reduceIte, szS_0, szS_i, szS_r, szS_l, x_cons, x_goto, ob_some, kl_i, kl_r, kl_l, kl_n, push_n, push_s, pop_0, pop_i, pop_r, Int.reduceToNat, List.length_cons, List.length_nil, Nat.reduceAdd, Nat.reduceLeDiff, Nat.zero_add, true_and, nI_n0, nat_le, Nat.add_zero, rt_vr_thirst, x_al0, x_call, x_getf, x_goto, x_ifeq, x_il1, x_iret, x_m1, fd_0_0, fd_0_1, fd_0_2, fd_0_3, fd_0_4, fd_0_5, fd_0_6, fd_0_7, fd_0_8, fd_0_9, sf_0_9]
    refine s_firstThirst hw hc hK.1.2.2 hV hM hK.1.2.1 (by omega) fun g1 f1 l1 => ?_
    simp -implicitDefEqProofs (disch := first | assumption | omega) only [szS_0, szS_i, szS_r, szS_l, x_cons, x_goto, ob_some, kl_i, kl_r, kl_l, kl_n, push_n, push_s, pop_0, pop_i, pop_r, Int.reduceToNat, List.length_cons, List.length_nil, Nat.reduceAdd, Nat.reduceLeDiff, Nat.zero_add, true_and, nI_n0, nat_le, Nat.add_zero, rt_vr_thirst, x_al0, x_call, x_getf, x_goto, x_ifeq, x_il1, x_iret, x_m1, b_vr_thirst_30]
    exact H g1 (fD_Q f1 l1)
theorem s_vends (hK : Kc w V M pl im R g) (hw : WI w) (hV : LK w 0 okV V) (hM : LK w 1 okM M) {k : Int32} (H : ∀ g' q', fQ g g' → P (some (.int (endA V M w k))) (E g' q')) : callC (ev (d + 8)) vr_ends [.ref 0, .int k] (E g q) P := by
  refine in_vr_ends rfl ?_
  have hc := hK.1.1
  have hl := enF_l (W := fun n => thN V M n (th0 w)) 200 0
  obtain ⟨r, hr⟩ : ∃ r, enF (fun n => thN V M n (th0 w)) 200 0 = r := ⟨_, rfl⟩
  rw [hr] at hl
  have fq : ∀ g', (∀ b, b ≠ 182 → (b < 175 ∨ 181 < b) → (b < 61 ∨ 61 + 30 ≤ b) → g' b = g b) → CL 61 g' V M → fQ g g' := fun g' h l => ⟨fun b b1 b2 b3 b4 => h b (by omega) (by omega) (by omega), fun _ _ => ⟨l.1.2.2.2, l.2.1.2.2.2⟩⟩
  have go : (nI 0 ≤ k ∧ k ≤ nI 1) → wp (ev (d + 7)) P vr_ends 11 [some (.ref 0), some (.int k), none] [] (E g q) := by
    intro hk
    have eA : endA V M w k = if r.1 = 999 then -1 else if k = nI 0 then nI r.1 else nI (r.2 - r.1) := by
      unfold endA
      rw [if_pos (decide_eq_true hk), hr]
    rw [eA] at H
    rw [b_vr_ends_11]
    simp -implicitDefEqProofs (disch := first | assumption | omega) only [szS_0, szS_i, szS_r, szS_l, x_cons, x_goto, ob_some, kl_i, kl_r, kl_l, kl_n, push_n, push_s, pop_0, pop_i, pop_r, Int.reduceToNat, List.length_cons, List.length_nil, Nat.reduceAdd, Nat.reduceLeDiff, Nat.zero_add, true_and, nI_n0, nat_le, Nat.add_zero, rt_vr_ends, x_al0, x_call, x_getf, x_goto, x_iceq, x_icne, x_ifeq, x_ifne, x_il1, x_il2, x_iret, x_is2, x_isub, x_ldc, x_m1, fd_0_0, fd_0_1, fd_0_2, fd_0_3, fd_0_4, fd_0_5, fd_0_6, fd_0_7, fd_0_8, fd_0_9, sf_0_9]
    refine s_roundEnd hw hc hK.1.2.2 hV hM hK.1.2.1 hr fun g1 q1 f1 l1 => ⟨fun h9 => ?_, fun h9 h3 => ?_⟩
    · rw [if_pos h9] at H
      have n11 : (-1 : Int32) = -1 := rfl
      simp -implicitDefEqProofs (disch := first | assumption | omega) only [szS_0, szS_i, szS_r, szS_l, x_cons, x_goto, ob_some, kl_i, kl_r, kl_l, kl_n, push_n, push_s, pop_0, pop_i, pop_r, Int.reduceToNat, List.length_cons, List.length_nil, Nat.reduceAdd, Nat.reduceLeDiff, Nat.zero_add, true_and, nI_n0, nat_le, Nat.add_zero, rt_vr_ends, x_al0, x_call, x_getf, x_goto, x_iceq, x_icne, x_ifeq, x_ifne, x_il1, x_il2, x_iret, x_is2, x_isub, x_ldc, x_m1, ↓reduceIte]
      exact H g1 q1 (fq g1 f1 l1)
    · rw [if_neg h9] at H
      have n2 := nI_m1 (a := r.2) (by omega)
      have hle := hl.2.resolve_left h9
      simp -implicitDefEqProofs (disch := first | assumption | omega) only [szS_0, szS_i, szS_r, szS_l, x_cons, x_goto, ob_some, kl_i, kl_r, kl_l, kl_n, push_n, push_s, pop_0, pop_i, pop_r, Int.reduceToNat, List.length_cons, List.length_nil, Nat.reduceAdd, Nat.reduceLeDiff, Nat.zero_add, true_and, nI_n0, nat_le, Nat.add_zero, rt_vr_ends, x_al0, x_call, x_getf, x_goto, x_iceq, x_icne, x_ifeq, x_ifne, x_il1, x_il2, x_iret, x_is2, x_isub, x_ldc, x_m1, n2, ↓reduceIte, b_vr_ends_30]
      by_cases k0 : k = nI 0
      · rw [if_pos k0] at H
        simp -implicitDefEqProofs (disch := first | assumption | omega) only [k0, ↓reduceIte, szS_0, szS_i, szS_r, szS_l, x_cons, x_goto, ob_some, kl_i, kl_r, kl_l, kl_n, push_n, push_s, pop_0, pop_i, pop_r, Int.reduceToNat, List.length_cons, List.length_nil, Nat.reduceAdd, Nat.reduceLeDiff, Nat.zero_add, true_and, nI_n0, nat_le, Nat.add_zero, rt_vr_ends, x_al0, x_call, x_getf, x_goto, x_iceq, x_icne, x_ifeq, x_ifne, x_il1, x_il2, x_iret, x_is2, x_isub, x_ldc, x_m1, fd_0_0, fd_0_1, fd_0_2, fd_0_3, fd_0_4, fd_0_5, fd_0_6, fd_0_7, fd_0_8, fd_0_9, sf_0_9, fd_182_0, fd_182_1, fd_182_2, fd_182_3, sf_182_3, h3, b_vr_ends_53]
        exact H g1 q1 (fq g1 f1 l1)
      · rw [if_neg k0] at H
        simp -implicitDefEqProofs (disch := first | assumption | omega) only [k0, ↓reduceIte, szS_0, szS_i, szS_r, szS_l, x_cons, x_goto, ob_some, kl_i, kl_r, kl_l, kl_n, push_n, push_s, pop_0, pop_i, pop_r, Int.reduceToNat, List.length_cons, List.length_nil, Nat.reduceAdd, Nat.reduceLeDiff, Nat.zero_add, true_and, nI_n0, nat_le, Nat.add_zero, rt_vr_ends, x_al0, x_call, x_getf, x_goto, x_iceq, x_icne, x_ifeq, x_ifne, x_il1, x_il2, x_iret, x_is2, x_isub, x_ldc, x_m1, fd_0_0, fd_0_1, fd_0_2, fd_0_3, fd_0_4, fd_0_5, fd_0_6, fd_0_7, fd_0_8, fd_0_9, sf_0_9, fd_182_0, fd_182_1, fd_182_2, fd_182_3, sf_182_3, h3, b_vr_ends_44, b_vr_ends_53, nI_sub]
        exact H g1 q1 (fq g1 f1 l1)
  have n10 : (nI 1 = nI 0) = False := eq_false (by decide)
  rw [b_vr_ends_0]
  by_cases k0 : k = nI 0
  · subst k0
    simp -implicitDefEqProofs (disch := first | assumption | omega) only [szS_0, szS_i, szS_r, szS_l, x_cons, x_goto, ob_some, kl_i, kl_r, kl_l, kl_n, push_n, push_s, pop_0, pop_i, pop_r, Int.reduceToNat, List.length_cons, List.length_nil, Nat.reduceAdd, Nat.reduceLeDiff, Nat.zero_add, true_and, nI_n0, nat_le, Nat.add_zero, rt_vr_ends, x_al0, x_call, x_getf, x_goto, x_iceq, x_icne, x_ifeq, x_ifne, x_il1, x_il2, x_iret, x_is2, x_isub, x_ldc, x_m1, ↓reduceIte]
    exact go ⟨by decide, by decide⟩
  · by_cases k1 : k = nI 1
    · subst k1
      simp -implicitDefEqProofs (disch := first | assumption | omega) only [szS_0, szS_i, szS_r, szS_l, x_cons, x_goto, ob_some, kl_i, kl_r, kl_l, kl_n, push_n, push_s, pop_0, pop_i, pop_r, Int.reduceToNat, List.length_cons, List.length_nil, Nat.reduceAdd, Nat.reduceLeDiff, Nat.zero_add, true_and, nI_n0, nat_le, Nat.add_zero, rt_vr_ends, x_al0, x_call, x_getf, x_goto, x_iceq, x_icne, x_ifeq, x_ifne, x_il1, x_il2, x_iret, x_is2, x_isub, x_ldc, x_m1, n10, ↓reduceIte]
      exact go ⟨by decide, by decide⟩
    · have hno : ¬ (nI 0 ≤ k ∧ k ≤ nI 1) := fun h => by
        obtain ⟨k', hk, rfl⟩ := int_is h (by decide)
        have : k' = 0 ∨ k' = 1 := by omega
        rcases this with rfl | rfl
        · exact k0 rfl
        · exact k1 rfl
      have eA : endA V M w k = -1 := by
        unfold endA
        rw [decide_eq_false hno, if_neg Bool.false_ne_true]
      rw [eA] at H
      simp -implicitDefEqProofs (disch := first | assumption | omega) only [szS_0, szS_i, szS_r, szS_l, x_cons, x_goto, ob_some, kl_i, kl_r, kl_l, kl_n, push_n, push_s, pop_0, pop_i, pop_r, Int.reduceToNat, List.length_cons, List.length_nil, Nat.reduceAdd, Nat.reduceLeDiff, Nat.zero_add, true_and, nI_n0, nat_le, Nat.add_zero, rt_vr_ends, x_al0, x_call, x_getf, x_goto, x_iceq, x_icne, x_ifeq, x_ifne, x_il1, x_il2, x_iret, x_is2, x_isub, x_ldc, x_m1, k0, k1, ↓reduceIte]
      exact H g q fQ_r
end CB
