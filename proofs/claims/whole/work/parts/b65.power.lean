/-! power at a fork -/
/-- of the sets of the chosen below n: how many are so, s beside -/
def NS (v : Nat → Nat) (p : Nat → Bool) (C : Nat → Bool) : Nat → Nat → Nat
  | 0, s => if C s = true then 1 else 0
  | n + 1, s => if p n = true then NS v p C n s + NS v p C n (s + v n) else NS v p C n s
/-- of the sets of the first n -/
def NL (U : Nat → Nat) (C : Nat → Bool) : Nat → Nat → Nat
  | 0, s => if C s = true then 1 else 0
  | n + 1, s => NL U C n s + NL U C n (s + U n)
theorem NL_c {U U' : Nat → Nat} {C : Nat → Bool} : ∀ (n s : Nat), (∀ i, i < n → U' i = U i) → NL U' C n s = NL U C n s
  | 0, _, _ => rfl
  | n + 1, s, h => by
    unfold NL
    rw [NL_c n s fun i hi => h i (by omega), h n (by omega), NL_c n _ fun i hi => h i (by omega)]
theorem NS_p {v : Nat → Nat} {p p' : Nat → Bool} {C : Nat → Bool} : ∀ (n s : Nat), (∀ i, i < n → p' i = p i) → NS v p' C n s = NS v p C n s
  | 0, _, _ => rfl
  | n + 1, s, h => by
    unfold NS
    rw [NS_p n s fun i hi => h i (by omega), h n (by omega), NS_p n _ fun i hi => h i (by omega)]
theorem NL_l {U : Nat → Nat} {C : Nat → Bool} : ∀ (n s : Nat), NL U C n s ≤ 2 ^ n
  | 0, s => by
    unfold NL
    split <;> omega
  | n + 1, s => by
    have h1 := NL_l (U := U) (C := C) n s
    have h2 := NL_l (U := U) (C := C) n (s + U n)
    unfold NL
    omega
theorem NS_l {v : Nat → Nat} {p C : Nat → Bool} : ∀ (n s : Nat), NS v p C n s ≤ 2 ^ n
  | 0, s => by
    unfold NS
    split <;> omega
  | n + 1, s => by
    have h1 := NS_l (v := v) (p := p) (C := C) n s
    have h2 := NS_l (v := v) (p := p) (C := C) n (s + v n)
    unfold NS
    split <;> omega
/-- the sum of a set's first k, from n on -/
def tau (U : Nat → Nat) (A n : Nat) : Nat → Nat
  | 0 => 0
  | i + 1 => tau U A n i + (if n ≤ i ∧ A.testBit i = true then U i else 0)
theorem tau_c {U : Nat → Nat} {A B n : Nat} : ∀ k, (∀ i, n ≤ i → A.testBit i = B.testBit i) → tau U A n k = tau U B n k
  | 0, _ => rfl
  | k + 1, h => by
    unfold tau
    rw [tau_c k h]
    by_cases e : n ≤ k
    · rw [h k e]
    · rw [if_neg fun h => e h.1, if_neg fun h => e h.1]
theorem tau_s {U : Nat → Nat} {A n : Nat} : ∀ k, n < k → tau U A n k = tau U A (n + 1) k + (if A.testBit n = true then U n else 0)
  | 0, h => absurd h (Nat.not_lt_zero _)
  | k + 1, h => by
    unfold tau
    by_cases e : n = k
    · subst e
      have h0 : ∀ j, j ≤ n → tau U A n j = tau U A (n + 1) j := by
        intro j
        induction j with
        | zero => exact fun _ => rfl
        | succ j ih =>
          intro hj
          unfold tau
          rw [ih (by omega), if_neg fun h => by omega, if_neg fun h => by omega]
      have e2 : ¬ (n + 1 ≤ n ∧ A.testBit n = true) := fun h => by omega
      rw [h0 n (Nat.le_refl _), if_neg e2]
      by_cases hb : A.testBit n = true
      · have e1 : n ≤ n ∧ A.testBit n = true := ⟨Nat.le_refl _, hb⟩
        rw [if_pos e1, if_pos hb]
        omega
      · have e1 : ¬ (n ≤ n ∧ A.testBit n = true) := fun h => hb h.2
        rw [if_neg e1, if_neg hb]
    · rw [tau_s k (by omega)]
      by_cases hb : A.testBit k = true
      · have e1 : n ≤ k ∧ A.testBit k = true := ⟨by omega, hb⟩
        have e2 : n + 1 ≤ k ∧ A.testBit k = true := ⟨by omega, hb⟩
        rw [if_pos e1, if_pos e2]
        omega
      · have e1 : ¬ (n ≤ k ∧ A.testBit k = true) := fun h => hb h.2
        have e2 : ¬ (n + 1 ≤ k ∧ A.testBit k = true) := fun h => hb h.2
        rw [if_neg e1, if_neg e2]
        omega
theorem tau_l {U : Nat → Nat} {A n : Nat} : ∀ k, tau U A n k ≤ sm U k
  | 0 => Nat.le_refl _
  | k + 1 => by
    have := tau_l (U := U) (A := A) (n := n) k
    show tau U A n k + _ ≤ sm U k + U k
    split <;> omega
/-- trailing zeros: the number that the library makes first -/
theorem ntz_b {x k m : Nat} (hx : x = 2 ^ k * (2 * m + 1)) (hl : x < 2147483648) : (nI x ^^^ -1) &&& (nI x - nI 1) = nI (2 ^ k - 1) := by
  have hp : 0 < 2 ^ k := Nat.two_pow_pos k
  have h1 : 1 ≤ x := by
    rw [hx]
    exact Nat.mul_pos hp (by omega)
  rw [nI_sub h1]
  refine Int32.toBitVec_inj.mp ?_
  show ((nI x).toBitVec ^^^ (-1 : Int32).toBitVec) &&& (nI (x - 1)).toBitVec = (nI (2 ^ k - 1)).toBitVec
  rw [nI_bv, nI_bv, nI_bv]
  refine BitVec.eq_of_getLsbD_eq fun i hi => ?_
  have hm1 : (-1 : Int32).toBitVec = BitVec.allOnes 32 := by decide
  rw [BitVec.getLsbD_and, BitVec.getLsbD_xor, hm1, BitVec.getLsbD_allOnes, BitVec.getLsbD_ofNat, BitVec.getLsbD_ofNat, BitVec.getLsbD_ofNat, decide_eq_true hi, Bool.true_and, Bool.true_and, Bool.true_and, Nat.testBit_two_pow_sub_one]
  have e1 : x = 2 ^ k * (2 * m + 1) + 0 := by omega
  have e2 : x - 1 = 2 ^ k * (2 * m) + (2 ^ k - 1) := by
    rw [hx, Nat.mul_add, Nat.mul_one]
    omega
  rw [e2, Nat.testBit_two_pow_mul_add _ (by omega)]
  rw [e1, Nat.testBit_two_pow_mul_add _ hp]
  by_cases h : i < k
  · rw [if_pos h, if_pos h, Nat.zero_testBit, Nat.testBit_two_pow_sub_one, decide_eq_true h]
    rfl
  · rw [if_neg h, if_neg h, decide_eq_false h]
    by_cases h2 : i - k = 0
    · rw [h2]
      have a1 : (2 * m + 1).testBit 0 = true := by
        rw [Nat.testBit_zero]
        exact decide_eq_true (by omega)
      have a2 : (2 * m).testBit 0 = false := by
        rw [Nat.testBit_zero]
        exact decide_eq_false (by omega)
      rw [a1, a2]
      rfl
    · obtain ⟨j, hj⟩ : ∃ j, i - k = j + 1 := ⟨i - k - 1, by omega⟩
      rw [hj, Nat.testBit_succ, Nat.testBit_succ, show (2 * m + 1) / 2 = m by omega, show 2 * m / 2 = m by omega]
      cases m.testBit j <;> rfl
theorem ush_n {n k : Nat} (hk : k < 32) (hn : n < 2147483648) : ((nI n).toUInt32 >>> ((nI k).toUInt32 &&& Int32.toUInt32 31)).toInt32 = nI (n >>> k) := by
  refine Int32.toBitVec_inj.mp ?_
  show ((nI n).toUInt32 >>> ((nI k).toUInt32 &&& Int32.toUInt32 31)).toBitVec = _
  have : ((nI k).toUInt32 &&& Int32.toUInt32 31) = (nI k).toUInt32 := congrArg Int32.toUInt32 (sh_31 hk)
  rw [this]
  show (nI n).toBitVec >>> ((nI k).toBitVec % 32) = (nI (n >>> k)).toBitVec
  have e : ((nI k).toBitVec % 32).toNat = k := by
    rw [BitVec.toNat_umod, nI_bv, BitVec.toNat_ofNat]
    show k % 2 ^ 32 % (32 % 2 ^ 32) = k
    rw [Nat.mod_eq_of_lt (show k < 2 ^ 32 by omega)]
    exact Nat.mod_eq_of_lt (by omega)
  rw [BitVec.ushiftRight_eq', e, nI_bv, nI_bv]
  refine BitVec.eq_of_toNat_eq ?_
  rw [BitVec.toNat_ushiftRight, BitVec.toNat_ofNat, BitVec.toNat_ofNat, Nat.mod_eq_of_lt (show n < 2 ^ 32 by omega)]
  refine (Nat.mod_eq_of_lt ?_).symm
  rw [Nat.shiftRight_eq_div_pow]
  exact Nat.lt_of_le_of_lt (Nat.div_le_self _ _) (by omega)
section PW
variable {d : Nat} {g : Nat → Nat → Int32} {q : Nat → Nat → Int64} {P : QT} {w : Nat → Int32} {V M : LW} {h : Hp}
theorem s_ntz {x k m : Nat} (hk : k < 16) (hx : x = 2 ^ k * (2 * m + 1)) (hl : x < 2147483648) : callC (ev (d + 1)) ji_numberOfTrailingZeros [.int (nI x)] h P = P (some (.int (nI k))) h := by
  refine call_eq (in_ji_numberOfTrailingZeros rfl ?_)
  have hb := ntz_b hx hl
  clear hx hl
  rw [b_ji_numberOfTrailingZeros_0]
  simp -implicitDefEqProofs (disch := first | assumption | omega) only [szS_0, szS_i, szS_r, szS_l, x_cons, x_goto, ob_some, kl_i, kl_r, kl_l, kl_n, push_n, push_s, pop_0, pop_i, pop_r, Int.reduceToNat, List.length_cons, List.length_nil, Nat.reduceAdd, Nat.reduceLeDiff, Nat.zero_add, true_and, nI_n0, nat_le, Nat.add_zero, i_16, i_2, i_4, i_8, rt_ji_numberOfTrailingZeros, x_iadd, x_iand, x_icle, x_ifgt, x_il0, x_il1, x_inc1, x_iret, x_is0, x_is1, x_isub, x_iushr, x_ixor, x_ldc, x_m1, hb]
  have hk16 : k = 0 ∨ k = 1 ∨ k = 2 ∨ k = 3 ∨ k = 4 ∨ k = 5 ∨ k = 6 ∨ k = 7 ∨ k = 8 ∨ k = 9 ∨ k = 10 ∨ k = 11 ∨ k = 12 ∨ k = 13 ∨ k = 14 ∨ k = 15 := by omega
  clear hb
  rcases hk16 with rfl | rfl | rfl | rfl | rfl | rfl | rfl | rfl | rfl | rfl | rfl | rfl | rfl | rfl | rfl | rfl <;> simp -implicitDefEqProofs (disch := first | assumption | omega) only [szS_0, szS_i, szS_r, szS_l, x_cons, x_goto, ob_some, kl_i, kl_r, kl_l, kl_n, push_n, push_s, pop_0, pop_i, pop_r, Int.reduceToNat, List.length_cons, List.length_nil, Nat.reduceAdd, Nat.reduceLeDiff, Nat.zero_add, true_and, nI_n0, nat_le, Nat.add_zero, i_16, i_2, i_4, i_8, rt_ji_numberOfTrailingZeros, x_iadd, x_iand, x_icle, x_ifgt, x_il0, x_il1, x_inc1, x_iret, x_is0, x_is1, x_isub, x_iushr, x_ixor, x_ldc, x_m1, b_ji_numberOfTrailingZeros_17, b_ji_numberOfTrailingZeros_34, b_ji_numberOfTrailingZeros_49, b_ji_numberOfTrailingZeros_62, b_ji_numberOfTrailingZeros_74, ↓reduceIte, i_16, i_8, i_4, i_2, nI_leE, nI_ltE, ush_n, nI_add, nI_and, Nat.reduceLT, Nat.reducePow, Nat.reduceSub, Nat.reduceShiftRight, Nat.reduceAnd, Nat.reduceMul, and_true]
/-- whether a town is the one that turns it -/
def pwC (own all s : Nat) : Bool := decide (2 * s ≤ all) && decide (all < 2 * (s + own))
theorem tau_upd {U : Nat → Nat} {A B n m : Nat} (hm : m ≤ n) : ∀ k, n < k → (∀ i, i ≠ n → B.testBit i = A.testBit i) → tau U B m k + (if A.testBit n = true then U n else 0) = tau U A m k + (if B.testBit n = true then U n else 0)
  | 0, h, _ => absurd h (Nat.not_lt_zero _)
  | k + 1, h, he => by
    unfold tau
    by_cases e : n = k
    · subst e
      have h0 : ∀ j, j ≤ n → tau U B m j = tau U A m j := by
        intro j
        induction j with
        | zero => exact fun _ => rfl
        | succ j ih =>
          intro hj
          unfold tau
          rw [ih (by omega), he j (by omega)]
      rw [h0 n (Nat.le_refl _)]
      by_cases ha : A.testBit n = true
      · by_cases hb : B.testBit n = true
        · rw [if_pos ⟨hm, hb⟩, if_pos ha, if_pos ⟨hm, ha⟩, if_pos hb]
        · rw [if_neg fun h => hb h.2, if_pos ha, if_pos ⟨hm, ha⟩, if_neg hb]
          omega
      · by_cases hb : B.testBit n = true
        · rw [if_pos ⟨hm, hb⟩, if_neg ha, if_neg fun h => ha h.2, if_pos hb]
          omega
        · rw [if_neg fun h => hb h.2, if_neg ha, if_neg fun h => ha h.2, if_neg hb]
    · have := tau_upd (U := U) hm k (by omega) he
      rw [he k (fun h => e h.symm)]
      omega
theorem tau_0 {U : Nat → Nat} {n : Nat} : ∀ k, tau U 0 n k = 0
  | 0 => rfl
  | k + 1 => by
    unfold tau
    rw [tau_0 k, Nat.zero_testBit, if_neg fun h => Bool.false_ne_true h.2]
theorem xor_t {A n i : Nat} : (A ^^^ 2 ^ n).testBit i = (A.testBit i ^^ decide (n = i)) := by
  rw [Nat.testBit_xor, Nat.testBit_two_pow]
theorem gs_1 {U : Nat → Nat} {k own all : Nat} (hk : k ≤ 15) (hU : ∀ i, i < k → g 192 i = nI (U i)) (hs : sm U k + own ≤ 6000000) (hal : all ≤ 6000000) {n b A c : Nat} {o8 : Option Value} (hn : n < k) (hS : 2 ^ n * (2 * b + 1) < 2 ^ k) (hA : A < 2 ^ k)
    (H : ∀ o, wp (ev (d + 1)) P co_swings 23 [some (.ref 184), some (.int (nI k)), some (.int (nI own)), some (.int (nI all)), some (.int (nI (c + if pwC own all (tau U (A ^^^ 2 ^ n) 0 k) = true then 1 else 0))), some (.int (nI (A ^^^ 2 ^ n))), some (.int (nI (tau U (A ^^^ 2 ^ n) 0 k))), some (.int (nI (2 ^ n * (2 * b + 1) + 1))), o] [] (E g q)) :
    wp (ev (d + 1)) P co_swings 23 [some (.ref 184), some (.int (nI k)), some (.int (nI own)), some (.int (nI all)), some (.int (nI c)), some (.int (nI A)), some (.int (nI (tau U A 0 k))), some (.int (nI (2 ^ n * (2 * b + 1)))), o8] [] (E g q) := by
  have hp : (2 : Nat) ^ k ≤ 2 ^ 15 := Nat.pow_le_pow_right (by decide) hk
  have h15 : (2 : Nat) ^ 15 = 32768 := rfl
  have hA2 : A ^^^ 2 ^ n < 2 ^ k := Nat.xor_lt_two_pow hA (Nat.pow_lt_pow_right (by decide) hn)
  have hb2 : (A ^^^ 2 ^ n).testBit n = !A.testBit n := by
    rw [xor_t, decide_eq_true rfl]
    cases A.testBit n <;> rfl
  have hupd := tau_upd (U := U) (A := A) (B := A ^^^ 2 ^ n) (m := 0) (Nat.zero_le n) k hn fun i hi => by
    rw [xor_t, decide_eq_false fun h => hi h.symm, Bool.xor_false]
  have l1 := tau_l (U := U) (A := A) (n := 0) k
  have l2 := tau_l (U := U) (A := A ^^^ 2 ^ n) (n := 0) k
  obtain ⟨x, hx⟩ : ∃ x, x = 2 ^ n * (2 * b + 1) := ⟨_, rfl⟩
  rw [← hx] at hS H ⊢
  have fin : ∀ o, wp (ev (d + 1)) P co_swings 77 [some (.ref 184), some (.int (nI k)), some (.int (nI own)), some (.int (nI all)), some (.int (nI c)), some (.int (nI (A ^^^ 2 ^ n))), o, some (.int (nI x)), some (.int (nI n))] [.int (nI (tau U (A ^^^ 2 ^ n) 0 k)), .int (nI 0)] (E g q) → True := fun _ _ => trivial
  have go : ∀ v, nI (tau U A 0 k) + v = nI (tau U (A ^^^ 2 ^ n) 0 k) → wp (ev (d + 1)) P co_swings 77 [some (.ref 184), some (.int (nI k)), some (.int (nI own)), some (.int (nI all)), some (.int (nI c)), some (.int (nI (A ^^^ 2 ^ n))), some (.int (nI (tau U A 0 k))), some (.int (nI x)), some (.int (nI n))] [.int v, .int (nI (tau U A 0 k))] (E g q) := by
    intro v hv
    have HH := H (some (.int (nI n)))
    generalize tau U (A ^^^ 2 ^ n) 0 k = s at hv HH l2 ⊢
    rw [b_co_swings_77]
    simp -implicitDefEqProofs (disch := first | assumption | omega) only [szS_0, szS_i, szS_r, szS_l, x_cons, x_goto, ob_some, kl_i, kl_r, kl_l, kl_n, push_n, push_s, pop_0, pop_i, pop_r, Int.reduceToNat, List.length_cons, List.length_nil, Nat.reduceAdd, Nat.reduceLeDiff, Nat.zero_add, true_and, nI_n0, nat_le, Nat.add_zero, i_1, rt_co_swings, x_al0, x_call, x_getf, x_goto, x_iadd, x_iaload, x_icge, x_icgt, x_icle, x_ifeq, x_il1, x_il2, x_il3, x_il4, x_il5, x_il6, x_il7, x_il8, x_imul, x_inc4, x_inc7, x_ineg, x_iret, x_is4, x_is5, x_is6, x_is7, x_is8, x_ishl, x_ixor, x_ldc, hv, nI_mul, nI_add, nI_ltE]
    unfold pwC at HH
    by_cases c1 : all < 2 * s
    · rw [decide_eq_false (by omega), Bool.false_and, if_neg Bool.false_ne_true, Nat.add_zero] at HH
      rw [if_pos c1]
      try simp -implicitDefEqProofs (disch := first | assumption | omega) only [b_co_swings_101, szS_0, szS_i, szS_r, szS_l, x_cons, x_goto, ob_some, kl_i, kl_r, kl_l, kl_n, push_n, push_s, pop_0, pop_i, pop_r, Int.reduceToNat, List.length_cons, List.length_nil, Nat.reduceAdd, Nat.reduceLeDiff, Nat.zero_add, true_and, nI_n0, nat_le, Nat.add_zero, i_1, rt_co_swings, x_al0, x_call, x_getf, x_goto, x_iadd, x_iaload, x_icge, x_icgt, x_icle, x_ifeq, x_il1, x_il2, x_il3, x_il4, x_il5, x_il6, x_il7, x_il8, x_imul, x_inc4, x_inc7, x_ineg, x_iret, x_is4, x_is5, x_is6, x_is7, x_is8, x_ishl, x_ixor, x_ldc, nI_add]
      exact HH
    · rw [decide_eq_true (by omega), Bool.true_and] at HH
      rw [if_neg c1]
      try simp -implicitDefEqProofs (disch := first | assumption | omega) only [szS_0, szS_i, szS_r, szS_l, x_cons, x_goto, ob_some, kl_i, kl_r, kl_l, kl_n, push_n, push_s, pop_0, pop_i, pop_r, Int.reduceToNat, List.length_cons, List.length_nil, Nat.reduceAdd, Nat.reduceLeDiff, Nat.zero_add, true_and, nI_n0, nat_le, Nat.add_zero, i_1, rt_co_swings, x_al0, x_call, x_getf, x_goto, x_iadd, x_iaload, x_icge, x_icgt, x_icle, x_ifeq, x_il1, x_il2, x_il3, x_il4, x_il5, x_il6, x_il7, x_il8, x_imul, x_inc4, x_inc7, x_ineg, x_iret, x_is4, x_is5, x_is6, x_is7, x_is8, x_ishl, x_ixor, x_ldc, nI_mul, nI_add, nI_ltE]
      by_cases c2 : all < 2 * (s + own)
      · rw [decide_eq_true c2, if_pos rfl] at HH
        rw [if_pos c2]
        try simp -implicitDefEqProofs (disch := first | assumption | omega) only [b_co_swings_101, szS_0, szS_i, szS_r, szS_l, x_cons, x_goto, ob_some, kl_i, kl_r, kl_l, kl_n, push_n, push_s, pop_0, pop_i, pop_r, Int.reduceToNat, List.length_cons, List.length_nil, Nat.reduceAdd, Nat.reduceLeDiff, Nat.zero_add, true_and, nI_n0, nat_le, Nat.add_zero, i_1, rt_co_swings, x_al0, x_call, x_getf, x_goto, x_iadd, x_iaload, x_icge, x_icgt, x_icle, x_ifeq, x_il1, x_il2, x_il3, x_il4, x_il5, x_il6, x_il7, x_il8, x_imul, x_inc4, x_inc7, x_ineg, x_iret, x_is4, x_is5, x_is6, x_is7, x_is8, x_ishl, x_ixor, x_ldc, nI_add]
        exact HH
      · rw [decide_eq_false c2, if_neg Bool.false_ne_true, Nat.add_zero] at HH
        rw [if_neg c2]
        try simp -implicitDefEqProofs (disch := first | assumption | omega) only [b_co_swings_101, szS_0, szS_i, szS_r, szS_l, x_cons, x_goto, ob_some, kl_i, kl_r, kl_l, kl_n, push_n, push_s, pop_0, pop_i, pop_r, Int.reduceToNat, List.length_cons, List.length_nil, Nat.reduceAdd, Nat.reduceLeDiff, Nat.zero_add, true_and, nI_n0, nat_le, Nat.add_zero, i_1, rt_co_swings, x_al0, x_call, x_getf, x_goto, x_iadd, x_iaload, x_icge, x_icgt, x_icle, x_ifeq, x_il1, x_il2, x_il3, x_il4, x_il5, x_il6, x_il7, x_il8, x_imul, x_inc4, x_inc7, x_ineg, x_iret, x_is4, x_is5, x_is6, x_is7, x_is8, x_ishl, x_ixor, x_ldc, nI_add]
        exact HH
  rw [b_co_swings_23]
  simp -implicitDefEqProofs (disch := first | assumption | omega) only [szS_0, szS_i, szS_r, szS_l, x_cons, x_goto, ob_some, kl_i, kl_r, kl_l, kl_n, push_n, push_s, pop_0, pop_i, pop_r, Int.reduceToNat, List.length_cons, List.length_nil, Nat.reduceAdd, Nat.reduceLeDiff, Nat.zero_add, true_and, nI_n0, nat_le, Nat.add_zero, i_1, rt_co_swings, x_al0, x_call, x_getf, x_goto, x_iadd, x_iaload, x_icge, x_icgt, x_icle, x_ifeq, x_il1, x_il2, x_il3, x_il4, x_il5, x_il6, x_il7, x_il8, x_imul, x_inc4, x_inc7, x_ineg, x_iret, x_is4, x_is5, x_is6, x_is7, x_is8, x_ishl, x_ixor, x_ldc, nI_shl1, nI_ltE, hS, ↓reduceIte]
  rw [s_ntz (k := n) (m := b) (by omega) hx (by omega)]
  simp -implicitDefEqProofs (disch := first | assumption | omega) only [szS_0, szS_i, szS_r, szS_l, x_cons, x_goto, ob_some, kl_i, kl_r, kl_l, kl_n, push_n, push_s, pop_0, pop_i, pop_r, Int.reduceToNat, List.length_cons, List.length_nil, Nat.reduceAdd, Nat.reduceLeDiff, Nat.zero_add, true_and, nI_n0, nat_le, Nat.add_zero, i_1, rt_co_swings, x_al0, x_call, x_getf, x_goto, x_iadd, x_iaload, x_icge, x_icgt, x_icle, x_ifeq, x_il1, x_il2, x_il3, x_il4, x_il5, x_il6, x_il7, x_il8, x_imul, x_inc4, x_inc7, x_ineg, x_iret, x_is4, x_is5, x_is6, x_is7, x_is8, x_ishl, x_ixor, x_ldc, nI_shl1, nI_xor]
  rw [s_holds (by omega) (by omega), hb2]
  simp -implicitDefEqProofs (disch := first | assumption | omega) only [szS_0, szS_i, szS_r, szS_l, x_cons, x_goto, ob_some, kl_i, kl_r, kl_l, kl_n, push_n, push_s, pop_0, pop_i, pop_r, Int.reduceToNat, List.length_cons, List.length_nil, Nat.reduceAdd, Nat.reduceLeDiff, Nat.zero_add, true_and, nI_n0, nat_le, Nat.add_zero, i_1, rt_co_swings, x_al0, x_call, x_getf, x_goto, x_iadd, x_iaload, x_icge, x_icgt, x_icle, x_ifeq, x_il1, x_il2, x_il3, x_il4, x_il5, x_il6, x_il7, x_il8, x_imul, x_inc4, x_inc7, x_ineg, x_iret, x_is4, x_is5, x_is6, x_is7, x_is8, x_ishl, x_ixor, x_ldc, bI_0]
  have eU := hU n hn
  cases hb : A.testBit n
  · rw [hb2, hb] at hupd
    have hupd : tau U (A ^^^ 2 ^ n) 0 k + 0 = tau U A 0 k + U n := hupd
    simp -implicitDefEqProofs (disch := first | assumption | omega) only [Bool.not_false, Bool.true_eq_false, ↓reduceIte, szS_0, szS_i, szS_r, szS_l, x_cons, x_goto, ob_some, kl_i, kl_r, kl_l, kl_n, push_n, push_s, pop_0, pop_i, pop_r, Int.reduceToNat, List.length_cons, List.length_nil, Nat.reduceAdd, Nat.reduceLeDiff, Nat.zero_add, true_and, nI_n0, nat_le, Nat.add_zero, i_1, rt_co_swings, x_al0, x_call, x_getf, x_goto, x_iadd, x_iaload, x_icge, x_icgt, x_icle, x_ifeq, x_il1, x_il2, x_il3, x_il4, x_il5, x_il6, x_il7, x_il8, x_imul, x_inc4, x_inc7, x_ineg, x_iret, x_is4, x_is5, x_is6, x_is7, x_is8, x_ishl, x_ixor, x_ldc, fd_184_0, fd_184_1, fd_184_2, fd_184_3, fd_184_4, fd_184_5, fd_184_6, fd_184_7, sf_184_7, fd_184_8, sf_184_8, fd_184_9, fd_184_10, fd_184_11, ld_192, sd_192, ln_192, eU]
    exact go _ (by rw [nI_add, ← hupd, Nat.add_zero])
  · rw [hb2, hb] at hupd
    have hupd : tau U (A ^^^ 2 ^ n) 0 k + U n = tau U A 0 k + 0 := hupd
    simp -implicitDefEqProofs (disch := first | assumption | omega) only [Bool.not_true, ↓reduceIte, b_co_swings_69, szS_0, szS_i, szS_r, szS_l, x_cons, x_goto, ob_some, kl_i, kl_r, kl_l, kl_n, push_n, push_s, pop_0, pop_i, pop_r, Int.reduceToNat, List.length_cons, List.length_nil, Nat.reduceAdd, Nat.reduceLeDiff, Nat.zero_add, true_and, nI_n0, nat_le, Nat.add_zero, i_1, rt_co_swings, x_al0, x_call, x_getf, x_goto, x_iadd, x_iaload, x_icge, x_icgt, x_icle, x_ifeq, x_il1, x_il2, x_il3, x_il4, x_il5, x_il6, x_il7, x_il8, x_imul, x_inc4, x_inc7, x_ineg, x_iret, x_is4, x_is5, x_is6, x_is7, x_is8, x_ishl, x_ixor, x_ldc, fd_184_0, fd_184_1, fd_184_2, fd_184_3, fd_184_4, fd_184_5, fd_184_6, fd_184_7, sf_184_7, fd_184_8, sf_184_8, fd_184_9, fd_184_10, fd_184_11, ld_192, sd_192, ln_192, eU]
    exact go _ (by rw [nI_addn (by omega)]; exact congrArg nI (by omega))
theorem gr_lp {U : Nat → Nat} {k own all : Nat} (hk : k ≤ 15) (hU : ∀ i, i < k → g 192 i = nI (U i)) (hs : sm U k + own ≤ 6000000) (hal : all ≤ 6000000) : ∀ (n b A c : Nat) (o8 : Option Value), n ≤ k → b * 2 ^ n + 2 ^ n ≤ 2 ^ k → A < 2 ^ k →
    (∀ A' o, A' < 2 ^ k → (∀ i, n ≤ i → A'.testBit i = A.testBit i) → wp (ev (d + 1)) P co_swings 23 [some (.ref 184), some (.int (nI k)), some (.int (nI own)), some (.int (nI all)), some (.int (nI (c + NL U (pwC own all) n (tau U A n k)))), some (.int (nI A')), some (.int (nI (tau U A' 0 k))), some (.int (nI ((b + 1) * 2 ^ n))), o] [] (E g q)) →
    wp (ev (d + 1)) P co_swings 23 [some (.ref 184), some (.int (nI k)), some (.int (nI own)), some (.int (nI all)), some (.int (nI (c + if pwC own all (tau U A 0 k) = true then 1 else 0))), some (.int (nI A)), some (.int (nI (tau U A 0 k))), some (.int (nI (b * 2 ^ n + 1))), o8] [] (E g q) := by
  intro n
  induction n with
  | zero =>
    intro b A c o8 hn hb hA H
    have HH := H A o8 hA fun _ _ => rfl
    rw [show (b + 1) * 2 ^ 0 = b * 2 ^ 0 + 1 by omega] at HH
    exact HH
  | succ n ih =>
    intro b A c o8 hn hb hA H
    have hp : (2 : Nat) ^ (n + 1) = 2 * 2 ^ n := by rw [Nat.pow_succ]; omega
    have hp0 : 0 < (2 : Nat) ^ n := Nat.two_pow_pos n
    have e1 : b * (2 * 2 ^ n) = 2 * (b * 2 ^ n) := Nat.mul_left_comm _ _ _
    have e2 : 2 * b * 2 ^ n = 2 * (b * 2 ^ n) := Nat.mul_assoc _ _ _
    have e3 : (2 * b + 1) * 2 ^ n = 2 * (b * 2 ^ n) + 2 ^ n := by rw [Nat.add_mul, e2, Nat.one_mul]
    have e4 : (2 * b + 1 + 1) * 2 ^ n = 2 * (b * 2 ^ n) + 2 ^ n + 2 ^ n := by rw [Nat.add_mul, e3, Nat.one_mul]
    have e5 : (b + 1) * (2 * 2 ^ n) = 2 * (b * 2 ^ n) + 2 ^ n + 2 ^ n := by rw [Nat.add_mul, e1, Nat.one_mul]; omega
    have e6 : 2 ^ n * (2 * b + 1) = 2 * (b * 2 ^ n) + 2 ^ n := by rw [Nat.mul_comm, e3]
    rw [hp, e1] at hb
    have i1 := ih (2 * b) A c o8 (by omega) (by rw [e2]; omega) hA
    rw [hp, e1]
    rw [e2] at i1
    refine i1 fun A1 o1 hA1 h1 => ?_
    rw [e3, ← e6]
    refine gs_1 hk hU hs hal (n := n) (b := b) (by omega) (by rw [e6]; omega) hA1 fun o2 => ?_
    have hA2 : A1 ^^^ 2 ^ n < 2 ^ k := Nat.xor_lt_two_pow hA1 (Nat.pow_lt_pow_right (by decide) (by omega))
    have i2 := ih (2 * b + 1) (A1 ^^^ 2 ^ n) (c + NL U (pwC own all) n (tau U A n k)) o2 (by omega) (by rw [e3]; omega) hA2
    rw [e3] at i2
    rw [e6]
    refine i2 fun A3 o3 hA3 h3 => ?_
    have hh := H A3 o3 hA3 fun i hi => by
      rw [h3 i (by omega), xor_t, decide_eq_false (by omega), Bool.xor_false, h1 i (by omega)]
    rw [hp, e5] at hh
    rw [e4]
    have t1 : tau U A n k = tau U A (n + 1) k + (if A.testBit n = true then U n else 0) := tau_s k (by omega)
    have t2 : tau U (A1 ^^^ 2 ^ n) n k = tau U A (n + 1) k + (if A.testBit n = true then 0 else U n) := by
      rw [tau_s k (by omega), tau_c (A := A1 ^^^ 2 ^ n) (B := A) k fun i hi => by rw [xor_t, decide_eq_false (by omega), Bool.xor_false, h1 i (by omega)]]
      rw [xor_t, decide_eq_true rfl, h1 n (Nat.le_refl _)]
      cases A.testBit n <;> rfl
    have eN : c + NL U (pwC own all) n (tau U A n k) + NL U (pwC own all) n (tau U (A1 ^^^ 2 ^ n) n k) = c + NL U (pwC own all) (n + 1) (tau U A (n + 1) k) := by
      show _ = c + (NL U (pwC own all) n (tau U A (n + 1) k) + NL U (pwC own all) n (tau U A (n + 1) k + U n))
      rw [t1, t2]
      cases A.testBit n
      · simp only [Bool.false_eq_true, ↓reduceIte, Nat.add_zero]
        omega
      · simp only [↓reduceIte, Nat.add_zero]
        omega
    rw [eN]
    exact hh
theorem s_swings {U : Nat → Nat} {k own all : Nat} (hk : k ≤ 15) (hU : ∀ i, i < k → g 192 i = nI (U i)) (hs : sm U k + own ≤ 6000000) (hal : all ≤ 6000000) : callC (ev (d + 2)) co_swings [.ref 184, .int (nI k), .int (nI own), .int (nI all)] (E g q) P = P (some (.int (nI (NL U (pwC own all) k 0)))) (E g q) := by
  refine call_eq (in_co_swings rfl ?_)
  have hp : (2 : Nat) ^ k ≤ 2 ^ 15 := Nat.pow_le_pow_right (by decide) hk
  have h15 : (2 : Nat) ^ 15 = 32768 := rfl
  have hp0 : 0 < (2 : Nat) ^ k := Nat.two_pow_pos k
  have t0 : tau U 0 0 k = 0 := tau_0 k
  have st : wp (ev (d + 1)) (fun r1 h1 => r1 = some (.int (nI (NL U (pwC own all) k 0))) ∧ h1 = E g q) co_swings 23 [some (.ref 184), some (.int (nI k)), some (.int (nI own)), some (.int (nI all)), some (.int (nI (0 + if pwC own all 0 = true then 1 else 0))), some (.int (nI 0)), some (.int (nI 0)), some (.int (nI 1)), none] [] (E g q) := by
    have := gr_lp (d := d) (g := g) (q := q) (P := fun r1 h1 => r1 = some (.int (nI (NL U (pwC own all) k 0))) ∧ h1 = E g q) hk hU hs hal k 0 0 0 none (Nat.le_refl _) (by omega) hp0 fun A' o hA' _ => by
      have e : (0 + 1) * 2 ^ k = 2 ^ k := by omega
      rw [e, tau_0 k, Nat.zero_add, b_co_swings_23]
      simp -implicitDefEqProofs (disch := first | assumption | omega) only [szS_0, szS_i, szS_r, szS_l, x_cons, x_goto, ob_some, kl_i, kl_r, kl_l, kl_n, push_n, push_s, pop_0, pop_i, pop_r, Int.reduceToNat, List.length_cons, List.length_nil, Nat.reduceAdd, Nat.reduceLeDiff, Nat.zero_add, true_and, nI_n0, nat_le, Nat.add_zero, i_1, rt_co_swings, x_al0, x_call, x_getf, x_goto, x_iadd, x_iaload, x_icge, x_icgt, x_icle, x_ifeq, x_il1, x_il2, x_il3, x_il4, x_il5, x_il6, x_il7, x_il8, x_imul, x_inc4, x_inc7, x_ineg, x_iret, x_is4, x_is5, x_is6, x_is7, x_is8, x_ishl, x_ixor, x_ldc, nI_shl1, nI_ltE, Nat.lt_irrefl, ↓reduceIte, b_co_swings_107]
      all_goals first | rfl | exact ⟨rfl, rfl⟩ | exact ⟨rfl, trivial⟩ | exact ⟨trivial, rfl⟩ | trivial
    rw [t0, Nat.zero_mul] at this
    exact this
  rw [b_co_swings_0]
  simp -implicitDefEqProofs (disch := first | assumption | omega) only [szS_0, szS_i, szS_r, szS_l, x_cons, x_goto, ob_some, kl_i, kl_r, kl_l, kl_n, push_n, push_s, pop_0, pop_i, pop_r, Int.reduceToNat, List.length_cons, List.length_nil, Nat.reduceAdd, Nat.reduceLeDiff, Nat.zero_add, true_and, nI_n0, nat_le, Nat.add_zero, i_1, rt_co_swings, x_al0, x_call, x_getf, x_goto, x_iadd, x_iaload, x_icge, x_icgt, x_icle, x_ifeq, x_il1, x_il2, x_il3, x_il4, x_il5, x_il6, x_il7, x_il8, x_imul, x_inc4, x_inc7, x_ineg, x_iret, x_is4, x_is5, x_is6, x_is7, x_is8, x_ishl, x_ixor, x_ldc, nI_mul, nI_ltE]
  unfold pwC at st
  rw [decide_eq_true (by omega), Bool.true_and, Nat.zero_add, Nat.zero_add] at st
  by_cases c1 : all < 2 * own
  · rw [decide_eq_true c1, if_pos rfl] at st
    rw [if_pos c1]
    try simp -implicitDefEqProofs (disch := first | assumption | omega) only [szS_0, szS_i, szS_r, szS_l, x_cons, x_goto, ob_some, kl_i, kl_r, kl_l, kl_n, push_n, push_s, pop_0, pop_i, pop_r, Int.reduceToNat, List.length_cons, List.length_nil, Nat.reduceAdd, Nat.reduceLeDiff, Nat.zero_add, true_and, nI_n0, nat_le, Nat.add_zero, i_1, rt_co_swings, x_al0, x_call, x_getf, x_goto, x_iadd, x_iaload, x_icge, x_icgt, x_icle, x_ifeq, x_il1, x_il2, x_il3, x_il4, x_il5, x_il6, x_il7, x_il8, x_imul, x_inc4, x_inc7, x_ineg, x_iret, x_is4, x_is5, x_is6, x_is7, x_is8, x_ishl, x_ixor, x_ldc, b_co_swings_12]
    exact st
  · rw [decide_eq_false c1, if_neg Bool.false_ne_true] at st
    rw [if_neg c1]
    try simp -implicitDefEqProofs (disch := first | assumption | omega) only [b_co_swings_11, b_co_swings_12, szS_0, szS_i, szS_r, szS_l, x_cons, x_goto, ob_some, kl_i, kl_r, kl_l, kl_n, push_n, push_s, pop_0, pop_i, pop_r, Int.reduceToNat, List.length_cons, List.length_nil, Nat.reduceAdd, Nat.reduceLeDiff, Nat.zero_add, true_and, nI_n0, nat_le, Nat.add_zero, i_1, rt_co_swings, x_al0, x_call, x_getf, x_goto, x_iadd, x_iaload, x_icge, x_icgt, x_icle, x_ifeq, x_il1, x_il2, x_il3, x_il4, x_il5, x_il6, x_il7, x_il8, x_imul, x_inc4, x_inc7, x_ineg, x_iret, x_is4, x_is5, x_is6, x_is7, x_is8, x_ishl, x_ixor, x_ldc]
    exact st
end PW
/-- the towns that vote beside one at a fork -/
def pwq (w : Nat → Int32) (f t m : Nat) : Bool := decide (f < m ∧ fd w m 0 = 1 ∧ 1 ≤ abf w f m (am w f) ∧ m ≠ t ∧ 1 ≤ fd w m 10)
def pwv (w : Nat → Int32) (f t m : Nat) : Nat := if pwq w f t m = true then fd w m 10 else 0
def pwN (w : Nat → Int32) (f t : Nat) : Nat := NS (fun m => fd w m 10) (pwq w f t) (pwC (fd w t 10) (fd w t 10 + sm (pwv w f t) (nn w))) (nn w) 0
def pwB (w : Nat → Int32) (f t : Int32) : Bool := forkB w f && (townB w t && (decide (fd w (ix t) 10 ≠ 0) && decide (1 ≤ abf w (ix f) (ix t) (am w (ix f)))))
def pwA (w : Nat → Int32) (f t : Int32) : Int32 := if pwB w f t = true then nI (pwN w (ix f) (ix t)) else -1
theorem pwq_0 {w : Nat → Int32} {f t : Nat} : pwq w f t 0 = false := decide_eq_false fun h => by omega
theorem cnt_q {p : Nat → Bool} (h : p 0 = false) : ∀ n, cnt p n + 1 ≤ n + (if n = 0 then 1 else 0)
  | 0 => Nat.le_refl _
  | n + 1 => by
    have := cnt_q h n
    rw [cnt_s]
    by_cases e : n = 0
    · subst e
      rw [h]
      exact Nat.le_refl _
    · rw [if_neg e] at this
      rw [if_neg (Nat.succ_ne_zero n)]
      split <;> omega
theorem sumH_v {w : Nat → Int32} {p : Nat → Bool} {t : Nat} (hp : p t = false) : ∀ n, t < n → fd w t 10 + sm (fun m => if p m = true then fd w m 10 else 0) n ≤ sumH w n
  | 0, h => absurd h (Nat.not_lt_zero _)
  | n + 1, h => by
    have le : ∀ k, sm (fun m => if p m = true then fd w m 10 else 0) k ≤ sumH w k := by
      intro k
      induction k with
      | zero => exact Nat.le_refl _
      | succ k ih =>
        show sm _ k + (if p k = true then fd w k 10 else 0) ≤ sumH w k + fd w k 10
        split <;> omega
    show _ + (sm _ n + (if p n = true then fd w n 10 else 0)) ≤ sumH w n + fd w n 10
    by_cases e : t = n
    · subst e
      rw [hp, if_neg Bool.false_ne_true]
      have := le t
      omega
    · have := sumH_v (w := w) hp n (by omega)
      split <;> omega
section PX
variable {d : Nat} {g : Nat → Nat → Int32} {q : Nat → Nat → Int64} {P : QT} {w : Nat → Int32} {V M : LW}
theorem po_lp (hw : WI w) {f t : Nat} (hf : f < nn w) (ht : t < nn w) {g0 : Nat → Nat → Int32} (hc : Tc 1 w g0) (H : ∀ g' k U o, (∀ b, b ≠ 192 → g' b = g0 b) → k ≤ 15 → (∀ i, i < k → g' 192 i = nI (U i)) → sm U k = sm (pwv w f t) (nn w) → (∀ C s, NS (fun m => fd w m 10) (pwq w f t) C (nn w) s = NL U C k s) → wp (ev (d + 3)) P co_powerAt 140 [some (.ref 184), some (.ref 1), some (.int (nI f)), some (.int (nI t)), some (.ref 10), some (.int (nI (fd w t 10 + sm (pwv w f t) (nn w)))), some (.int (nI k)), some (.int (nI (nn w))), o] [] (E g' q)) :
    ∀ (j n k : Nat) (U : Nat → Nat) (g : Nat → Nat → Int32) (o : Option Value), n + j = nn w → f < n → k = cnt (pwq w f t) n → (∀ b, b ≠ 192 → g b = g0 b) → (∀ i, i < k → g 192 i = nI (U i)) → sm U k = sm (pwv w f t) n → (∀ C s, NS (fun m => fd w m 10) (pwq w f t) C n s = NL U C k s) →
    wp (ev (d + 3)) P co_powerAt 46 [some (.ref 184), some (.ref 1), some (.int (nI f)), some (.int (nI t)), some (.ref 10), some (.int (nI (fd w t 10 + sm (pwv w f t) n))), some (.int (nI k)), some (.int (nI n)), o] [] (E g q) := by
  have hN := wi_n hw
  intro j
  induction j with
  | zero =>
    intro n k U g o hn hfn hk hg hU hs hNS
    have hn : n = nn w := hn
    subst hn
    have hkl := cnt_q (pwq_0 (w := w) (f := f) (t := t)) (nn w)
    rw [if_neg (show ¬ nn w = 0 by omega)] at hkl
    have e1 : g 2 0 = nI (nn w) := by rw [hg _ (by decide)]; exact (tc_n hc).trans hN.1
    rw [b_co_powerAt_46]
    simp -implicitDefEqProofs (disch := first | assumption | omega) only [szS_0, szS_i, szS_r, szS_l, x_cons, x_goto, ob_some, kl_i, kl_r, kl_l, kl_n, push_n, push_s, pop_0, pop_i, pop_r, Int.reduceToNat, List.length_cons, List.length_nil, Nat.reduceAdd, Nat.reduceLeDiff, Nat.zero_add, true_and, nI_n0, nat_le, Nat.add_zero, i_1, rt_co_powerAt, x_aaload, x_al0, x_al1, x_al4, x_as4, x_call, x_getf, x_goto, x_iadd, x_iaload, x_iastore, x_iceq, x_icge, x_ifeq, x_ifle, x_ifne, x_il2, x_il3, x_il5, x_il6, x_il7, x_il8, x_inc6, x_inc7, x_iret, x_is5, x_is6, x_is7, x_is8, x_ldc, x_m1, fd_1_0, fd_1_1, fd_1_2, fd_1_3, fd_1_4, fd_2_0, sf_2_0, fd_2_1, fd_2_2, fd_2_3, fd_2_4, e1, nI_ltE, Nat.lt_irrefl, ↓reduceIte]
    exact H g k U o hg (by omega) hU hs hNS
  | succ j ih =>
    intro n k U g o hn hfn hk hg hU hs hNS
    have hn' : n < nn w := by omega
    have hn16 : n < 16 := by omega
    have e1 : g 2 0 = nI (nn w) := by rw [hg _ (by decide)]; exact (tc_n hc).trans hN.1
    have hcg : Tc 1 w g := Tc_c hc fun a a1 a2 => hg a (by omega)
    have hkl := cnt_q (pwq_0 (w := w) (f := f) (t := t)) n
    rw [if_neg (show ¬ n = 0 by omega)] at hkl
    have hy := (wi_y hw hn16).1
    have e10 : g 10 n = nI (fd w n 10) := (tc_t hcg hn16).1.trans hy.1
    have hab := abf_l (w := w) (f := f) (m := n) (n := am w f)
    have ha3 := am_le hw (n := f) (by omega)
    have es : sm (pwv w f t) (n + 1) = sm (pwv w f t) n + (if pwq w f t n = true then fd w n 10 else 0) := rfl
    have skip : ∀ o, pwq w f t n = false → wp (ev (d + 3)) P co_powerAt 134 [some (.ref 184), some (.ref 1), some (.int (nI f)), some (.int (nI t)), some (.ref 10), some (.int (nI (fd w t 10 + sm (pwv w f t) n))), some (.int (nI k)), some (.int (nI n)), o] [] (E g q) := by
      intro o hq
      rw [hq, if_neg Bool.false_ne_true, Nat.add_zero] at es
      have hi := ih (n + 1) k U g o (by omega) (by omega) (by rw [cnt_s, hq, if_neg Bool.false_ne_true, Nat.add_zero]; exact hk) hg hU (by rw [es]; exact hs) fun C s => by
        show (if pwq w f t n = true then _ else _) = _
        rw [hq, if_neg Bool.false_ne_true]
        exact hNS C s
      rw [es] at hi
      rw [b_co_powerAt_134]
      simp -implicitDefEqProofs (disch := first | assumption | omega) only [szS_0, szS_i, szS_r, szS_l, x_cons, x_goto, ob_some, kl_i, kl_r, kl_l, kl_n, push_n, push_s, pop_0, pop_i, pop_r, Int.reduceToNat, List.length_cons, List.length_nil, Nat.reduceAdd, Nat.reduceLeDiff, Nat.zero_add, true_and, nI_n0, nat_le, Nat.add_zero, i_1, rt_co_powerAt, x_aaload, x_al0, x_al1, x_al4, x_as4, x_call, x_getf, x_goto, x_iadd, x_iaload, x_iastore, x_iceq, x_icge, x_ifeq, x_ifle, x_ifne, x_il2, x_il3, x_il5, x_il6, x_il7, x_il8, x_inc6, x_inc7, x_iret, x_is5, x_is6, x_is7, x_is8, x_ldc, x_m1, nI_add]
      exact hi
    rw [b_co_powerAt_46]
    simp -implicitDefEqProofs (disch := first | assumption | omega) only [szS_0, szS_i, szS_r, szS_l, x_cons, x_goto, ob_some, kl_i, kl_r, kl_l, kl_n, push_n, push_s, pop_0, pop_i, pop_r, Int.reduceToNat, List.length_cons, List.length_nil, Nat.reduceAdd, Nat.reduceLeDiff, Nat.zero_add, true_and, nI_n0, nat_le, Nat.add_zero, i_1, rt_co_powerAt, x_aaload, x_al0, x_al1, x_al4, x_as4, x_call, x_getf, x_goto, x_iadd, x_iaload, x_iastore, x_iceq, x_icge, x_ifeq, x_ifle, x_ifne, x_il2, x_il3, x_il5, x_il6, x_il7, x_il8, x_inc6, x_inc7, x_iret, x_is5, x_is6, x_is7, x_is8, x_ldc, x_m1, fd_1_0, fd_1_1, fd_1_2, fd_1_3, fd_1_4, fd_2_0, sf_2_0, fd_2_1, fd_2_2, fd_2_3, fd_2_4, e1, nI_ltE, hn', ↓reduceIte]
    rw [s_cTown (t := 1) (by decide) hw hcg, townB_nI hw (by omega), decide_eq_true hn', Bool.true_and]
    simp -implicitDefEqProofs (disch := first | assumption | omega) only [szS_0, szS_i, szS_r, szS_l, x_cons, x_goto, ob_some, kl_i, kl_r, kl_l, kl_n, push_n, push_s, pop_0, pop_i, pop_r, Int.reduceToNat, List.length_cons, List.length_nil, Nat.reduceAdd, Nat.reduceLeDiff, Nat.zero_add, true_and, nI_n0, nat_le, Nat.add_zero, i_1, rt_co_powerAt, x_aaload, x_al0, x_al1, x_al4, x_as4, x_call, x_getf, x_goto, x_iadd, x_iaload, x_iastore, x_iceq, x_icge, x_ifeq, x_ifle, x_ifne, x_il2, x_il3, x_il5, x_il6, x_il7, x_il8, x_inc6, x_inc7, x_iret, x_is5, x_is6, x_is7, x_is8, x_ldc, x_m1, bI_0]
    by_cases c1 : fd w n 0 = 1
    · rw [decide_eq_true c1]
      simp -implicitDefEqProofs (disch := first | assumption | omega) only [Bool.true_eq_false, ↓reduceIte, szS_0, szS_i, szS_r, szS_l, x_cons, x_goto, ob_some, kl_i, kl_r, kl_l, kl_n, push_n, push_s, pop_0, pop_i, pop_r, Int.reduceToNat, List.length_cons, List.length_nil, Nat.reduceAdd, Nat.reduceLeDiff, Nat.zero_add, true_and, nI_n0, nat_le, Nat.add_zero, i_1, rt_co_powerAt, x_aaload, x_al0, x_al1, x_al4, x_as4, x_call, x_getf, x_goto, x_iadd, x_iaload, x_iastore, x_iceq, x_icge, x_ifeq, x_ifle, x_ifne, x_il2, x_il3, x_il5, x_il6, x_il7, x_il8, x_inc6, x_inc7, x_iret, x_is5, x_is6, x_is7, x_is8, x_ldc, x_m1, fd_1_0, fd_1_1, fd_1_2, fd_1_3, fd_1_4]
      rw [s_armsBefore (t := 1) (by decide) hw hcg (by omega) hn16]
      have n10 : (nI 1 = nI 0) = False := eq_false (by decide)
      simp -implicitDefEqProofs (disch := first | assumption | omega) only [szS_0, szS_i, szS_r, szS_l, x_cons, x_goto, ob_some, kl_i, kl_r, kl_l, kl_n, push_n, push_s, pop_0, pop_i, pop_r, Int.reduceToNat, List.length_cons, List.length_nil, Nat.reduceAdd, Nat.reduceLeDiff, Nat.zero_add, true_and, nI_n0, nat_le, Nat.add_zero, i_1, rt_co_powerAt, x_aaload, x_al0, x_al1, x_al4, x_as4, x_call, x_getf, x_goto, x_iadd, x_iaload, x_iastore, x_iceq, x_icge, x_ifeq, x_ifle, x_ifne, x_il2, x_il3, x_il5, x_il6, x_il7, x_il8, x_inc6, x_inc7, x_iret, x_is5, x_is6, x_is7, x_is8, x_ldc, x_m1, nI_leE]
      by_cases c2 : abf w f n (am w f) ≤ 0
      · rw [if_pos c2]
        try simp -implicitDefEqProofs (disch := first | assumption | omega) only [b_co_powerAt_87, b_co_powerAt_88, szS_0, szS_i, szS_r, szS_l, x_cons, x_goto, ob_some, kl_i, kl_r, kl_l, kl_n, push_n, push_s, pop_0, pop_i, pop_r, Int.reduceToNat, List.length_cons, List.length_nil, Nat.reduceAdd, Nat.reduceLeDiff, Nat.zero_add, true_and, nI_n0, nat_le, Nat.add_zero, i_1, rt_co_powerAt, x_aaload, x_al0, x_al1, x_al4, x_as4, x_call, x_getf, x_goto, x_iadd, x_iaload, x_iastore, x_iceq, x_icge, x_ifeq, x_ifle, x_ifne, x_il2, x_il3, x_il5, x_il6, x_il7, x_il8, x_inc6, x_inc7, x_iret, x_is5, x_is6, x_is7, x_is8, x_ldc, x_m1, ↓reduceIte]
        exact skip _ (decide_eq_false fun h => by omega)
      · rw [if_neg c2]
        try simp -implicitDefEqProofs (disch := first | assumption | omega) only [b_co_powerAt_88, szS_0, szS_i, szS_r, szS_l, x_cons, x_goto, ob_some, kl_i, kl_r, kl_l, kl_n, push_n, push_s, pop_0, pop_i, pop_r, Int.reduceToNat, List.length_cons, List.length_nil, Nat.reduceAdd, Nat.reduceLeDiff, Nat.zero_add, true_and, nI_n0, nat_le, Nat.add_zero, i_1, rt_co_powerAt, x_aaload, x_al0, x_al1, x_al4, x_as4, x_call, x_getf, x_goto, x_iadd, x_iaload, x_iastore, x_iceq, x_icge, x_ifeq, x_ifle, x_ifne, x_il2, x_il3, x_il5, x_il6, x_il7, x_il8, x_inc6, x_inc7, x_iret, x_is5, x_is6, x_is7, x_is8, x_ldc, x_m1, n10, ↓reduceIte, nI_eqE]
        by_cases c3 : n = t
        · rw [if_pos c3]
          exact skip _ (decide_eq_false fun h => h.2.2.2.1 c3)
        · rw [if_neg c3]
          try simp -implicitDefEqProofs (disch := first | assumption | omega) only [szS_0, szS_i, szS_r, szS_l, x_cons, x_goto, ob_some, kl_i, kl_r, kl_l, kl_n, push_n, push_s, pop_0, pop_i, pop_r, Int.reduceToNat, List.length_cons, List.length_nil, Nat.reduceAdd, Nat.reduceLeDiff, Nat.zero_add, true_and, nI_n0, nat_le, Nat.add_zero, i_1, rt_co_powerAt, x_aaload, x_al0, x_al1, x_al4, x_as4, x_call, x_getf, x_goto, x_iadd, x_iaload, x_iastore, x_iceq, x_icge, x_ifeq, x_ifle, x_ifne, x_il2, x_il3, x_il5, x_il6, x_il7, x_il8, x_inc6, x_inc7, x_iret, x_is5, x_is6, x_is7, x_is8, x_ldc, x_m1, ld_10, sd_10, ln_10, e10, nI_leE]
          by_cases c4 : fd w n 10 ≤ 0
          · rw [if_pos c4]
            exact skip _ (decide_eq_false fun h => by omega)
          · rw [if_neg c4]
            have hq : pwq w f t n = true := decide_eq_true ⟨hfn, c1, by omega, c3, by omega⟩
            rw [hq, if_pos rfl] at es
            have hU2 : ∀ i, i < k → (fun i => if i = k then fd w n 10 else U i) i = U i := fun i hi => if_neg (by omega)
            have hi := fun o => ih (n + 1) (k + 1) (fun i => if i = k then fd w n 10 else U i) (upw g 192 (pu (g 192) k (nI (fd w n 10)))) o (by omega) (by omega) (by rw [cnt_s, hq, if_pos rfl, hk]) (fun b hb => by rw [upw_o hb]; exact hg b hb) (fun i hi => by
              rw [upw_s]
              show _ = nI (if i = k then fd w n 10 else U i)
              by_cases e : i = k
              · rw [if_pos e, e, pu_s]
              · rw [if_neg e, pu_n e]
                exact hU i (by omega)) (by
              show sm _ k + (if k = k then fd w n 10 else U k) = _
              rw [if_pos rfl, sm_c k hU2, hs, es]) fun C s => by
              show (if pwq w f t n = true then NS _ _ C n s + NS _ _ C n (s + fd w n 10) else _) = NL _ C k s + NL _ C k (s + (if k = k then fd w n 10 else U k))
              rw [hq, if_pos rfl, if_pos rfl, NL_c k s hU2, NL_c k _ hU2, hNS, hNS]
            rw [es, ← Nat.add_assoc] at hi
            try simp -implicitDefEqProofs (disch := first | assumption | omega) only [szS_0, szS_i, szS_r, szS_l, x_cons, x_goto, ob_some, kl_i, kl_r, kl_l, kl_n, push_n, push_s, pop_0, pop_i, pop_r, Int.reduceToNat, List.length_cons, List.length_nil, Nat.reduceAdd, Nat.reduceLeDiff, Nat.zero_add, true_and, nI_n0, nat_le, Nat.add_zero, i_1, rt_co_powerAt, x_aaload, x_al0, x_al1, x_al4, x_as4, x_call, x_getf, x_goto, x_iadd, x_iaload, x_iastore, x_iceq, x_icge, x_ifeq, x_ifle, x_ifne, x_il2, x_il3, x_il5, x_il6, x_il7, x_il8, x_inc6, x_inc7, x_iret, x_is5, x_is6, x_is7, x_is8, x_ldc, x_m1, fd_184_0, fd_184_1, fd_184_2, fd_184_3, fd_184_4, fd_184_5, fd_184_6, fd_184_7, sf_184_7, fd_184_8, sf_184_8, fd_184_9, fd_184_10, fd_184_11, ld_10, sd_10, ln_10, ld_192, sd_192, ln_192, e10, pu_g, upw_o, nI_add, b_co_powerAt_134]
            exact hi _
    · rw [decide_eq_false c1]
      simp -implicitDefEqProofs (disch := first | assumption | omega) only [↓reduceIte, b_co_powerAt_87, b_co_powerAt_88, szS_0, szS_i, szS_r, szS_l, x_cons, x_goto, ob_some, kl_i, kl_r, kl_l, kl_n, push_n, push_s, pop_0, pop_i, pop_r, Int.reduceToNat, List.length_cons, List.length_nil, Nat.reduceAdd, Nat.reduceLeDiff, Nat.zero_add, true_and, nI_n0, nat_le, Nat.add_zero, i_1, rt_co_powerAt, x_aaload, x_al0, x_al1, x_al4, x_as4, x_call, x_getf, x_goto, x_iadd, x_iaload, x_iastore, x_iceq, x_icge, x_ifeq, x_ifle, x_ifne, x_il2, x_il3, x_il5, x_il6, x_il7, x_il8, x_inc6, x_inc7, x_iret, x_is5, x_is6, x_is7, x_is8, x_ldc, x_m1]
      exact skip _ (decide_eq_false fun h => c1 h.2.1)
theorem s_powerAt (hw : WI w) (hc : Tc 1 w g) {f t : Nat} (hf : f < nn w) (ht : t < nn w) (H : ∀ g', fQ g g' → P (some (.int (if (decide (fd w t 10 ≠ 0) && decide (1 ≤ abf w f t (am w f))) = true then nI (pwN w f t) else -1))) (E g' q)) : callC (ev (d + 4)) co_powerAt [.ref 184, .ref 1, .int (nI f), .int (nI t)] (E g q) P := by
  refine in_co_powerAt rfl ?_
  have hN := wi_n hw
  have hy := (wi_y hw (n := t) (by omega)).1
  have e10 : g 10 t = nI (fd w t 10) := (tc_t hc (n := t) (by omega)).1.trans hy.1
  have hab := abf_l (w := w) (f := f) (m := t) (n := am w f)
  have ha3 := am_le hw (n := f) (by omega)
  have no : (decide (fd w t 10 ≠ 0) && decide (1 ≤ abf w f t (am w f))) = false → wp (ev (d + 3)) P co_powerAt 30 [some (.ref 184), some (.ref 1), some (.int (nI f)), some (.int (nI t)), some (.ref 10), none, none, none, none] [] (E g q) := by
    intro h
    rw [h, if_neg Bool.false_ne_true] at H
    rw [b_co_powerAt_30]
    simp -implicitDefEqProofs (disch := first | assumption | omega) only [szS_0, szS_i, szS_r, szS_l, x_cons, x_goto, ob_some, kl_i, kl_r, kl_l, kl_n, push_n, push_s, pop_0, pop_i, pop_r, Int.reduceToNat, List.length_cons, List.length_nil, Nat.reduceAdd, Nat.reduceLeDiff, Nat.zero_add, true_and, nI_n0, nat_le, Nat.add_zero, i_1, rt_co_powerAt, x_aaload, x_al0, x_al1, x_al4, x_as4, x_call, x_getf, x_goto, x_iadd, x_iaload, x_iastore, x_iceq, x_icge, x_ifeq, x_ifle, x_ifne, x_il2, x_il3, x_il5, x_il6, x_il7, x_il8, x_inc6, x_inc7, x_iret, x_is5, x_is6, x_is7, x_is8, x_ldc, x_m1]
    exact H g fQ_r
  rw [b_co_powerAt_0]
  simp -implicitDefEqProofs (disch := first | assumption | omega) only [szS_0, szS_i, szS_r, szS_l, x_cons, x_goto, ob_some, kl_i, kl_r, kl_l, kl_n, push_n, push_s, pop_0, pop_i, pop_r, Int.reduceToNat, List.length_cons, List.length_nil, Nat.reduceAdd, Nat.reduceLeDiff, Nat.zero_add, true_and, nI_n0, nat_le, Nat.add_zero, i_1, rt_co_powerAt, x_aaload, x_al0, x_al1, x_al4, x_as4, x_call, x_getf, x_goto, x_iadd, x_iaload, x_iastore, x_iceq, x_icge, x_ifeq, x_ifle, x_ifne, x_il2, x_il3, x_il5, x_il6, x_il7, x_il8, x_inc6, x_inc7, x_iret, x_is5, x_is6, x_is7, x_is8, x_ldc, x_m1, fd_1_0, fd_1_1, fd_1_2, fd_1_3, fd_1_4, fd_7_0, sf_7_0, fd_7_1, sf_7_1, fd_7_2, sf_7_2, fd_7_3, sf_7_3, fd_7_4, sf_7_4, fd_7_5, fd_7_6, fd_7_7, fd_7_8, fd_7_9, fd_7_10, ld_9_0, ld_9_1, ld_9_2, ld_9_3, ld_9_4, ld_9_5, ld_9_6, ld_9_7, ld_10, sd_10, ln_10, e10, nI_eqE]
  by_cases c1 : fd w t 10 = 0
  · rw [if_pos c1]
    exact no (by rw [decide_eq_false (fun h => h c1), Bool.false_and])
  · rw [if_neg c1]
    try simp -implicitDefEqProofs (disch := first | assumption | omega) only [szS_0, szS_i, szS_r, szS_l, x_cons, x_goto, ob_some, kl_i, kl_r, kl_l, kl_n, push_n, push_s, pop_0, pop_i, pop_r, Int.reduceToNat, List.length_cons, List.length_nil, Nat.reduceAdd, Nat.reduceLeDiff, Nat.zero_add, true_and, nI_n0, nat_le, Nat.add_zero, i_1, rt_co_powerAt, x_aaload, x_al0, x_al1, x_al4, x_as4, x_call, x_getf, x_goto, x_iadd, x_iaload, x_iastore, x_iceq, x_icge, x_ifeq, x_ifle, x_ifne, x_il2, x_il3, x_il5, x_il6, x_il7, x_il8, x_inc6, x_inc7, x_iret, x_is5, x_is6, x_is7, x_is8, x_ldc, x_m1, fd_1_0, fd_1_1, fd_1_2, fd_1_3, fd_1_4]
    rw [s_armsBefore (t := 1) (by decide) hw hc (by omega) (by omega)]
    simp -implicitDefEqProofs (disch := first | assumption | omega) only [szS_0, szS_i, szS_r, szS_l, x_cons, x_goto, ob_some, kl_i, kl_r, kl_l, kl_n, push_n, push_s, pop_0, pop_i, pop_r, Int.reduceToNat, List.length_cons, List.length_nil, Nat.reduceAdd, Nat.reduceLeDiff, Nat.zero_add, true_and, nI_n0, nat_le, Nat.add_zero, i_1, rt_co_powerAt, x_aaload, x_al0, x_al1, x_al4, x_as4, x_call, x_getf, x_goto, x_iadd, x_iaload, x_iastore, x_iceq, x_icge, x_ifeq, x_ifle, x_ifne, x_il2, x_il3, x_il5, x_il6, x_il7, x_il8, x_inc6, x_inc7, x_iret, x_is5, x_is6, x_is7, x_is8, x_ldc, x_m1, nI_eqE]
    by_cases c2 : abf w f t (am w f) = 0
    · rw [if_pos c2]
      exact no (by rw [decide_eq_false (p := 1 ≤ abf w f t (am w f)) (by omega), Bool.and_false])
    · rw [if_neg c2]
      rw [decide_eq_true (p := fd w t 10 ≠ 0) c1, decide_eq_true (p := 1 ≤ abf w f t (am w f)) (by omega), Bool.true_and, if_pos rfl] at H
      have hz : ∀ n, n ≤ f + 1 → cnt (pwq w f t) n = 0 ∧ sm (pwv w f t) n = 0 ∧ ∀ C s, NS (fun m => fd w m 10) (pwq w f t) C n s = NL (fun _ => 0) C 0 s := by
        intro n
        induction n with
        | zero => exact fun _ => ⟨rfl, rfl, fun _ _ => rfl⟩
        | succ n ih =>
          intro hn
          have hq : pwq w f t n = false := decide_eq_false fun h => by omega
          obtain ⟨i1, i2, i3⟩ := ih (by omega)
          refine ⟨by rw [cnt_s, i1, hq]; rfl, ?_, fun C s => ?_⟩
          · show sm _ n + (if pwq w f t n = true then _ else 0) = 0
            rw [i2, hq]
            rfl
          · show (if pwq w f t n = true then _ else _) = _
            rw [hq, if_neg Bool.false_ne_true]
            exact i3 C s
      have hz1 := hz (f + 1) (Nat.le_refl _)
      have hsum := sumH_v (w := w) (p := pwq w f t) (t := t) (decide_eq_false fun h => h.2.2.2.1 rfl) (nn w) ht
      have hs6 := WI_s hw
      have hsm := sumH_m (w := w) (n := nn w) (m := 16) (by omega)
      have hsum : fd w t 10 + sm (pwv w f t) (nn w) ≤ sumH w (nn w) := hsum
      rw [b_co_powerAt_32]
      simp -implicitDefEqProofs (disch := first | assumption | omega) only [szS_0, szS_i, szS_r, szS_l, x_cons, x_goto, ob_some, kl_i, kl_r, kl_l, kl_n, push_n, push_s, pop_0, pop_i, pop_r, Int.reduceToNat, List.length_cons, List.length_nil, Nat.reduceAdd, Nat.reduceLeDiff, Nat.zero_add, true_and, nI_n0, nat_le, Nat.add_zero, i_1, rt_co_powerAt, x_aaload, x_al0, x_al1, x_al4, x_as4, x_call, x_getf, x_goto, x_iadd, x_iaload, x_iastore, x_iceq, x_icge, x_ifeq, x_ifle, x_ifne, x_il2, x_il3, x_il5, x_il6, x_il7, x_il8, x_inc6, x_inc7, x_iret, x_is5, x_is6, x_is7, x_is8, x_ldc, x_m1, ld_10, sd_10, ln_10, e10, nI_add]
      have lp := po_lp (d := d) (q := q) (P := P) hw hf ht (g0 := g) hc (fun g1 k U o f1 hk hU hsU hNS => ?_) (nn w - (f + 1)) (f + 1) 0 (fun _ => 0) g none (by omega) (by omega) hz1.1.symm (fun _ _ => rfl) (fun i hi => absurd hi (Nat.not_lt_zero i)) (by rw [hz1.2.1]; rfl) hz1.2.2
      · rw [hz1.2.1, Nat.add_zero] at lp
        exact lp
      · have e10' : g1 10 t = nI (fd w t 10) := by rw [f1 10 (by decide)]; exact e10
        rw [b_co_powerAt_140]
        simp -implicitDefEqProofs (disch := first | assumption | omega) only [szS_0, szS_i, szS_r, szS_l, x_cons, x_goto, ob_some, kl_i, kl_r, kl_l, kl_n, push_n, push_s, pop_0, pop_i, pop_r, Int.reduceToNat, List.length_cons, List.length_nil, Nat.reduceAdd, Nat.reduceLeDiff, Nat.zero_add, true_and, nI_n0, nat_le, Nat.add_zero, i_1, rt_co_powerAt, x_aaload, x_al0, x_al1, x_al4, x_as4, x_call, x_getf, x_goto, x_iadd, x_iaload, x_iastore, x_iceq, x_icge, x_ifeq, x_ifle, x_ifne, x_il2, x_il3, x_il5, x_il6, x_il7, x_il8, x_inc6, x_inc7, x_iret, x_is5, x_is6, x_is7, x_is8, x_ldc, x_m1, ld_10, sd_10, ln_10, e10']
        rw [s_swings hk hU (by rw [hsU]; omega) (by omega)]
        simp -implicitDefEqProofs (disch := first | assumption | omega) only [szS_0, szS_i, szS_r, szS_l, x_cons, x_goto, ob_some, kl_i, kl_r, kl_l, kl_n, push_n, push_s, pop_0, pop_i, pop_r, Int.reduceToNat, List.length_cons, List.length_nil, Nat.reduceAdd, Nat.reduceLeDiff, Nat.zero_add, true_and, nI_n0, nat_le, Nat.add_zero, i_1, rt_co_powerAt, x_aaload, x_al0, x_al1, x_al4, x_as4, x_call, x_getf, x_goto, x_iadd, x_iaload, x_iastore, x_iceq, x_icge, x_ifeq, x_ifle, x_ifne, x_il2, x_il3, x_il5, x_il6, x_il7, x_il8, x_inc6, x_inc7, x_iret, x_is5, x_is6, x_is7, x_is8, x_ldc, x_m1]
        unfold pwN at H
        rw [hNS] at H
        exact H g1 <| fQ_mk fun b b1 b2 b4 => f1 b (by omega)
theorem s_vpower (hw : WI w) (hc : Tc 1 w g) {f t : Int32} (H : ∀ g', fQ g g' → P (some (.int (pwA w f t))) (E g' q)) : callC (ev (d + 5)) vr_power [.ref 0, .int f, .int t] (E g q) P := by
  refine in_vr_power rfl ?_
  have hN := wi_n hw
  unfold pwA at H
  have no : pwB w f t = false → wp (ev (d + 4)) P vr_power 28 [some (.ref 0), some (.int f), some (.int t)] [] (E g q) := by
    intro h
    rw [h, if_neg Bool.false_ne_true] at H
    rw [b_vr_power_28]
    simp -implicitDefEqProofs (disch := first | assumption | omega) only [szS_0, szS_i, szS_r, szS_l, x_cons, x_goto, ob_some, kl_i, kl_r, kl_l, kl_n, push_n, push_s, pop_0, pop_i, pop_r, Int.reduceToNat, List.length_cons, List.length_nil, Nat.reduceAdd, Nat.reduceLeDiff, Nat.zero_add, true_and, nI_n0, nat_le, Nat.add_zero, rt_vr_power, x_al0, x_call, x_getf, x_ifeq, x_ifne, x_il1, x_il2, x_iret, x_m1]
    exact H g fQ_r
  rw [b_vr_power_0]
  simp -implicitDefEqProofs (disch := first | assumption | omega) only [szS_0, szS_i, szS_r, szS_l, x_cons, x_goto, ob_some, kl_i, kl_r, kl_l, kl_n, push_n, push_s, pop_0, pop_i, pop_r, Int.reduceToNat, List.length_cons, List.length_nil, Nat.reduceAdd, Nat.reduceLeDiff, Nat.zero_add, true_and, nI_n0, nat_le, Nat.add_zero, rt_vr_power, x_al0, x_call, x_getf, x_ifeq, x_ifne, x_il1, x_il2, x_iret, x_m1, fd_0_0, fd_0_1, fd_0_2, fd_0_3, fd_0_4, fd_0_5, fd_0_6, fd_0_7, fd_0_8, fd_0_9, sf_0_9, fd_1_0, fd_1_1, fd_1_2, fd_1_3, fd_1_4]
  rw [s_cFork (t := 1) (by decide) hw hc]
  simp -implicitDefEqProofs (disch := first | assumption | omega) only [szS_0, szS_i, szS_r, szS_l, x_cons, x_goto, ob_some, kl_i, kl_r, kl_l, kl_n, push_n, push_s, pop_0, pop_i, pop_r, Int.reduceToNat, List.length_cons, List.length_nil, Nat.reduceAdd, Nat.reduceLeDiff, Nat.zero_add, true_and, nI_n0, nat_le, Nat.add_zero, rt_vr_power, x_al0, x_call, x_getf, x_ifeq, x_ifne, x_il1, x_il2, x_iret, x_m1, bI_0]
  cases h1 : forkB w f
  · simp -implicitDefEqProofs (disch := first | assumption | omega) only [↓reduceIte]
    exact no (by unfold pwB; rw [h1, Bool.false_and])
  · simp -implicitDefEqProofs (disch := first | assumption | omega) only [Bool.true_eq_false, ↓reduceIte, szS_0, szS_i, szS_r, szS_l, x_cons, x_goto, ob_some, kl_i, kl_r, kl_l, kl_n, push_n, push_s, pop_0, pop_i, pop_r, Int.reduceToNat, List.length_cons, List.length_nil, Nat.reduceAdd, Nat.reduceLeDiff, Nat.zero_add, true_and, nI_n0, nat_le, Nat.add_zero, rt_vr_power, x_al0, x_call, x_getf, x_ifeq, x_ifne, x_il1, x_il2, x_iret, x_m1, fd_0_0, fd_0_1, fd_0_2, fd_0_3, fd_0_4, fd_0_5, fd_0_6, fd_0_7, fd_0_8, fd_0_9, sf_0_9, fd_1_0, fd_1_1, fd_1_2, fd_1_3, fd_1_4]
    rw [s_cTown (t := 1) (by decide) hw hc]
    simp -implicitDefEqProofs (disch := first | assumption | omega) only [szS_0, szS_i, szS_r, szS_l, x_cons, x_goto, ob_some, kl_i, kl_r, kl_l, kl_n, push_n, push_s, pop_0, pop_i, pop_r, Int.reduceToNat, List.length_cons, List.length_nil, Nat.reduceAdd, Nat.reduceLeDiff, Nat.zero_add, true_and, nI_n0, nat_le, Nat.add_zero, rt_vr_power, x_al0, x_call, x_getf, x_ifeq, x_ifne, x_il1, x_il2, x_iret, x_m1, bI_0]
    cases h2 : townB w t
    · simp -implicitDefEqProofs (disch := first | assumption | omega) only [↓reduceIte, szS_0, szS_i, szS_r, szS_l, x_cons, x_goto, ob_some, kl_i, kl_r, kl_l, kl_n, push_n, push_s, pop_0, pop_i, pop_r, Int.reduceToNat, List.length_cons, List.length_nil, Nat.reduceAdd, Nat.reduceLeDiff, Nat.zero_add, true_and, nI_n0, nat_le, Nat.add_zero, rt_vr_power, x_al0, x_call, x_getf, x_ifeq, x_ifne, x_il1, x_il2, x_iret, x_m1]
      exact no (by unfold pwB; rw [h2, Bool.false_and, Bool.and_false])
    · obtain ⟨f', hf, rfl, hs⟩ := forkB_ex hw h1
      obtain ⟨t', ht, rfl, hts⟩ := townB_ex hw h2
      unfold pwB at H
      rw [h1, h2, Bool.true_and, Bool.true_and, ix_nI (by omega), ix_nI (by omega)] at H
      simp -implicitDefEqProofs (disch := first | assumption | omega) only [Bool.true_eq_false, ↓reduceIte, szS_0, szS_i, szS_r, szS_l, x_cons, x_goto, ob_some, kl_i, kl_r, kl_l, kl_n, push_n, push_s, pop_0, pop_i, pop_r, Int.reduceToNat, List.length_cons, List.length_nil, Nat.reduceAdd, Nat.reduceLeDiff, Nat.zero_add, true_and, nI_n0, nat_le, Nat.add_zero, rt_vr_power, x_al0, x_call, x_getf, x_ifeq, x_ifne, x_il1, x_il2, x_iret, x_m1]
      rw [b_vr_power_30]
      simp -implicitDefEqProofs (disch := first | assumption | omega) only [szS_0, szS_i, szS_r, szS_l, x_cons, x_goto, ob_some, kl_i, kl_r, kl_l, kl_n, push_n, push_s, pop_0, pop_i, pop_r, Int.reduceToNat, List.length_cons, List.length_nil, Nat.reduceAdd, Nat.reduceLeDiff, Nat.zero_add, true_and, nI_n0, nat_le, Nat.add_zero, rt_vr_power, x_al0, x_call, x_getf, x_ifeq, x_ifne, x_il1, x_il2, x_iret, x_m1, fd_0_0, fd_0_1, fd_0_2, fd_0_3, fd_0_4, fd_0_5, fd_0_6, fd_0_7, fd_0_8, fd_0_9, sf_0_9]
      refine s_powerAt hw hc hf ht fun g1 f1 => ?_
      simp -implicitDefEqProofs (disch := first | assumption | omega) only [szS_0, szS_i, szS_r, szS_l, x_cons, x_goto, ob_some, kl_i, kl_r, kl_l, kl_n, push_n, push_s, pop_0, pop_i, pop_r, Int.reduceToNat, List.length_cons, List.length_nil, Nat.reduceAdd, Nat.reduceLeDiff, Nat.zero_add, true_and, nI_n0, nat_le, Nat.add_zero, rt_vr_power, x_al0, x_call, x_getf, x_ifeq, x_ifne, x_il1, x_il2, x_iret, x_m1]
      exact H g1 f1
end PX
/-! the reference's -/
theorem hsF_or {w : Nat → Int32} {H n : Nat} (hb : H.testBit n = false) : ∀ k, hsF w (H ||| 2 ^ n) k = hsF w H k + (if n < k then fd w n 10 else 0)
  | 0 => by
    rw [if_neg (Nat.not_lt_zero n)]
    rfl
  | k + 1 => by
    unfold hsF
    rw [hsF_or hb k, bt_or]
    by_cases e : n = k
    · subst e
      rw [hb, decide_eq_true rfl, if_neg (Nat.lt_irrefl n), if_pos (Nat.lt_succ_self n)]
      rfl
    · rw [decide_eq_false e, Bool.or_false]
      by_cases e2 : n < k
      · have e3 : n < k + 1 := by omega
        rw [if_pos e2, if_pos e3]
        omega
      · have e3 : ¬ n < k + 1 := by omega
        rw [if_neg e2, if_neg e3]
        omega
/-- one less: the bits below the lowest -/
theorem sub1_t {Y n i : Nat} (h0 : ∀ i, i < n → Y.testBit i = false) (h1 : Y.testBit n = true) : (Y - 1).testBit i = if i < n then true else if i = n then false else Y.testBit i := by
  have hp : 0 < 2 ^ n := Nat.two_pow_pos n
  have hm : Y % 2 ^ n = 0 := by
    refine Nat.eq_of_testBit_eq fun j => ?_
    rw [Nat.testBit_mod_two_pow, Nat.zero_testBit]
    by_cases e : j < n
    · rw [h0 j e, Bool.and_false]
    · rw [decide_eq_false e, Bool.false_and]
  have hd := Nat.div_add_mod Y (2 ^ n)
  rw [hm, Nat.add_zero] at hd
  obtain ⟨b, hb⟩ : ∃ b, b = Y / 2 ^ n := ⟨_, rfl⟩
  rw [← hb] at hd
  have hb0 : b.testBit 0 = true := by
    have := h1
    rw [← hd, show 2 ^ n * b = 2 ^ n * b + 0 from rfl, Nat.testBit_two_pow_mul_add _ hp, if_neg (Nat.lt_irrefl n), Nat.sub_self] at this
    exact this
  rw [Nat.testBit_zero] at hb0
  have hb0 := of_decide_eq_true hb0
  obtain ⟨c, hc⟩ : ∃ c, b = 2 * c + 1 := ⟨b / 2, by omega⟩
  have e2 : Y - 1 = 2 ^ n * (2 * c) + (2 ^ n - 1) := by
    rw [← hd, hc, Nat.mul_add, Nat.mul_one]
    omega
  rw [e2, Nat.testBit_two_pow_mul_add _ (by omega)]
  by_cases e : i < n
  · rw [if_pos e, if_pos e, Nat.testBit_two_pow_sub_one, decide_eq_true e]
  · rw [if_neg e, if_neg e]
    by_cases e3 : i = n
    · rw [if_pos e3, e3, Nat.sub_self, Nat.testBit_zero]
      exact decide_eq_false (by omega)
    · obtain ⟨j, hj⟩ : ∃ j, i - n = j + 1 := ⟨i - n - 1, by omega⟩
      have e4 : Y.testBit i = b.testBit (i - n) := by
        rw [← hd, show 2 ^ n * b = 2 ^ n * b + 0 from rfl, Nat.testBit_two_pow_mul_add _ hp, if_neg e]
      rw [if_neg e3, e4, hj, hc, Nat.testBit_succ, Nat.testBit_succ, show (2 * c + 1) / 2 = c by omega, show 2 * c / 2 = c by omega]
theorem nI_clr {X Y t : Nat} (hX : X < 65536) (ht : t < 16) (hY : ∀ i, Y.testBit i = (X.testBit i && !decide (t = i))) : nI X &&& (nI (2 ^ t) ^^^ -1) = nI Y := by
  refine Int32.toBitVec_inj.mp ?_
  show (nI X).toBitVec &&& ((nI (2 ^ t)).toBitVec ^^^ (-1 : Int32).toBitVec) = (nI Y).toBitVec
  rw [nI_bv, nI_bv, nI_bv]
  refine BitVec.eq_of_getLsbD_eq fun i hi => ?_
  have hm1 : (-1 : Int32).toBitVec = BitVec.allOnes 32 := by decide
  rw [BitVec.getLsbD_and, BitVec.getLsbD_xor, hm1, BitVec.getLsbD_allOnes, BitVec.getLsbD_ofNat, BitVec.getLsbD_ofNat, BitVec.getLsbD_ofNat, decide_eq_true hi, Bool.true_and, Bool.true_and, Bool.true_and, Nat.testBit_two_pow, hY, Bool.xor_true]
section PY
variable {d : Nat} {g : Nat → Nat → Int32} {q : Nat → Nat → Int64} {P : QT} {w : Nat → Int32} {V M : LW}
/-- the set that comes behind a set -/
def nxS (M H : Nat) : Int32 := if H = 0 then -1 else nI ((H - 1) &&& M)
theorem sb_1 (hw : WI (g 197)) {f : Int32} {t M H c all own : Nat} {o7 : Option Value} (ht : t < 16) (hH : H < 65536) (hown : fd (g 197) t 10 = own) (hal : all ≤ 6000000) (K : ∀ o, wp (ev (d + 5)) P mo_power 127 [some (.ref 196), some (.int f), some (.int (nI t)), some (.int (nI M)), some (.int (nI all)), some (.int (nI (c + if pwC own all (hsF (g 197) H (nn (g 197))) = true then 1 else 0))), some (.int (nxS M H)), o] [] (E g q)) :
    wp (ev (d + 5)) P mo_power 127 [some (.ref 196), some (.int f), some (.int (nI t)), some (.int (nI M)), some (.int (nI all)), some (.int (nI c)), some (.int (nI H)), o7] [] (E g q) := by
  have hN := wi_n hw
  have h6 := WI_s hw
  have hl := hsF_l (w := g 197) (s := H) (nn (g 197))
  have hsm := sumH_m (w := g 197) (n := nn (g 197)) (m := 16) (by omega)
  have hy := (wi_y hw ht).1
  have hgl := sumH_g (w := g 197) (n := 16) (t := t) ht
  rw [hown] at hy hgl
  obtain ⟨s, hs⟩ : ∃ s, s = hsF (g 197) H (nn (g 197)) := ⟨_, rfl⟩
  rw [← hs] at hl K
  have ext : ∀ v, v = nI (c + if pwC own all s = true then 1 else 0) → wp (ev (d + 5)) P mo_power 173 [some (.ref 196), some (.int f), some (.int (nI t)), some (.int (nI M)), some (.int (nI all)), some (.int (nI c)), some (.int (nI H)), some (.int (nI s))] [.int (v - nI c), .int (nI c)] (E g q) := by
    intro v hv
    have e : nI c + (v - nI c) = v := by rw [Int32.add_comm, Int32.sub_add_cancel]
    rw [b_mo_power_173]
    simp -implicitDefEqProofs (disch := first | assumption | omega) only [szS_0, szS_i, szS_r, szS_l, x_cons, x_goto, ob_some, kl_i, kl_r, kl_l, kl_n, push_n, push_s, pop_0, pop_i, pop_r, Int.reduceToNat, List.length_cons, List.length_nil, Nat.reduceAdd, Nat.reduceLeDiff, Nat.zero_add, true_and, nI_n0, nat_le, Nat.add_zero, i_1, rt_mo_power, x_al0, x_call, x_getf, x_goto, x_iadd, x_iaload, x_iand, x_icge, x_icgt, x_icle, x_ifeq, x_iflt, x_ifne, x_il1, x_il2, x_il3, x_il4, x_il5, x_il6, x_il7, x_imul, x_inc4, x_iret, x_is3, x_is4, x_is5, x_is6, x_is7, x_ishl, x_ishr, x_isub, x_ixor, x_ldc, x_m1, e, nI_eqE]
    rw [hv]
    unfold nxS at K
    by_cases h0 : H = 0
    · rw [if_pos h0] at K
      rw [if_pos h0]
      try simp -implicitDefEqProofs (disch := first | assumption | omega) only [szS_0, szS_i, szS_r, szS_l, x_cons, x_goto, ob_some, kl_i, kl_r, kl_l, kl_n, push_n, push_s, pop_0, pop_i, pop_r, Int.reduceToNat, List.length_cons, List.length_nil, Nat.reduceAdd, Nat.reduceLeDiff, Nat.zero_add, true_and, nI_n0, nat_le, Nat.add_zero, i_1, rt_mo_power, x_al0, x_call, x_getf, x_goto, x_iadd, x_iaload, x_iand, x_icge, x_icgt, x_icle, x_ifeq, x_iflt, x_ifne, x_il1, x_il2, x_il3, x_il4, x_il5, x_il6, x_il7, x_imul, x_inc4, x_iret, x_is3, x_is4, x_is5, x_is6, x_is7, x_ishl, x_ishr, x_isub, x_ixor, x_ldc, x_m1, b_mo_power_191]
      exact K _
    · rw [if_neg h0] at K
      rw [if_neg h0]
      try simp -implicitDefEqProofs (disch := first | assumption | omega) only [b_mo_power_185, b_mo_power_191, szS_0, szS_i, szS_r, szS_l, x_cons, x_goto, ob_some, kl_i, kl_r, kl_l, kl_n, push_n, push_s, pop_0, pop_i, pop_r, Int.reduceToNat, List.length_cons, List.length_nil, Nat.reduceAdd, Nat.reduceLeDiff, Nat.zero_add, true_and, nI_n0, nat_le, Nat.add_zero, i_1, rt_mo_power, x_al0, x_call, x_getf, x_goto, x_iadd, x_iaload, x_iand, x_icge, x_icgt, x_icle, x_ifeq, x_iflt, x_ifne, x_il1, x_il2, x_il3, x_il4, x_il5, x_il6, x_il7, x_imul, x_inc4, x_iret, x_is3, x_is4, x_is5, x_is6, x_is7, x_ishl, x_ishr, x_isub, x_ixor, x_ldc, x_m1, nI_sub, nI_and]
      exact K _
  have hl0 : ¬ H < 0 := by omega
  rw [b_mo_power_127]
  simp -implicitDefEqProofs (disch := first | assumption | omega) only [szS_0, szS_i, szS_r, szS_l, x_cons, x_goto, ob_some, kl_i, kl_r, kl_l, kl_n, push_n, push_s, pop_0, pop_i, pop_r, Int.reduceToNat, List.length_cons, List.length_nil, Nat.reduceAdd, Nat.reduceLeDiff, Nat.zero_add, true_and, nI_n0, nat_le, Nat.add_zero, i_1, rt_mo_power, x_al0, x_call, x_getf, x_goto, x_iadd, x_iaload, x_iand, x_icge, x_icgt, x_icle, x_ifeq, x_iflt, x_ifne, x_il1, x_il2, x_il3, x_il4, x_il5, x_il6, x_il7, x_imul, x_inc4, x_iret, x_is3, x_is4, x_is5, x_is6, x_is7, x_ishl, x_ishr, x_isub, x_ixor, x_ldc, x_m1, nI_ltE, hl0, ↓reduceIte]
  rw [s_headsOf hw (by omega), ← hs]
  simp -implicitDefEqProofs (disch := first | assumption | omega) only [szS_0, szS_i, szS_r, szS_l, x_cons, x_goto, ob_some, kl_i, kl_r, kl_l, kl_n, push_n, push_s, pop_0, pop_i, pop_r, Int.reduceToNat, List.length_cons, List.length_nil, Nat.reduceAdd, Nat.reduceLeDiff, Nat.zero_add, true_and, nI_n0, nat_le, Nat.add_zero, i_1, rt_mo_power, x_al0, x_call, x_getf, x_goto, x_iadd, x_iaload, x_iand, x_icge, x_icgt, x_icle, x_ifeq, x_iflt, x_ifne, x_il1, x_il2, x_il3, x_il4, x_il5, x_il6, x_il7, x_imul, x_inc4, x_iret, x_is3, x_is4, x_is5, x_is6, x_is7, x_ishl, x_ishr, x_isub, x_ixor, x_ldc, x_m1, nI_mul, nI_ltE]
  have x0 : (nI 0 : Int32) = nI (c + 0) - nI c := by rw [Nat.add_zero, Int32.sub_self]; rfl
  have x1 : nI 1 = nI (c + 1) - nI c := by rw [nI_sub (by omega), Nat.add_sub_cancel_left]
  unfold pwC at ext
  by_cases c1 : all < 2 * s
  · rw [if_pos c1]
    try simp -implicitDefEqProofs (disch := first | assumption | omega) only [b_mo_power_172, szS_0, szS_i, szS_r, szS_l, x_cons, x_goto, ob_some, kl_i, kl_r, kl_l, kl_n, push_n, push_s, pop_0, pop_i, pop_r, Int.reduceToNat, List.length_cons, List.length_nil, Nat.reduceAdd, Nat.reduceLeDiff, Nat.zero_add, true_and, nI_n0, nat_le, Nat.add_zero, i_1, rt_mo_power, x_al0, x_call, x_getf, x_goto, x_iadd, x_iaload, x_iand, x_icge, x_icgt, x_icle, x_ifeq, x_iflt, x_ifne, x_il1, x_il2, x_il3, x_il4, x_il5, x_il6, x_il7, x_imul, x_inc4, x_iret, x_is3, x_is4, x_is5, x_is6, x_is7, x_ishl, x_ishr, x_isub, x_ixor, x_ldc, x_m1]
    rw [x0]
    exact ext _ (by rw [decide_eq_false (by omega), Bool.false_and, if_neg Bool.false_ne_true])
  · rw [if_neg c1]
    try simp -implicitDefEqProofs (disch := first | assumption | omega) only [szS_0, szS_i, szS_r, szS_l, x_cons, x_goto, ob_some, kl_i, kl_r, kl_l, kl_n, push_n, push_s, pop_0, pop_i, pop_r, Int.reduceToNat, List.length_cons, List.length_nil, Nat.reduceAdd, Nat.reduceLeDiff, Nat.zero_add, true_and, nI_n0, nat_le, Nat.add_zero, i_1, rt_mo_power, x_al0, x_call, x_getf, x_goto, x_iadd, x_iaload, x_iand, x_icge, x_icgt, x_icle, x_ifeq, x_iflt, x_ifne, x_il1, x_il2, x_il3, x_il4, x_il5, x_il6, x_il7, x_imul, x_inc4, x_iret, x_is3, x_is4, x_is5, x_is6, x_is7, x_ishl, x_ishr, x_isub, x_ixor, x_ldc, x_m1, s_own, hy.1, nI_add, nI_mul, nI_ltE]
    by_cases c2 : all < 2 * (s + own)
    · rw [if_pos c2]
      try simp -implicitDefEqProofs (disch := first | assumption | omega) only [szS_0, szS_i, szS_r, szS_l, x_cons, x_goto, ob_some, kl_i, kl_r, kl_l, kl_n, push_n, push_s, pop_0, pop_i, pop_r, Int.reduceToNat, List.length_cons, List.length_nil, Nat.reduceAdd, Nat.reduceLeDiff, Nat.zero_add, true_and, nI_n0, nat_le, Nat.add_zero, i_1, rt_mo_power, x_al0, x_call, x_getf, x_goto, x_iadd, x_iaload, x_iand, x_icge, x_icgt, x_icle, x_ifeq, x_iflt, x_ifne, x_il1, x_il2, x_il3, x_il4, x_il5, x_il6, x_il7, x_imul, x_inc4, x_iret, x_is3, x_is4, x_is5, x_is6, x_is7, x_ishl, x_ishr, x_isub, x_ixor, x_ldc, x_m1]
      rw [x1]
      exact ext _ (by rw [decide_eq_true (by omega), decide_eq_true c2, Bool.true_and, if_pos rfl])
    · rw [if_neg c2]
      try simp -implicitDefEqProofs (disch := first | assumption | omega) only [b_mo_power_172, szS_0, szS_i, szS_r, szS_l, x_cons, x_goto, ob_some, kl_i, kl_r, kl_l, kl_n, push_n, push_s, pop_0, pop_i, pop_r, Int.reduceToNat, List.length_cons, List.length_nil, Nat.reduceAdd, Nat.reduceLeDiff, Nat.zero_add, true_and, nI_n0, nat_le, Nat.add_zero, i_1, rt_mo_power, x_al0, x_call, x_getf, x_goto, x_iadd, x_iaload, x_iand, x_icge, x_icgt, x_icle, x_ifeq, x_iflt, x_ifne, x_il1, x_il2, x_il3, x_il4, x_il5, x_il6, x_il7, x_imul, x_inc4, x_iret, x_is3, x_is4, x_is5, x_is6, x_is7, x_ishl, x_ishr, x_isub, x_ixor, x_ldc, x_m1]
      rw [x0]
      exact ext _ (by rw [decide_eq_true (by omega), decide_eq_false c2, Bool.true_and, if_neg Bool.false_ne_true])
theorem sb_lp (hw : WI (g 197)) {f : Int32} {t M all own : Nat} {p : Nat → Bool} (ht : t < 16) (hown : fd (g 197) t 10 = own) (hal : all ≤ 6000000) (hM : M = bset p (nn (g 197))) : ∀ (n H c : Nat) (o7 : Option Value), n ≤ nn (g 197) → H < 65536 → (∀ i, i < n → H.testBit i = false) → (∀ i, H.testBit i = true → M.testBit i = true) →
    (∀ o, wp (ev (d + 5)) P mo_power 127 [some (.ref 196), some (.int f), some (.int (nI t)), some (.int (nI M)), some (.int (nI all)), some (.int (nI (c + NS (fun m => fd (g 197) m 10) p (pwC own all) n (hsF (g 197) H (nn (g 197)))))), some (.int (nxS M H)), o] [] (E g q)) →
    wp (ev (d + 5)) P mo_power 127 [some (.ref 196), some (.int f), some (.int (nI t)), some (.int (nI M)), some (.int (nI all)), some (.int (nI c)), some (.int (nI (H ||| bset p n))), o7] [] (E g q) := by
  have hN := wi_n hw
  intro n
  induction n with
  | zero =>
    intro H c o7 hn hH h0 hs K
    have e : H ||| bset p 0 = H := Nat.or_zero H
    rw [e]
    exact sb_1 hw ht hH hown hal K
  | succ n ih =>
    intro H c o7 hn hH h0 hs K
    have eB : bset p (n + 1) = bset p n ||| (if p n = true then 2 ^ n else 0) := rfl
    have eN : ∀ s, NS (fun m => fd (g 197) m 10) p (pwC own all) (n + 1) s = if p n = true then NS (fun m => fd (g 197) m 10) p (pwC own all) n s + NS (fun m => fd (g 197) m 10) p (pwC own all) n (s + fd (g 197) n 10) else NS (fun m => fd (g 197) m 10) p (pwC own all) n s := fun _ => rfl
    cases hp : p n
    · rw [eB, hp, if_neg Bool.false_ne_true, Nat.or_zero]
      refine ih H c o7 (by omega) hH (fun i hi => h0 i (by omega)) hs fun o => ?_
      have := K o
      rw [eN, hp, if_neg Bool.false_ne_true] at this
      exact this
    · have hb := h0 n (Nat.lt_succ_self n)
      have hMb : M.testBit n = true := by
        rw [hM, bset_t, decide_eq_true (by omega), hp]
        rfl
      have hH2 : H ||| 2 ^ n < 65536 := or_lt hH (by omega)
      have tb : ∀ i, (H ||| 2 ^ n).testBit i = (H.testBit i || decide (n = i)) := fun i => bt_or
      have e1 : H ||| bset p (n + 1) = (H ||| 2 ^ n) ||| bset p n := by
        rw [eB, hp, if_pos rfl, Nat.or_comm (bset p n), Nat.or_assoc]
      rw [e1]
      refine ih (H ||| 2 ^ n) c o7 (by omega) hH2 (fun i hi => by rw [tb, h0 i (by omega), decide_eq_false (by omega)]; rfl) (fun i hi => by
        rw [tb, Bool.or_eq_true] at hi
        rcases hi with hi | hi
        · exact hs i hi
        · have := of_decide_eq_true hi
          rw [← this]
          exact hMb) fun o => ?_
      have e2 : hsF (g 197) (H ||| 2 ^ n) (nn (g 197)) = hsF (g 197) H (nn (g 197)) + fd (g 197) n 10 := by
        rw [hsF_or hb, if_pos (by omega)]
      have e3 : nxS M (H ||| 2 ^ n) = nI (H ||| bset p n) := by
        have hne : H ||| 2 ^ n ≠ 0 := fun h => by
          have := tb n
          rw [h, Nat.zero_testBit, decide_eq_true rfl, Bool.or_true] at this
          cases this
        unfold nxS
        rw [if_neg hne]
        refine congrArg nI (Nat.eq_of_testBit_eq fun i => ?_)
        have eR : (H ||| bset p n).testBit i = (H.testBit i || (decide (i < n) && p i)) := by rw [Nat.testBit_or, bset_t]
        rw [Nat.testBit_and, sub1_t (n := n) (fun i hi => by rw [tb, h0 i (by omega), decide_eq_false (by omega)]; rfl) (by rw [tb, decide_eq_true rfl, Bool.or_true]), eR]
        by_cases c1 : i < n
        · rw [if_pos c1, Bool.true_and, h0 i (by omega), Bool.false_or, decide_eq_true c1, Bool.true_and, hM, bset_t, decide_eq_true (by omega), Bool.true_and]
        · rw [if_neg c1, decide_eq_false c1, Bool.false_and, Bool.or_false]
          by_cases c2 : i = n
          · rw [if_pos c2, c2, hb]
            rfl
          · rw [if_neg c2, tb, decide_eq_false (by omega), Bool.or_false]
            cases hi : H.testBit i
            · rfl
            · rw [hs i hi]
              rfl
      rw [e2, e3]
      refine ih H _ o (by omega) hH (fun i hi => h0 i (by omega)) hs fun o2 => ?_
      have := K o2
      rw [eN, hp, if_pos rfl] at this
      rw [Nat.add_assoc, Nat.add_comm (NS _ _ _ n (_ + _))]
      exact this
/-- towns without heads are left out -/
theorem pm_lp (hw : WI (g 197)) {f t : Int32} {ba : Nat → Bool} (hba : ∀ m, ba m = true → m < nn (g 197) ∧ fd (g 197) m 0 = 1) (H : wp (ev (d + 5)) P mo_power 106 [some (.ref 196), some (.int f), some (.int t), some (.int (nI (bset (fun m => ba m && decide (1 ≤ fd (g 197) m 10)) 16))), some (.int (nI (nn (g 197)))), none, none, none] [] (E g q)) : ∀ (j n : Nat), n + j = nn (g 197) →
    wp (ev (d + 5)) P mo_power 60 [some (.ref 196), some (.int f), some (.int t), some (.int (nI (bset (fun m => ba m && (decide (n ≤ m) || decide (1 ≤ fd (g 197) m 10))) 16))), some (.int (nI n)), none, none, none] [] (E g q) := by
  have hN := wi_n hw
  intro j
  induction j with
  | zero =>
    intro n hn
    have hn : n = nn (g 197) := hn
    have e : bset (fun m => ba m && (decide (n ≤ m) || decide (1 ≤ fd (g 197) m 10))) 16 = bset (fun m => ba m && decide (1 ≤ fd (g 197) m 10)) 16 := bset_c 16 fun m _ => by
      cases hb : ba m
      · rfl
      · rw [decide_eq_false (p := n ≤ m) (by have := (hba m hb).1; omega), Bool.false_or]
    rw [e, hn, b_mo_power_60]
    simp -implicitDefEqProofs (disch := first | assumption | omega) only [szS_0, szS_i, szS_r, szS_l, x_cons, x_goto, ob_some, kl_i, kl_r, kl_l, kl_n, push_n, push_s, pop_0, pop_i, pop_r, Int.reduceToNat, List.length_cons, List.length_nil, Nat.reduceAdd, Nat.reduceLeDiff, Nat.zero_add, true_and, nI_n0, nat_le, Nat.add_zero, i_1, rt_mo_power, x_al0, x_call, x_getf, x_goto, x_iadd, x_iaload, x_iand, x_icge, x_icgt, x_icle, x_ifeq, x_iflt, x_ifne, x_il1, x_il2, x_il3, x_il4, x_il5, x_il6, x_il7, x_imul, x_inc4, x_iret, x_is3, x_is4, x_is5, x_is6, x_is7, x_ishl, x_ishr, x_isub, x_ixor, x_ldc, x_m1, fd_196_0, fd_196_1, fd_196_2, fd_196_3, fd_196_4, sf_196_4, fd_196_5, sf_196_5, fd_196_6, fd_196_7, fd_196_8, fd_196_9, fd_196_10, fd_196_11, fd_196_12, sf_196_12, fd_196_13, sf_196_13, fd_196_14, sf_196_14, fd_196_15, sf_196_15, fd_196_16, sf_196_16, fd_196_17, sf_196_17, fd_196_18, sf_196_18, fd_196_19, sf_196_19, fd_196_20, sf_196_20, fd_196_21, sf_196_21, fd_196_22, sf_196_22, fd_196_23, sf_196_23, fd_196_24, sf_196_24, fd_196_25, sf_196_25, fd_196_26, sf_196_26, fd_196_27, fd_196_28, fd_196_29, fd_196_30, sf_196_30, fd_196_31, fd_196_32, fd_196_33, fd_196_34, fd_196_35, fd_196_36, fd_196_37, sf_196_37, fd_196_38, fd_196_39, sf_196_39, fd_196_40, sf_196_40, fd_196_41, sf_196_41, fd_196_42, fd_196_43, fd_196_44, ld_197, sd_197, ln_197, hN.1, nI_ltE, Nat.lt_irrefl, ↓reduceIte]
    exact H
  | succ j ih =>
    intro n hn
    have hn' : n < nn (g 197) := by omega
    have hn16 : n < 16 := by omega
    have hy := (wi_y hw hn16).1
    have hi := ih (n + 1) (by omega)
    have hX : bset (fun m => ba m && (decide (n ≤ m) || decide (1 ≤ fd (g 197) m 10))) 16 < 65536 := bset_lt 16
    have same : (fd (g 197) n 0 = 1 → 1 ≤ fd (g 197) n 10) → bset (fun m => ba m && (decide (n + 1 ≤ m) || decide (1 ≤ fd (g 197) m 10))) 16 = bset (fun m => ba m && (decide (n ≤ m) || decide (1 ≤ fd (g 197) m 10))) 16 := fun h => bset_c 16 fun m _ => by
      cases hb : ba m
      · rfl
      · by_cases e : m = n
        · subst e
          rw [decide_eq_true (h (hba _ hb).2), Bool.or_true, Bool.or_true]
        · rw [decide_eq_decide.mpr (show n + 1 ≤ m ↔ n ≤ m from ⟨fun _ => by omega, fun _ => by omega⟩)]
    rw [b_mo_power_60]
    simp -implicitDefEqProofs (disch := first | assumption | omega) only [szS_0, szS_i, szS_r, szS_l, x_cons, x_goto, ob_some, kl_i, kl_r, kl_l, kl_n, push_n, push_s, pop_0, pop_i, pop_r, Int.reduceToNat, List.length_cons, List.length_nil, Nat.reduceAdd, Nat.reduceLeDiff, Nat.zero_add, true_and, nI_n0, nat_le, Nat.add_zero, i_1, rt_mo_power, x_al0, x_call, x_getf, x_goto, x_iadd, x_iaload, x_iand, x_icge, x_icgt, x_icle, x_ifeq, x_iflt, x_ifne, x_il1, x_il2, x_il3, x_il4, x_il5, x_il6, x_il7, x_imul, x_inc4, x_iret, x_is3, x_is4, x_is5, x_is6, x_is7, x_ishl, x_ishr, x_isub, x_ixor, x_ldc, x_m1, fd_196_0, fd_196_1, fd_196_2, fd_196_3, fd_196_4, sf_196_4, fd_196_5, sf_196_5, fd_196_6, fd_196_7, fd_196_8, fd_196_9, fd_196_10, fd_196_11, fd_196_12, sf_196_12, fd_196_13, sf_196_13, fd_196_14, sf_196_14, fd_196_15, sf_196_15, fd_196_16, sf_196_16, fd_196_17, sf_196_17, fd_196_18, sf_196_18, fd_196_19, sf_196_19, fd_196_20, sf_196_20, fd_196_21, sf_196_21, fd_196_22, sf_196_22, fd_196_23, sf_196_23, fd_196_24, sf_196_24, fd_196_25, sf_196_25, fd_196_26, sf_196_26, fd_196_27, fd_196_28, fd_196_29, fd_196_30, sf_196_30, fd_196_31, fd_196_32, fd_196_33, fd_196_34, fd_196_35, fd_196_36, fd_196_37, sf_196_37, fd_196_38, fd_196_39, sf_196_39, fd_196_40, sf_196_40, fd_196_41, sf_196_41, fd_196_42, fd_196_43, fd_196_44, ld_197, sd_197, ln_197, hN.1, nI_ltE, hn', ↓reduceIte]
    rw [s_isTown hw, townB_nI hw (by omega), decide_eq_true hn', Bool.true_and]
    simp -implicitDefEqProofs (disch := first | assumption | omega) only [szS_0, szS_i, szS_r, szS_l, x_cons, x_goto, ob_some, kl_i, kl_r, kl_l, kl_n, push_n, push_s, pop_0, pop_i, pop_r, Int.reduceToNat, List.length_cons, List.length_nil, Nat.reduceAdd, Nat.reduceLeDiff, Nat.zero_add, true_and, nI_n0, nat_le, Nat.add_zero, i_1, rt_mo_power, x_al0, x_call, x_getf, x_goto, x_iadd, x_iaload, x_iand, x_icge, x_icgt, x_icle, x_ifeq, x_iflt, x_ifne, x_il1, x_il2, x_il3, x_il4, x_il5, x_il6, x_il7, x_imul, x_inc4, x_iret, x_is3, x_is4, x_is5, x_is6, x_is7, x_ishl, x_ishr, x_isub, x_ixor, x_ldc, x_m1, bI_0]
    by_cases c1 : fd (g 197) n 0 = 1
    · rw [decide_eq_true c1]
      simp -implicitDefEqProofs (disch := first | assumption | omega) only [Bool.true_eq_false, ↓reduceIte, szS_0, szS_i, szS_r, szS_l, x_cons, x_goto, ob_some, kl_i, kl_r, kl_l, kl_n, push_n, push_s, pop_0, pop_i, pop_r, Int.reduceToNat, List.length_cons, List.length_nil, Nat.reduceAdd, Nat.reduceLeDiff, Nat.zero_add, true_and, nI_n0, nat_le, Nat.add_zero, i_1, rt_mo_power, x_al0, x_call, x_getf, x_goto, x_iadd, x_iaload, x_iand, x_icge, x_icgt, x_icle, x_ifeq, x_iflt, x_ifne, x_il1, x_il2, x_il3, x_il4, x_il5, x_il6, x_il7, x_imul, x_inc4, x_iret, x_is3, x_is4, x_is5, x_is6, x_is7, x_ishl, x_ishr, x_isub, x_ixor, x_ldc, x_m1, s_own, hy.1, nI_eqE]
      by_cases c2 : fd (g 197) n 10 = 0
      · rw [if_pos c2]
        have ec := nI_clr (Y := bset (fun m => ba m && (decide (n + 1 ≤ m) || decide (1 ≤ fd (g 197) m 10))) 16) hX hn16 fun i => by
          rw [bset_t, bset_t]
          by_cases e : n = i
          · subst e
            rw [decide_eq_false (p := n + 1 ≤ n) (by omega), decide_eq_false (p := 1 ≤ fd (g 197) n 10) (by omega), decide_eq_true rfl]
            simp only [Bool.or_false, Bool.and_false, Bool.not_true]
          · rw [decide_eq_false e, decide_eq_decide.mpr (show n + 1 ≤ i ↔ n ≤ i from ⟨fun _ => by omega, fun _ => by omega⟩), Bool.not_false, Bool.and_true]
        try simp -implicitDefEqProofs (disch := first | assumption | omega) only [szS_0, szS_i, szS_r, szS_l, x_cons, x_goto, ob_some, kl_i, kl_r, kl_l, kl_n, push_n, push_s, pop_0, pop_i, pop_r, Int.reduceToNat, List.length_cons, List.length_nil, Nat.reduceAdd, Nat.reduceLeDiff, Nat.zero_add, true_and, nI_n0, nat_le, Nat.add_zero, i_1, rt_mo_power, x_al0, x_call, x_getf, x_goto, x_iadd, x_iaload, x_iand, x_icge, x_icgt, x_icle, x_ifeq, x_iflt, x_ifne, x_il1, x_il2, x_il3, x_il4, x_il5, x_il6, x_il7, x_imul, x_inc4, x_iret, x_is3, x_is4, x_is5, x_is6, x_is7, x_ishl, x_ishr, x_isub, x_ixor, x_ldc, x_m1, nI_shl1, ec, b_mo_power_100, nI_add]
        exact hi
      · rw [if_neg c2]
        rw [same fun _ => by omega] at hi
        try simp -implicitDefEqProofs (disch := first | assumption | omega) only [b_mo_power_100, szS_0, szS_i, szS_r, szS_l, x_cons, x_goto, ob_some, kl_i, kl_r, kl_l, kl_n, push_n, push_s, pop_0, pop_i, pop_r, Int.reduceToNat, List.length_cons, List.length_nil, Nat.reduceAdd, Nat.reduceLeDiff, Nat.zero_add, true_and, nI_n0, nat_le, Nat.add_zero, i_1, rt_mo_power, x_al0, x_call, x_getf, x_goto, x_iadd, x_iaload, x_iand, x_icge, x_icgt, x_icle, x_ifeq, x_iflt, x_ifne, x_il1, x_il2, x_il3, x_il4, x_il5, x_il6, x_il7, x_imul, x_inc4, x_iret, x_is3, x_is4, x_is5, x_is6, x_is7, x_ishl, x_ishr, x_isub, x_ixor, x_ldc, x_m1, nI_add]
        exact hi
    · rw [decide_eq_false c1]
      rw [same fun h => absurd h c1] at hi
      simp -implicitDefEqProofs (disch := first | assumption | omega) only [↓reduceIte, b_mo_power_100, szS_0, szS_i, szS_r, szS_l, x_cons, x_goto, ob_some, kl_i, kl_r, kl_l, kl_n, push_n, push_s, pop_0, pop_i, pop_r, Int.reduceToNat, List.length_cons, List.length_nil, Nat.reduceAdd, Nat.reduceLeDiff, Nat.zero_add, true_and, nI_n0, nat_le, Nat.add_zero, i_1, rt_mo_power, x_al0, x_call, x_getf, x_goto, x_iadd, x_iaload, x_iand, x_icge, x_icgt, x_icle, x_ifeq, x_iflt, x_ifne, x_il1, x_il2, x_il3, x_il4, x_il5, x_il6, x_il7, x_imul, x_inc4, x_iret, x_is3, x_is4, x_is5, x_is6, x_is7, x_ishl, x_ishr, x_isub, x_ixor, x_ldc, x_m1, nI_add]
      exact hi
theorem s_mpower (hw : WI (g 197)) {f t : Int32} (H : P (some (.int (pwA (g 197) f t))) (E g q)) : callC (ev (d + 6)) mo_power [.ref 196, .int f, .int t] (E g q) P := by
  refine in_mo_power rfl ?_
  have hN := wi_n hw
  unfold pwA at H
  have no : pwB (g 197) f t = false → wp (ev (d + 5)) P mo_power 38 [some (.ref 196), some (.int f), some (.int t), none, none, none, none, none] [] (E g q) := by
    intro h
    rw [h, if_neg Bool.false_ne_true] at H
    rw [b_mo_power_38]
    simp -implicitDefEqProofs (disch := first | assumption | omega) only [szS_0, szS_i, szS_r, szS_l, x_cons, x_goto, ob_some, kl_i, kl_r, kl_l, kl_n, push_n, push_s, pop_0, pop_i, pop_r, Int.reduceToNat, List.length_cons, List.length_nil, Nat.reduceAdd, Nat.reduceLeDiff, Nat.zero_add, true_and, nI_n0, nat_le, Nat.add_zero, i_1, rt_mo_power, x_al0, x_call, x_getf, x_goto, x_iadd, x_iaload, x_iand, x_icge, x_icgt, x_icle, x_ifeq, x_iflt, x_ifne, x_il1, x_il2, x_il3, x_il4, x_il5, x_il6, x_il7, x_imul, x_inc4, x_iret, x_is3, x_is4, x_is5, x_is6, x_is7, x_ishl, x_ishr, x_isub, x_ixor, x_ldc, x_m1]
    exact H
  rw [b_mo_power_0]
  simp -implicitDefEqProofs (disch := first | assumption | omega) only [szS_0, szS_i, szS_r, szS_l, x_cons, x_goto, ob_some, kl_i, kl_r, kl_l, kl_n, push_n, push_s, pop_0, pop_i, pop_r, Int.reduceToNat, List.length_cons, List.length_nil, Nat.reduceAdd, Nat.reduceLeDiff, Nat.zero_add, true_and, nI_n0, nat_le, Nat.add_zero, i_1, rt_mo_power, x_al0, x_call, x_getf, x_goto, x_iadd, x_iaload, x_iand, x_icge, x_icgt, x_icle, x_ifeq, x_iflt, x_ifne, x_il1, x_il2, x_il3, x_il4, x_il5, x_il6, x_il7, x_imul, x_inc4, x_iret, x_is3, x_is4, x_is5, x_is6, x_is7, x_ishl, x_ishr, x_isub, x_ixor, x_ldc, x_m1]
  rw [s_isFork hw]
  simp -implicitDefEqProofs (disch := first | assumption | omega) only [szS_0, szS_i, szS_r, szS_l, x_cons, x_goto, ob_some, kl_i, kl_r, kl_l, kl_n, push_n, push_s, pop_0, pop_i, pop_r, Int.reduceToNat, List.length_cons, List.length_nil, Nat.reduceAdd, Nat.reduceLeDiff, Nat.zero_add, true_and, nI_n0, nat_le, Nat.add_zero, i_1, rt_mo_power, x_al0, x_call, x_getf, x_goto, x_iadd, x_iaload, x_iand, x_icge, x_icgt, x_icle, x_ifeq, x_iflt, x_ifne, x_il1, x_il2, x_il3, x_il4, x_il5, x_il6, x_il7, x_imul, x_inc4, x_iret, x_is3, x_is4, x_is5, x_is6, x_is7, x_ishl, x_ishr, x_isub, x_ixor, x_ldc, x_m1, bI_0]
  cases h1 : forkB (g 197) f
  · simp -implicitDefEqProofs (disch := first | assumption | omega) only [↓reduceIte]
    exact no (by unfold pwB; rw [h1, Bool.false_and])
  · simp -implicitDefEqProofs (disch := first | assumption | omega) only [Bool.true_eq_false, ↓reduceIte, szS_0, szS_i, szS_r, szS_l, x_cons, x_goto, ob_some, kl_i, kl_r, kl_l, kl_n, push_n, push_s, pop_0, pop_i, pop_r, Int.reduceToNat, List.length_cons, List.length_nil, Nat.reduceAdd, Nat.reduceLeDiff, Nat.zero_add, true_and, nI_n0, nat_le, Nat.add_zero, i_1, rt_mo_power, x_al0, x_call, x_getf, x_goto, x_iadd, x_iaload, x_iand, x_icge, x_icgt, x_icle, x_ifeq, x_iflt, x_ifne, x_il1, x_il2, x_il3, x_il4, x_il5, x_il6, x_il7, x_imul, x_inc4, x_iret, x_is3, x_is4, x_is5, x_is6, x_is7, x_ishl, x_ishr, x_isub, x_ixor, x_ldc, x_m1]
    rw [s_isTown hw]
    simp -implicitDefEqProofs (disch := first | assumption | omega) only [szS_0, szS_i, szS_r, szS_l, x_cons, x_goto, ob_some, kl_i, kl_r, kl_l, kl_n, push_n, push_s, pop_0, pop_i, pop_r, Int.reduceToNat, List.length_cons, List.length_nil, Nat.reduceAdd, Nat.reduceLeDiff, Nat.zero_add, true_and, nI_n0, nat_le, Nat.add_zero, i_1, rt_mo_power, x_al0, x_call, x_getf, x_goto, x_iadd, x_iaload, x_iand, x_icge, x_icgt, x_icle, x_ifeq, x_iflt, x_ifne, x_il1, x_il2, x_il3, x_il4, x_il5, x_il6, x_il7, x_imul, x_inc4, x_iret, x_is3, x_is4, x_is5, x_is6, x_is7, x_ishl, x_ishr, x_isub, x_ixor, x_ldc, x_m1, bI_0]
    cases h2 : townB (g 197) t
    · simp -implicitDefEqProofs (disch := first | assumption | omega) only [↓reduceIte]
      exact no (by unfold pwB; rw [h2, Bool.false_and, Bool.and_false])
    · obtain ⟨f', hf, rfl, hs⟩ := forkB_ex hw h1
      obtain ⟨t', ht, rfl, hts⟩ := townB_ex hw h2
      have hy := (wi_y hw (n := t') (by omega)).1
      have ha3 := am_le hw (n := f') (by omega)
      have hbl := bhn_lt (g 197) f' (am (g 197) f')
      have hB : pwB (g 197) (nI f') (nI t') = (decide (fd (g 197) t' 10 ≠ 0) && decide (1 ≤ abf (g 197) f' t' (am (g 197) f'))) := by
        unfold pwB
        rw [h1, h2, Bool.true_and, Bool.true_and, ix_nI (by omega), ix_nI (by omega)]
      simp -implicitDefEqProofs (disch := first | assumption | omega) only [Bool.true_eq_false, ↓reduceIte, szS_0, szS_i, szS_r, szS_l, x_cons, x_goto, ob_some, kl_i, kl_r, kl_l, kl_n, push_n, push_s, pop_0, pop_i, pop_r, Int.reduceToNat, List.length_cons, List.length_nil, Nat.reduceAdd, Nat.reduceLeDiff, Nat.zero_add, true_and, nI_n0, nat_le, Nat.add_zero, i_1, rt_mo_power, x_al0, x_call, x_getf, x_goto, x_iadd, x_iaload, x_iand, x_icge, x_icgt, x_icle, x_ifeq, x_iflt, x_ifne, x_il1, x_il2, x_il3, x_il4, x_il5, x_il6, x_il7, x_imul, x_inc4, x_iret, x_is3, x_is4, x_is5, x_is6, x_is7, x_ishl, x_ishr, x_isub, x_ixor, x_ldc, x_m1, s_own, hy.1, nI_eqE]
      by_cases c1 : fd (g 197) t' 10 = 0
      · rw [if_pos c1]
        exact no (by rw [hB, decide_eq_false (fun h => h c1), Bool.false_and])
      · rw [if_neg c1]
        try simp -implicitDefEqProofs (disch := first | assumption | omega) only [szS_0, szS_i, szS_r, szS_l, x_cons, x_goto, ob_some, kl_i, kl_r, kl_l, kl_n, push_n, push_s, pop_0, pop_i, pop_r, Int.reduceToNat, List.length_cons, List.length_nil, Nat.reduceAdd, Nat.reduceLeDiff, Nat.zero_add, true_and, nI_n0, nat_le, Nat.add_zero, i_1, rt_mo_power, x_al0, x_call, x_getf, x_goto, x_iadd, x_iaload, x_iand, x_icge, x_icgt, x_icle, x_ifeq, x_iflt, x_ifne, x_il1, x_il2, x_il3, x_il4, x_il5, x_il6, x_il7, x_imul, x_inc4, x_iret, x_is3, x_is4, x_is5, x_is6, x_is7, x_ishl, x_ishr, x_isub, x_ixor, x_ldc, x_m1]
        rw [s_behindAny hw (by omega)]
        simp -implicitDefEqProofs (disch := first | assumption | omega) only [szS_0, szS_i, szS_r, szS_l, x_cons, x_goto, ob_some, kl_i, kl_r, kl_l, kl_n, push_n, push_s, pop_0, pop_i, pop_r, Int.reduceToNat, List.length_cons, List.length_nil, Nat.reduceAdd, Nat.reduceLeDiff, Nat.zero_add, true_and, nI_n0, nat_le, Nat.add_zero, i_1, rt_mo_power, x_al0, x_call, x_getf, x_goto, x_iadd, x_iaload, x_iand, x_icge, x_icgt, x_icle, x_ifeq, x_iflt, x_ifne, x_il1, x_il2, x_il3, x_il4, x_il5, x_il6, x_il7, x_imul, x_inc4, x_iret, x_is3, x_is4, x_is5, x_is6, x_is7, x_ishl, x_ishr, x_isub, x_ixor, x_ldc, x_m1, nI_bt, nI_eqE]
        have btl := bt_l (B := bhn (g 197) f' (am (g 197) f')) (n := t')
        have ebf := bhn_f (w := g 197) (f := f') (m := t') (by omega) (am (g 197) f')
        have e8 : (nI (bt (bhn (g 197) f' (am (g 197) f')) t') = nI 0) = ((bhn (g 197) f' (am (g 197) f')).testBit t' = false) := by rw [nI_eqE (by omega) (by decide), tb_0]
        rw [ebf] at e8
        by_cases c2 : 1 ≤ abf (g 197) f' t' (am (g 197) f')
        · rw [decide_eq_true c2] at e8
          rw [hB, decide_eq_true (p := fd (g 197) t' 10 ≠ 0) c1, decide_eq_true c2, Bool.true_and, if_pos rfl, ix_nI (by omega), ix_nI (by omega)] at H
          simp only [e8, Bool.true_eq_false, ↓reduceIte]
          rw [b_mo_power_40]
          simp -implicitDefEqProofs (disch := first | assumption | omega) only [szS_0, szS_i, szS_r, szS_l, x_cons, x_goto, ob_some, kl_i, kl_r, kl_l, kl_n, push_n, push_s, pop_0, pop_i, pop_r, Int.reduceToNat, List.length_cons, List.length_nil, Nat.reduceAdd, Nat.reduceLeDiff, Nat.zero_add, true_and, nI_n0, nat_le, Nat.add_zero, i_1, rt_mo_power, x_al0, x_call, x_getf, x_goto, x_iadd, x_iaload, x_iand, x_icge, x_icgt, x_icle, x_ifeq, x_iflt, x_ifne, x_il1, x_il2, x_il3, x_il4, x_il5, x_il6, x_il7, x_imul, x_inc4, x_iret, x_is3, x_is4, x_is5, x_is6, x_is7, x_ishl, x_ishr, x_isub, x_ixor, x_ldc, x_m1]
          rw [s_behindAny hw (by omega)]
          simp -implicitDefEqProofs (disch := first | assumption | omega) only [szS_0, szS_i, szS_r, szS_l, x_cons, x_goto, ob_some, kl_i, kl_r, kl_l, kl_n, push_n, push_s, pop_0, pop_i, pop_r, Int.reduceToNat, List.length_cons, List.length_nil, Nat.reduceAdd, Nat.reduceLeDiff, Nat.zero_add, true_and, nI_n0, nat_le, Nat.add_zero, i_1, rt_mo_power, x_al0, x_call, x_getf, x_goto, x_iadd, x_iaload, x_iand, x_icge, x_icgt, x_icle, x_ifeq, x_iflt, x_ifne, x_il1, x_il2, x_il3, x_il4, x_il5, x_il6, x_il7, x_imul, x_inc4, x_iret, x_is3, x_is4, x_is5, x_is6, x_is7, x_ishl, x_ishr, x_isub, x_ixor, x_ldc, x_m1]
          rw [s_towns hw]
          have hX : bhn (g 197) f' (am (g 197) f') &&& tws (g 197) (nn (g 197)) < 65536 := Nat.lt_of_le_of_lt Nat.and_le_left hbl
          obtain ⟨ba, hba⟩ : ∃ ba : Nat → Bool, ∀ m, ba m = (decide (1 ≤ abf (g 197) f' m (am (g 197) f')) && (decide (m < nn (g 197) ∧ fd (g 197) m 0 = 1) && !decide (t' = m))) := ⟨_, fun _ => rfl⟩
          have ec := nI_clr (Y := bset (fun m => ba m && (decide (0 ≤ m) || decide (1 ≤ fd (g 197) m 10))) 16) (t := t') hX (by omega) fun i => by
            rw [bset_t]
            by_cases e : i < 16
            · rw [decide_eq_true e, decide_eq_true (Nat.zero_le i), Bool.true_or, Bool.and_true, Bool.true_and, Nat.testBit_and, bhn_f e, hba]
              unfold tws
              rw [bset_t]
              by_cases e2 : i < nn (g 197)
              · rw [decide_eq_true e2, Bool.true_and, Bool.and_assoc]
              · rw [decide_eq_false e2, decide_eq_false (p := i < nn (g 197) ∧ fd (g 197) i 0 = 1) (fun h => e2 h.1)]
                simp only [Bool.false_and, Bool.and_false]
            · rw [decide_eq_false e, Bool.false_and, Nat.testBit_lt_two_pow (Nat.lt_of_lt_of_le hX (Nat.pow_le_pow_right (n := 2) (j := i) (i := 16) (show 0 < 2 by decide) (by omega)))]
              rfl
          simp -implicitDefEqProofs (disch := first | assumption | omega) only [szS_0, szS_i, szS_r, szS_l, x_cons, x_goto, ob_some, kl_i, kl_r, kl_l, kl_n, push_n, push_s, pop_0, pop_i, pop_r, Int.reduceToNat, List.length_cons, List.length_nil, Nat.reduceAdd, Nat.reduceLeDiff, Nat.zero_add, true_and, nI_n0, nat_le, Nat.add_zero, i_1, rt_mo_power, x_al0, x_call, x_getf, x_goto, x_iadd, x_iaload, x_iand, x_icge, x_icgt, x_icle, x_ifeq, x_iflt, x_ifne, x_il1, x_il2, x_il3, x_il4, x_il5, x_il6, x_il7, x_imul, x_inc4, x_iret, x_is3, x_is4, x_is5, x_is6, x_is7, x_ishl, x_ishr, x_isub, x_ixor, x_ldc, x_m1, nI_and, nI_shl1, ec]
          have eM : bset (fun m => ba m && decide (1 ≤ fd (g 197) m 10)) 16 = bset (pwq (g 197) f' t') (nn (g 197)) := by
            refine Nat.eq_of_testBit_eq fun i => ?_
            rw [bset_t, bset_t, hba]
            have hab := abf_l (w := g 197) (f := f') (m := i) (n := am (g 197) f')
            by_cases e2 : i < nn (g 197)
            · rw [decide_eq_true e2, decide_eq_true (p := i < 16) (by omega), Bool.true_and, Bool.true_and]
              have hlt : 1 ≤ abf (g 197) f' i (am (g 197) f') → f' < i := fun h => by
                obtain ⟨a, ha, h3⟩ := cnt_1 _ h
                have h3 := of_decide_eq_true h3
                have h4 := tg_lt hw (n := f') (a := a) (by omega) ha
                refine Classical.byContradiction fun h5 => h3 (far_no hw h4.2 (Or.inl (by omega)))
              unfold pwq
              by_cases d1 : 1 ≤ abf (g 197) f' i (am (g 197) f')
              · by_cases d2 : fd (g 197) i 0 = 1
                · by_cases d3 : t' = i
                  · rw [decide_eq_true d3, decide_eq_false (p := f' < i ∧ _) (fun h => h.2.2.2.1 d3.symm)]
                    simp only [Bool.not_true, Bool.and_false, Bool.false_and]
                  · rw [decide_eq_true d1, decide_eq_true (p := i < nn (g 197) ∧ _) ⟨e2, d2⟩, decide_eq_false d3, Bool.true_and, Bool.true_and, Bool.not_false, Bool.true_and]
                    exact decide_eq_decide.mpr ⟨fun h => ⟨hlt d1, d2, d1, fun h => d3 h.symm, h⟩, fun h => h.2.2.2.2⟩
                · rw [decide_eq_false (p := i < nn (g 197) ∧ _) (fun h => d2 h.2), decide_eq_false (p := f' < i ∧ _) (fun h => d2 h.2.1)]
                  simp only [Bool.and_false, Bool.false_and]
              · rw [decide_eq_false d1, decide_eq_false (p := f' < i ∧ _) (fun h => d1 h.2.2.1)]
                rfl
            · rw [decide_eq_false e2, decide_eq_false (p := i < nn (g 197) ∧ _) (fun h => e2 h.1)]
              simp only [Bool.and_false, Bool.false_and]
          refine pm_lp hw (ba := ba) (fun m hm => by
            rw [hba, Bool.and_eq_true, Bool.and_eq_true] at hm
            exact of_decide_eq_true hm.2.1) ?_ (nn (g 197)) 0 (Nat.zero_add _)
          rw [eM]
          have hbs : bset (pwq (g 197) f' t') (nn (g 197)) < 65536 := Nat.lt_of_lt_of_le (bset_lt _) (Nat.pow_le_pow_right (n := 2) (j := 16) (show 0 < 2 by decide) (by omega))
          have ehs : ∀ k, k ≤ nn (g 197) → hsF (g 197) (bset (pwq (g 197) f' t') (nn (g 197))) k = sm (pwv (g 197) f' t') k := by
            intro k
            induction k with
            | zero => exact fun _ => rfl
            | succ k ih =>
              intro hk
              show hsF _ _ k + (if (bset _ _).testBit k = true then _ else 0) = sm _ k + pwv (g 197) f' t' k
              rw [ih (by omega), bset_t, decide_eq_true (show k < nn (g 197) by omega), Bool.true_and]
              rfl
          have e0 : ∀ k, hsF (g 197) 0 k = 0 := by
            intro k
            induction k with
            | zero => rfl
            | succ k ih =>
              show hsF _ _ k + (if (0 : Nat).testBit k = true then _ else 0) = 0
              rw [ih, Nat.zero_testBit]
              rfl
          have hsum := sumH_v (w := g 197) (p := pwq (g 197) f' t') (t := t') (decide_eq_false fun h => h.2.2.2.1 rfl) (nn (g 197)) ht
          have hs6 := WI_s hw
          have hsm := sumH_m (w := g 197) (n := nn (g 197)) (m := 16) (by omega)
          have hsum : fd (g 197) t' 10 + sm (pwv (g 197) f' t') (nn (g 197)) ≤ sumH (g 197) (nn (g 197)) := hsum
          rw [b_mo_power_106]
          simp -implicitDefEqProofs (disch := first | assumption | omega) only [szS_0, szS_i, szS_r, szS_l, x_cons, x_goto, ob_some, kl_i, kl_r, kl_l, kl_n, push_n, push_s, pop_0, pop_i, pop_r, Int.reduceToNat, List.length_cons, List.length_nil, Nat.reduceAdd, Nat.reduceLeDiff, Nat.zero_add, true_and, nI_n0, nat_le, Nat.add_zero, i_1, rt_mo_power, x_al0, x_call, x_getf, x_goto, x_iadd, x_iaload, x_iand, x_icge, x_icgt, x_icle, x_ifeq, x_iflt, x_ifne, x_il1, x_il2, x_il3, x_il4, x_il5, x_il6, x_il7, x_imul, x_inc4, x_iret, x_is3, x_is4, x_is5, x_is6, x_is7, x_ishl, x_ishr, x_isub, x_ixor, x_ldc, x_m1]
          rw [s_headsOf hw (by omega), ehs _ (Nat.le_refl _)]
          simp -implicitDefEqProofs (disch := first | assumption | omega) only [szS_0, szS_i, szS_r, szS_l, x_cons, x_goto, ob_some, kl_i, kl_r, kl_l, kl_n, push_n, push_s, pop_0, pop_i, pop_r, Int.reduceToNat, List.length_cons, List.length_nil, Nat.reduceAdd, Nat.reduceLeDiff, Nat.zero_add, true_and, nI_n0, nat_le, Nat.add_zero, i_1, rt_mo_power, x_al0, x_call, x_getf, x_goto, x_iadd, x_iaload, x_iand, x_icge, x_icgt, x_icle, x_ifeq, x_iflt, x_ifne, x_il1, x_il2, x_il3, x_il4, x_il5, x_il6, x_il7, x_imul, x_inc4, x_iret, x_is3, x_is4, x_is5, x_is6, x_is7, x_ishl, x_ishr, x_isub, x_ixor, x_ldc, x_m1, s_own, hy.1, nI_add]
          rw [Nat.add_comm (sm (pwv (g 197) f' t') (nn (g 197)))]
          have lp := sb_lp (d := d) (g := g) (q := q) (P := P) hw (f := nI f') (t := t') (M := bset (pwq (g 197) f' t') (nn (g 197))) (all := fd (g 197) t' 10 + sm (pwv (g 197) f' t') (nn (g 197))) (own := fd (g 197) t' 10) (p := pwq (g 197) f' t') (by omega) rfl (by omega) rfl (nn (g 197)) 0 0 none (Nat.le_refl _) (by decide) (fun i _ => Nat.zero_testBit i) (fun i hi => by
            rw [Nat.zero_testBit] at hi
            cases hi) fun o => by
            have em : nxS (bset (pwq (g 197) f' t') (nn (g 197))) 0 = -1 := if_pos rfl
            have hm : ((-1 : Int32) < nI 0) = True := eq_true (by decide)
            rw [em, e0, Nat.zero_add, b_mo_power_127]
            simp -implicitDefEqProofs (disch := first | assumption | omega) only [szS_0, szS_i, szS_r, szS_l, x_cons, x_goto, ob_some, kl_i, kl_r, kl_l, kl_n, push_n, push_s, pop_0, pop_i, pop_r, Int.reduceToNat, List.length_cons, List.length_nil, Nat.reduceAdd, Nat.reduceLeDiff, Nat.zero_add, true_and, nI_n0, nat_le, Nat.add_zero, i_1, rt_mo_power, x_al0, x_call, x_getf, x_goto, x_iadd, x_iaload, x_iand, x_icge, x_icgt, x_icle, x_ifeq, x_iflt, x_ifne, x_il1, x_il2, x_il3, x_il4, x_il5, x_il6, x_il7, x_imul, x_inc4, x_iret, x_is3, x_is4, x_is5, x_is6, x_is7, x_ishl, x_ishr, x_isub, x_ixor, x_ldc, x_m1, hm, ↓reduceIte, b_mo_power_196]
            exact H
          rw [Nat.zero_or] at lp
          exact lp
        · rw [decide_eq_false c2] at e8
          simp only [e8, ↓reduceIte]
          exact no (by rw [hB, decide_eq_false c2, Bool.and_false])
end PY
theorem k_power {d L B : Nat} {xs : Nat → Int32} {g : Nat → Nat → Int32} {q : Nat → Nat → Int64} (hW : World B g) (hE : Env L xs g) {f t : Int32} : two (d + 6) L xs B vr_power mo_power [.ref 0, .int f, .int t] [.ref 196, .int f, .int t] g q := by
  refine k_pure hW hE fun w V M pl im R h => ⟨pwA w f t, fun P hP => s_vpower h.1.1.1 h.2.1.1.1 fun g' f => hP g' q f, fun g1 q1 P h1 hP => ?_⟩
  have e : g1 197 = w := h1.2.2.1.1
  refine s_mpower (by rw [e]; exact h.1.1.1) ?_
  rw [e]
  exact hP g1 q1 fM_r h1.2.2
