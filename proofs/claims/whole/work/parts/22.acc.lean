section MA
variable {d : Nat} {g : Nat → Nat → Int32} {q : Nat → Nat → Int64} {P : QT}
theorem s_isIn {v l m : Int32} : callC (ev (d + 1)) mo_isIn [.int v, .int l, .int m] (E g q) P = P (some (.int (bI (decide (l ≤ v ∧ v ≤ m))))) (E g q) := by
  refine call_eq (in_mo_isIn rfl ?_)
  simp only [x_cons, ob_some, kl_i, kl_r, kl_l, kl_n, push_n, push_s, pop_0, pop_i, pop_r, Int.reduceToNat, List.length_cons, List.length_nil, Nat.reduceAdd, Nat.reduceLeDiff, Nat.zero_add, true_and, nI_n0, nat_le, rt_mo_isIn_0, rt_mo_isIn_1, rt_mo_isIn_b, x_goto, x_icgt, x_iclt, x_il0, x_il1, x_il2, x_iret, x_ldc, b_mo_isIn_0, b_mo_isIn_14, b_mo_isIn_15]
  split
  next h => exact ⟨by rw [bI_df fun e => by rw [← lt_le] at e; exact e.1 h], trivial⟩
  next h =>
    rw [lt_le] at h
    split
    next h2 => exact ⟨by rw [bI_df fun e => by rw [← lt_le (x := m)] at e; exact e.2 h2], trivial⟩
    next h2 =>
      rw [lt_le] at h2
      exact ⟨by rw [bI_dt ⟨h, h2⟩], trivial⟩
theorem s_own {n f : Nat} (h : 10 + 20 * n + f < 2955) : callC (ev (d + 1)) mo_own [.ref 196, .int (nI n), .int (nI f)] (E g q) P = P (some (.int (g 197 (10 + 20 * n + f)))) (E g q) := by
  refine call_eq (in_mo_own rfl ?_)
  simp (disch := omega) only [x_cons, ob_some, kl_i, kl_r, kl_l, kl_n, push_n, push_s, pop_0, pop_i, pop_r, Int.reduceToNat, List.length_cons, List.length_nil, Nat.reduceAdd, Nat.reduceLeDiff, Nat.zero_add, true_and, nI_n0, nat_le, rt_mo_own, x_al0, x_getf, x_iadd, x_iaload, x_il1, x_il2, x_imul, x_iret, x_ldc, b_mo_own_0, fd_196_0, fd_196_1, fd_196_2, fd_196_3, fd_196_4, sf_196_4, fd_196_5, sf_196_5, fd_196_6, fd_196_7, fd_196_8, fd_196_9, fd_196_10, fd_196_11, fd_196_12, sf_196_12, fd_196_13, sf_196_13, fd_196_14, sf_196_14, fd_196_15, sf_196_15, fd_196_16, sf_196_16, fd_196_17, sf_196_17, fd_196_18, sf_196_18, fd_196_19, sf_196_19, fd_196_20, sf_196_20, fd_196_21, sf_196_21, fd_196_22, sf_196_22, fd_196_23, sf_196_23, fd_196_24, sf_196_24, fd_196_25, sf_196_25, fd_196_26, sf_196_26, fd_196_27, fd_196_28, fd_196_29, fd_196_30, sf_196_30, fd_196_31, fd_196_32, fd_196_33, fd_196_34, fd_196_35, fd_196_36, fd_196_37, sf_196_37, fd_196_38, fd_196_39, sf_196_39, fd_196_40, sf_196_40, fd_196_41, sf_196_41, fd_196_42, fd_196_43, fd_196_44, ld_197, sd_197, ln_197, nI_add, nI_mul]
theorem s_gives {n f : Nat} {v : Int32} (h : 10 + 20 * n + f < 2955) : callC (ev (d + 1)) mo_gives [.ref 196, .int (nI n), .int (nI f), .int v] (E g q) P = P none (E (up2 g 197 (10 + 20 * n + f) v) q) := by
  refine call_eq (in_mo_gives rfl ?_)
  simp (disch := omega) only [x_cons, ob_some, kl_i, kl_r, kl_l, kl_n, push_n, push_s, pop_0, pop_i, pop_r, Int.reduceToNat, List.length_cons, List.length_nil, Nat.reduceAdd, Nat.reduceLeDiff, Nat.zero_add, true_and, nI_n0, nat_le, rt_mo_gives, x_al0, x_getf, x_iadd, x_iastore, x_il1, x_il2, x_il3, x_imul, x_ldc, x_vret, b_mo_gives_0, fd_196_0, fd_196_1, fd_196_2, fd_196_3, fd_196_4, sf_196_4, fd_196_5, sf_196_5, fd_196_6, fd_196_7, fd_196_8, fd_196_9, fd_196_10, fd_196_11, fd_196_12, sf_196_12, fd_196_13, sf_196_13, fd_196_14, sf_196_14, fd_196_15, sf_196_15, fd_196_16, sf_196_16, fd_196_17, sf_196_17, fd_196_18, sf_196_18, fd_196_19, sf_196_19, fd_196_20, sf_196_20, fd_196_21, sf_196_21, fd_196_22, sf_196_22, fd_196_23, sf_196_23, fd_196_24, sf_196_24, fd_196_25, sf_196_25, fd_196_26, sf_196_26, fd_196_27, fd_196_28, fd_196_29, fd_196_30, sf_196_30, fd_196_31, fd_196_32, fd_196_33, fd_196_34, fd_196_35, fd_196_36, fd_196_37, sf_196_37, fd_196_38, fd_196_39, sf_196_39, fd_196_40, sf_196_40, fd_196_41, sf_196_41, fd_196_42, fd_196_43, fd_196_44, ld_197, sd_197, ln_197, nI_add, nI_mul]
theorem s_lesser {a b : Int32} : callC (ev (d + 1)) mo_lesser [.int a, .int b] (E g q) P = P (some (.int (if a < b then a else b))) (E g q) := by
  refine call_eq (in_mo_lesser rfl ?_)
  simp only [x_cons, ob_some, kl_i, kl_r, kl_l, kl_n, push_n, push_s, pop_0, pop_i, pop_r, Int.reduceToNat, List.length_cons, List.length_nil, Nat.reduceAdd, Nat.reduceLeDiff, Nat.zero_add, true_and, nI_n0, nat_le, rt_mo_lesser, x_goto, x_icge, x_il0, x_il1, x_iret, b_mo_lesser_0, b_mo_lesser_9, b_mo_lesser_10]
  split <;> exact ⟨rfl, trivial⟩
theorem s_greater {a b : Int32} : callC (ev (d + 1)) mo_greater [.int a, .int b] (E g q) P = P (some (.int (if b < a then a else b))) (E g q) := by
  refine call_eq (in_mo_greater rfl ?_)
  simp only [x_cons, ob_some, kl_i, kl_r, kl_l, kl_n, push_n, push_s, pop_0, pop_i, pop_r, Int.reduceToNat, List.length_cons, List.length_nil, Nat.reduceAdd, Nat.reduceLeDiff, Nat.zero_add, true_and, nI_n0, nat_le, rt_mo_greater, x_goto, x_icle, x_il0, x_il1, x_iret, b_mo_greater_0, b_mo_greater_9, b_mo_greater_10]
  split <;> exact ⟨rfl, trivial⟩
def heldF (v l m : Int32) : Int32 := if (if m < v then m else v) < l then l else (if m < v then m else v)
theorem s_held {v l m : Int32} : callC (ev (d + 2)) mo_held [.int v, .int l, .int m] (E g q) P = P (some (.int (if (if m < v then m else v) < l then l else (if m < v then m else v)))) (E g q) := by
  refine call_eq (in_mo_held rfl ?_)
  simp only [x_cons, ob_some, kl_i, kl_r, kl_l, kl_n, push_n, push_s, pop_0, pop_i, pop_r, Int.reduceToNat, List.length_cons, List.length_nil, Nat.reduceAdd, Nat.reduceLeDiff, Nat.zero_add, true_and, nI_n0, nat_le, rt_mo_held, x_call, x_il0, x_il1, x_il2, x_iret, b_mo_held_0, s_lesser, s_greater]
def nodeB (w : Nat → Int32) (n : Int32) : Bool := decide (nI 0 ≤ n ∧ n ≤ w 0 - nI 1)
def forkB (w : Nat → Int32) (n : Int32) : Bool := nodeB w n && decide (w (10 + 20 * ix n) = nI 0)
def townB (w : Nat → Int32) (n : Int32) : Bool := nodeB w n && decide (w (10 + 20 * ix n) = nI 1)
def armB (w : Nat → Int32) (n a : Int32) : Bool := forkB w n && decide (nI 0 ≤ a ∧ a ≤ w (11 + 20 * ix n) - nI 1)
theorem s_isNode {n : Int32} : callC (ev (d + 2)) mo_isNode [.ref 196, .int n] (E g q) P = P (some (.int (bI (nodeB (g 197) n)))) (E g q) := by
  refine call_eq (in_mo_isNode rfl ?_)
  simp (disch := omega) only [x_cons, ob_some, kl_i, kl_r, kl_l, kl_n, push_n, push_s, pop_0, pop_i, pop_r, Int.reduceToNat, List.length_cons, List.length_nil, Nat.reduceAdd, Nat.reduceLeDiff, Nat.zero_add, true_and, nI_n0, nat_le, rt_mo_isNode_0, rt_mo_isNode_1, rt_mo_isNode_b, x_al0, x_call, x_getf, x_iaload, x_il1, x_iret, x_isub, x_ldc, b_mo_isNode_0, fd_196_0, fd_196_1, fd_196_2, fd_196_3, fd_196_4, sf_196_4, fd_196_5, sf_196_5, fd_196_6, fd_196_7, fd_196_8, fd_196_9, fd_196_10, fd_196_11, fd_196_12, sf_196_12, fd_196_13, sf_196_13, fd_196_14, sf_196_14, fd_196_15, sf_196_15, fd_196_16, sf_196_16, fd_196_17, sf_196_17, fd_196_18, sf_196_18, fd_196_19, sf_196_19, fd_196_20, sf_196_20, fd_196_21, sf_196_21, fd_196_22, sf_196_22, fd_196_23, sf_196_23, fd_196_24, sf_196_24, fd_196_25, sf_196_25, fd_196_26, sf_196_26, fd_196_27, fd_196_28, fd_196_29, fd_196_30, sf_196_30, fd_196_31, fd_196_32, fd_196_33, fd_196_34, fd_196_35, fd_196_36, fd_196_37, sf_196_37, fd_196_38, fd_196_39, sf_196_39, fd_196_40, sf_196_40, fd_196_41, sf_196_41, fd_196_42, fd_196_43, fd_196_44, ld_197, sd_197, ln_197, s_isIn, bI_0]
  exact ⟨rfl, trivial⟩
end MA
