section MA
variable {d : Nat} {g : Nat → Nat → Int32} {q : Nat → Nat → Int64} {P : QT}
theorem s_isIn {v l m : Int32} : callC (ev (d + 1)) mo_isIn [.int v, .int l, .int m] (E g q) P = P (some (.int (bI (decide (l ≤ v ∧ v ≤ m))))) (E g q) := by
  refine call_eq (in_mo_isIn rfl ?_)
  simp only [szS_0, szS_i, szS_r, szS_l, x_cons, x_goto, ob_some, kl_i, kl_r, kl_l, kl_n, push_n, push_s, pop_0, pop_i, pop_r, Int.reduceToNat, List.length_cons, List.length_nil, Nat.reduceAdd, Nat.reduceLeDiff, Nat.zero_add, true_and, nI_n0, nat_le, Nat.add_zero, rt_mo_isIn_0, rt_mo_isIn_1, rt_mo_isIn_b, x_goto, x_icgt, x_iclt, x_il0, x_il1, x_il2, x_iret, x_ldc, b_mo_isIn_0, b_mo_isIn_14, b_mo_isIn_15]
  split
  next h => exact ⟨by rw [bI_df fun e => by rw [← lt_le] at e; exact e.1 h], trivial⟩
  next h =>
    rw [lt_le] at h
    split
    next h2 => exact ⟨by rw [bI_df fun e => by rw [← lt_le (x := m)] at e; exact e.2 h2], trivial⟩
    next h2 =>
      rw [lt_le] at h2
      exact ⟨by rw [bI_dt ⟨h, h2⟩], trivial⟩
theorem s_own {n f : Nat} (h : 10 + 20 * n + f < 2955) : callC (ev (d + 1)) mo_own [.ref 196, .int (nI n), .int (nI f)] (E g q) P = P (some (.int (g 197 (10 + 20 * n + f)))) (E g q) := by
  refine call_eq (in_mo_own rfl ?_)
  simp (disch := omega) only [szS_0, szS_i, szS_r, szS_l, x_cons, x_goto, ob_some, kl_i, kl_r, kl_l, kl_n, push_n, push_s, pop_0, pop_i, pop_r, Int.reduceToNat, List.length_cons, List.length_nil, Nat.reduceAdd, Nat.reduceLeDiff, Nat.zero_add, true_and, nI_n0, nat_le, Nat.add_zero, rt_mo_own, x_al0, x_getf, x_iadd, x_iaload, x_il1, x_il2, x_imul, x_iret, x_ldc, b_mo_own_0, fd_196_0, fd_196_1, fd_196_2, fd_196_3, fd_196_4, sf_196_4, fd_196_5, sf_196_5, fd_196_6, fd_196_7, fd_196_8, fd_196_9, fd_196_10, fd_196_11, fd_196_12, sf_196_12, fd_196_13, sf_196_13, fd_196_14, sf_196_14, fd_196_15, sf_196_15, fd_196_16, sf_196_16, fd_196_17, sf_196_17, fd_196_18, sf_196_18, fd_196_19, sf_196_19, fd_196_20, sf_196_20, fd_196_21, sf_196_21, fd_196_22, sf_196_22, fd_196_23, sf_196_23, fd_196_24, sf_196_24, fd_196_25, sf_196_25, fd_196_26, sf_196_26, fd_196_27, fd_196_28, fd_196_29, fd_196_30, sf_196_30, fd_196_31, fd_196_32, fd_196_33, fd_196_34, fd_196_35, fd_196_36, fd_196_37, sf_196_37, fd_196_38, fd_196_39, sf_196_39, fd_196_40, sf_196_40, fd_196_41, sf_196_41, fd_196_42, fd_196_43, fd_196_44, ld_197, sd_197, ln_197, nI_add, nI_mul]
theorem s_gives {n f : Nat} {v : Int32} (h : 10 + 20 * n + f < 2955) : callC (ev (d + 1)) mo_gives [.ref 196, .int (nI n), .int (nI f), .int v] (E g q) P = P none (E (up2 g 197 (10 + 20 * n + f) v) q) := by
  refine call_eq (in_mo_gives rfl ?_)
  simp (disch := omega) only [szS_0, szS_i, szS_r, szS_l, x_cons, x_goto, ob_some, kl_i, kl_r, kl_l, kl_n, push_n, push_s, pop_0, pop_i, pop_r, Int.reduceToNat, List.length_cons, List.length_nil, Nat.reduceAdd, Nat.reduceLeDiff, Nat.zero_add, true_and, nI_n0, nat_le, Nat.add_zero, rt_mo_gives, x_al0, x_getf, x_iadd, x_iastore, x_il1, x_il2, x_il3, x_imul, x_ldc, x_vret, b_mo_gives_0, fd_196_0, fd_196_1, fd_196_2, fd_196_3, fd_196_4, sf_196_4, fd_196_5, sf_196_5, fd_196_6, fd_196_7, fd_196_8, fd_196_9, fd_196_10, fd_196_11, fd_196_12, sf_196_12, fd_196_13, sf_196_13, fd_196_14, sf_196_14, fd_196_15, sf_196_15, fd_196_16, sf_196_16, fd_196_17, sf_196_17, fd_196_18, sf_196_18, fd_196_19, sf_196_19, fd_196_20, sf_196_20, fd_196_21, sf_196_21, fd_196_22, sf_196_22, fd_196_23, sf_196_23, fd_196_24, sf_196_24, fd_196_25, sf_196_25, fd_196_26, sf_196_26, fd_196_27, fd_196_28, fd_196_29, fd_196_30, sf_196_30, fd_196_31, fd_196_32, fd_196_33, fd_196_34, fd_196_35, fd_196_36, fd_196_37, sf_196_37, fd_196_38, fd_196_39, sf_196_39, fd_196_40, sf_196_40, fd_196_41, sf_196_41, fd_196_42, fd_196_43, fd_196_44, ld_197, sd_197, ln_197, nI_add, nI_mul]
theorem s_lesser {a b : Int32} : callC (ev (d + 1)) mo_lesser [.int a, .int b] (E g q) P = P (some (.int (if a < b then a else b))) (E g q) := by
  refine call_eq (in_mo_lesser rfl ?_)
  simp only [szS_0, szS_i, szS_r, szS_l, x_cons, x_goto, ob_some, kl_i, kl_r, kl_l, kl_n, push_n, push_s, pop_0, pop_i, pop_r, Int.reduceToNat, List.length_cons, List.length_nil, Nat.reduceAdd, Nat.reduceLeDiff, Nat.zero_add, true_and, nI_n0, nat_le, Nat.add_zero, rt_mo_lesser, x_goto, x_icge, x_il0, x_il1, x_iret, b_mo_lesser_0, b_mo_lesser_9, b_mo_lesser_10]
  split <;> exact ⟨rfl, trivial⟩
theorem s_greater {a b : Int32} : callC (ev (d + 1)) mo_greater [.int a, .int b] (E g q) P = P (some (.int (if b < a then a else b))) (E g q) := by
  refine call_eq (in_mo_greater rfl ?_)
  simp only [szS_0, szS_i, szS_r, szS_l, x_cons, x_goto, ob_some, kl_i, kl_r, kl_l, kl_n, push_n, push_s, pop_0, pop_i, pop_r, Int.reduceToNat, List.length_cons, List.length_nil, Nat.reduceAdd, Nat.reduceLeDiff, Nat.zero_add, true_and, nI_n0, nat_le, Nat.add_zero, rt_mo_greater, x_goto, x_icle, x_il0, x_il1, x_iret, b_mo_greater_0, b_mo_greater_9, b_mo_greater_10]
  split <;> exact ⟨rfl, trivial⟩
def heldF (v l m : Int32) : Int32 := if (if m < v then m else v) < l then l else (if m < v then m else v)
theorem s_held {v l m : Int32} : callC (ev (d + 2)) mo_held [.int v, .int l, .int m] (E g q) P = P (some (.int (if (if m < v then m else v) < l then l else (if m < v then m else v)))) (E g q) := by
  refine call_eq (in_mo_held rfl ?_)
  simp only [szS_0, szS_i, szS_r, szS_l, x_cons, x_goto, ob_some, kl_i, kl_r, kl_l, kl_n, push_n, push_s, pop_0, pop_i, pop_r, Int.reduceToNat, List.length_cons, List.length_nil, Nat.reduceAdd, Nat.reduceLeDiff, Nat.zero_add, true_and, nI_n0, nat_le, Nat.add_zero, rt_mo_held, x_call, x_il0, x_il1, x_il2, x_iret, b_mo_held_0, s_lesser, s_greater]
def nodeB (w : Nat → Int32) (n : Int32) : Bool := decide (nI 0 ≤ n ∧ n ≤ w 0 - nI 1)
def forkB (w : Nat → Int32) (n : Int32) : Bool := nodeB w n && decide (w (10 + 20 * ix n) = nI 0)
def townB (w : Nat → Int32) (n : Int32) : Bool := nodeB w n && decide (w (10 + 20 * ix n) = nI 1)
def armB (w : Nat → Int32) (n a : Int32) : Bool := forkB w n && decide (nI 0 ≤ a ∧ a ≤ w (11 + 20 * ix n) - nI 1)
theorem s_isNode {n : Int32} : callC (ev (d + 2)) mo_isNode [.ref 196, .int n] (E g q) P = P (some (.int (bI (nodeB (g 197) n)))) (E g q) := by
  refine call_eq (in_mo_isNode rfl ?_)
  simp (disch := omega) only [szS_0, szS_i, szS_r, szS_l, x_cons, x_goto, ob_some, kl_i, kl_r, kl_l, kl_n, push_n, push_s, pop_0, pop_i, pop_r, Int.reduceToNat, List.length_cons, List.length_nil, Nat.reduceAdd, Nat.reduceLeDiff, Nat.zero_add, true_and, nI_n0, nat_le, Nat.add_zero, rt_mo_isNode_0, rt_mo_isNode_1, rt_mo_isNode_b, x_al0, x_call, x_getf, x_iaload, x_il1, x_iret, x_isub, x_ldc, b_mo_isNode_0, fd_196_0, fd_196_1, fd_196_2, fd_196_3, fd_196_4, sf_196_4, fd_196_5, sf_196_5, fd_196_6, fd_196_7, fd_196_8, fd_196_9, fd_196_10, fd_196_11, fd_196_12, sf_196_12, fd_196_13, sf_196_13, fd_196_14, sf_196_14, fd_196_15, sf_196_15, fd_196_16, sf_196_16, fd_196_17, sf_196_17, fd_196_18, sf_196_18, fd_196_19, sf_196_19, fd_196_20, sf_196_20, fd_196_21, sf_196_21, fd_196_22, sf_196_22, fd_196_23, sf_196_23, fd_196_24, sf_196_24, fd_196_25, sf_196_25, fd_196_26, sf_196_26, fd_196_27, fd_196_28, fd_196_29, fd_196_30, sf_196_30, fd_196_31, fd_196_32, fd_196_33, fd_196_34, fd_196_35, fd_196_36, fd_196_37, sf_196_37, fd_196_38, fd_196_39, sf_196_39, fd_196_40, sf_196_40, fd_196_41, sf_196_41, fd_196_42, fd_196_43, fd_196_44, ld_197, sd_197, ln_197, s_isIn, bI_0]
  exact ⟨rfl, trivial⟩
end MA
/-- a cell of the row as a number -/
def vN (w : Nat → Int32) (k : Nat) : Nat := ix (w k)
def rg (w : Nat → Int32) (k m : Nat) : Prop := w k = nI (vN w k) ∧ vN w k ≤ m
def nn (w : Nat → Int32) : Nat := vN w 0
/-- field f of node n -/
def fd (w : Nat → Int32) (n f : Nat) : Nat := vN w (10 + 20 * n + f)
def NI (w : Nat → Int32) (n : Nat) : Prop :=
  (rg w (10 + 20 * n) 2 ∧ rg w (10 + 20 * n + 1) 3 ∧ rg w (10 + 20 * n + 2) 15 ∧ rg w (10 + 20 * n + 3) 15 ∧ rg w (10 + 20 * n + 4) 15) ∧
  (rg w (10 + 20 * n + 5) 7 ∧ rg w (10 + 20 * n + 6) 99 ∧ rg w (10 + 20 * n + 7) 999 ∧ rg w (10 + 20 * n + 8) 999 ∧ rg w (10 + 20 * n + 9) 999) ∧
  (rg w (10 + 20 * n + 10) 6000000 ∧ rg w (10 + 20 * n + 11) 999 ∧ rg w (10 + 20 * n + 12) 1998 ∧ rg w (10 + 20 * n + 13) 99 ∧ rg w (10 + 20 * n + 14) 9 ∧ rg w (10 + 20 * n + 15) 9 ∧ rg w (10 + 20 * n + 16) (50 * fd w n 15) ∧ rg w (10 + 20 * n + 17) 1) ∧
  (n < nn w → (fd w n 0 = 0 → 2 ≤ fd w n 1 ∧ 1 ≤ fd w n 5 ∧ fd w n 5 < 2 ^ fd w n 1) ∧ (fd w n 0 = 1 → fd w n 1 = 1 ∧ 1 ≤ fd w n 11) ∧ (fd w n 0 = 2 → fd w n 1 = 0)) ∧
  (nn w ≤ n → fd w n 0 = 0 ∧ fd w n 1 = 0 ∧ fd w n 5 = 0) ∧
  (∀ a, a < fd w n 1 → n < fd w n (2 + a) ∧ fd w n (2 + a) < nn w) ∧
  ((nn w ≤ n ∨ fd w n 0 ≠ 1) → ∀ f, 10 ≤ f → f < 18 → fd w n f = 0)
/-- the sum of the heads of the nodes below n -/
def sumH (w : Nat → Int32) : Nat → Nat
  | 0 => 0
  | n + 1 => sumH w n + fd w n 10
def WI (w : Nat → Int32) : Prop :=
  (rg w 0 16 ∧ 1 ≤ nn w) ∧ rg w 2 150 ∧ (rg w 6 999 ∧ rg w 7 33 ∧ rg w 8 1000 ∧ rg w 9 1000) ∧ (∀ n, n < 16 → NI w n) ∧ sumH w 16 ≤ 6000000
theorem wi_n {w : Nat → Int32} (h : WI w) : w 0 = nI (nn w) ∧ nn w ≤ 16 ∧ 1 ≤ nn w := ⟨h.1.1.1, h.1.1.2, h.1.2⟩
theorem nodeB_nI {w : Nat → Int32} (h : WI w) {k : Nat} (hk : k < 2147483648) : nodeB w (nI k) = decide (k < nn w) := by
  obtain ⟨e, h1, h2⟩ := wi_n h
  unfold nodeB
  refine decide_eq_decide.mpr ?_
  rw [e, pk_sub h2, nI_leE (by omega) hk, nI_leE hk (by omega)]
  omega
theorem nodeB_ex {w : Nat → Int32} (h : WI w) {n : Int32} (hn : nodeB w n = true) : ∃ k, k < nn w ∧ n = nI k := by
  obtain ⟨e, h1, h2⟩ := wi_n h
  unfold nodeB at hn
  have hn := of_decide_eq_true hn
  rw [e, pk_sub h2, leE (x := n), nI_I (a := nn w - 1) (by omega)] at hn
  refine nI_is hn.1 ?_ (by omega)
  rw [ltE, nI_I (by omega)]
  omega
section MB
variable {d : Nat} {g : Nat → Nat → Int32} {q : Nat → Nat → Int64} {P : QT}
theorem s_isFork (hw : WI (g 197)) {n : Int32} : callC (ev (d + 3)) mo_isFork [.ref 196, .int n] (E g q) P = P (some (.int (bI (forkB (g 197) n)))) (E g q) := by
  refine call_eq (in_mo_isFork rfl ?_)
  simp (disch := omega) only [szS_0, szS_i, szS_r, szS_l, x_cons, x_goto, ob_some, kl_i, kl_r, kl_l, kl_n, push_n, push_s, pop_0, pop_i, pop_r, Int.reduceToNat, List.length_cons, List.length_nil, Nat.reduceAdd, Nat.reduceLeDiff, Nat.zero_add, true_and, nI_n0, nat_le, Nat.add_zero, rt_mo_isFork_0, rt_mo_isFork_1, rt_mo_isFork_b, x_al0, x_call, x_goto, x_ifeq, x_ifne, x_il1, x_iret, x_ldc, b_mo_isFork_0, b_mo_isFork_21, b_mo_isFork_22, s_isNode, bI_0]
  cases hn : nodeB (g 197) n with
  | false =>
    simp only [↓reduceIte, forkB, hn, Bool.false_and, bI, rt_mo_isFork_0, true_and, and_true, Bool.false_eq_true]
  | true =>
    obtain ⟨k, hk, rfl⟩ := nodeB_ex hw hn
    have := wi_n hw
    simp (disch := omega) only [s_own, forkB, hn, Bool.true_and, ix_nI, Bool.true_eq_false, ↓reduceIte, szS_0, szS_i, szS_r, szS_l, x_cons, x_goto, ob_some, kl_i, kl_r, kl_l, kl_n, push_n, push_s, pop_0, pop_i, pop_r, Int.reduceToNat, List.length_cons, List.length_nil, Nat.reduceAdd, Nat.reduceLeDiff, Nat.zero_add, true_and, nI_n0, nat_le, Nat.add_zero, rt_mo_isFork_0, rt_mo_isFork_1, rt_mo_isFork_b, x_al0, x_call, x_goto, x_ifeq, x_ifne, x_il1, x_iret, x_ldc, b_mo_isFork_0, b_mo_isFork_21, b_mo_isFork_22]
    split
    next h => simp only [h, bI, decide_true, ↓reduceIte, rt_mo_isFork_1, and_self]
    next h => simp only [h, bI, decide_false, ↓reduceIte, rt_mo_isFork_0, and_self, Bool.false_eq_true]
theorem s_isTown (hw : WI (g 197)) {n : Int32} : callC (ev (d + 3)) mo_isTown [.ref 196, .int n] (E g q) P = P (some (.int (bI (townB (g 197) n)))) (E g q) := by
  refine call_eq (in_mo_isTown rfl ?_)
  simp (disch := omega) only [szS_0, szS_i, szS_r, szS_l, x_cons, x_goto, ob_some, kl_i, kl_r, kl_l, kl_n, push_n, push_s, pop_0, pop_i, pop_r, Int.reduceToNat, List.length_cons, List.length_nil, Nat.reduceAdd, Nat.reduceLeDiff, Nat.zero_add, true_and, nI_n0, nat_le, Nat.add_zero, rt_mo_isTown_0, rt_mo_isTown_1, rt_mo_isTown_b, x_al0, x_call, x_goto, x_icne, x_ifeq, x_il1, x_iret, x_ldc, b_mo_isTown_0, b_mo_isTown_22, b_mo_isTown_23, s_isNode, bI_0]
  cases hn : nodeB (g 197) n with
  | false =>
    simp only [↓reduceIte, townB, hn, Bool.false_and, bI, rt_mo_isTown_0, true_and, and_true, Bool.false_eq_true]
  | true =>
    obtain ⟨k, hk, rfl⟩ := nodeB_ex hw hn
    have := wi_n hw
    simp (disch := omega) only [s_own, townB, hn, Bool.true_and, ix_nI, Bool.true_eq_false, ↓reduceIte, szS_0, szS_i, szS_r, szS_l, x_cons, x_goto, ob_some, kl_i, kl_r, kl_l, kl_n, push_n, push_s, pop_0, pop_i, pop_r, Int.reduceToNat, List.length_cons, List.length_nil, Nat.reduceAdd, Nat.reduceLeDiff, Nat.zero_add, true_and, nI_n0, nat_le, Nat.add_zero, rt_mo_isTown_0, rt_mo_isTown_1, rt_mo_isTown_b, x_al0, x_call, x_goto, x_icne, x_ifeq, x_il1, x_iret, x_ldc, b_mo_isTown_0, b_mo_isTown_22, b_mo_isTown_23]
    split
    next h => simp only [h, bI, decide_true, ↓reduceIte, rt_mo_isTown_1, and_self]
    next h => simp only [h, bI, decide_false, ↓reduceIte, rt_mo_isTown_0, and_self, Bool.false_eq_true]
theorem forkB_ex {w : Nat → Int32} (h : WI w) {n : Int32} (hn : forkB w n = true) : ∃ k, k < nn w ∧ n = nI k ∧ fd w k 0 = 0 := by
  unfold forkB at hn
  rw [Bool.and_eq_true] at hn
  obtain ⟨k, hk, rfl⟩ := nodeB_ex h hn.1
  have := wi_n h
  have h2 := of_decide_eq_true hn.2
  rw [ix_nI (by omega)] at h2
  refine ⟨k, hk, rfl, ?_⟩
  unfold fd vN
  rw [Nat.add_zero, h2]
  rfl
theorem townB_ex {w : Nat → Int32} (h : WI w) {n : Int32} (hn : townB w n = true) : ∃ k, k < nn w ∧ n = nI k ∧ fd w k 0 = 1 := by
  unfold townB at hn
  rw [Bool.and_eq_true] at hn
  obtain ⟨k, hk, rfl⟩ := nodeB_ex h hn.1
  have := wi_n h
  have h2 := of_decide_eq_true hn.2
  rw [ix_nI (by omega)] at h2
  refine ⟨k, hk, rfl, ?_⟩
  unfold fd vN
  rw [Nat.add_zero, h2]
  rfl
theorem wi_f {w : Nat → Int32} (h : WI w) {n : Nat} (hn : n < 16) : NI w n := h.2.2.2.1 n hn
theorem wi_0 {w : Nat → Int32} (h : WI w) {n : Nat} (hn : n < 16) : w (10 + 20 * n) = nI (fd w n 0) ∧ fd w n 0 ≤ 2 := (wi_f h hn).1.1
theorem wi_1 {w : Nat → Int32} (h : WI w) {n : Nat} (hn : n < 16) : w (10 + 20 * n + 1) = nI (fd w n 1) ∧ fd w n 1 ≤ 3 := (wi_f h hn).1.2.1
theorem wi_t {w : Nat → Int32} (h : WI w) {n a : Nat} (hn : n < 16) (ha : a < 3) : w (10 + 20 * n + (2 + a)) = nI (fd w n (2 + a)) ∧ fd w n (2 + a) ≤ 15 := by
  obtain ⟨_, _, a0, a1, a2⟩ := (wi_f h hn).1
  match a, ha with
  | 0, _ => exact a0
  | 1, _ => exact a1
  | 2, _ => exact a2
theorem wi_to {w : Nat → Int32} (h : WI w) {n a : Nat} (hn : n < 16) (ha : a < fd w n 1) : n < fd w n (2 + a) ∧ fd w n (2 + a) < nn w := (wi_f h hn).2.2.2.2.2.1 a ha
theorem forkB_nI {w : Nat → Int32} (h : WI w) {k : Nat} (hk : k < 2147483648) : forkB w (nI k) = (decide (k < nn w) && decide (fd w k 0 = 0)) := by
  unfold forkB
  rw [nodeB_nI h hk, ix_nI hk]
  by_cases e : k < nn w
  · have := wi_n h
    rw [(wi_0 h (n := k) (by omega)).1]
    congr 1
    refine decide_eq_decide.mpr ?_
    rw [nI_eqE (by have := (wi_0 h (n := k) (by omega)).2; omega) (by decide)]
  · rw [decide_eq_false e]
    rfl
theorem townB_nI {w : Nat → Int32} (h : WI w) {k : Nat} (hk : k < 2147483648) : townB w (nI k) = (decide (k < nn w) && decide (fd w k 0 = 1)) := by
  unfold townB
  rw [nodeB_nI h hk, ix_nI hk]
  by_cases e : k < nn w
  · have := wi_n h
    rw [(wi_0 h (n := k) (by omega)).1]
    congr 1
    refine decide_eq_decide.mpr ?_
    rw [nI_eqE (by have := (wi_0 h (n := k) (by omega)).2; omega) (by decide)]
  · rw [decide_eq_false e]
    rfl
theorem s_isArm (hw : WI (g 197)) {n a : Int32} : callC (ev (d + 4)) mo_isArm [.ref 196, .int n, .int a] (E g q) P = P (some (.int (bI (armB (g 197) n a)))) (E g q) := by
  refine call_eq (in_mo_isArm rfl ?_)
  simp (disch := first | assumption | omega) only [szS_0, szS_i, szS_r, szS_l, x_cons, x_goto, ob_some, kl_i, kl_r, kl_l, kl_n, push_n, push_s, pop_0, pop_i, pop_r, Int.reduceToNat, List.length_cons, List.length_nil, Nat.reduceAdd, Nat.reduceLeDiff, Nat.zero_add, true_and, nI_n0, nat_le, Nat.add_zero, rt_mo_isArm_0, rt_mo_isArm_1, rt_mo_isArm_b, x_al0, x_call, x_goto, x_ifeq, x_il1, x_il2, x_iret, x_isub, x_ldc, b_mo_isArm_0, b_mo_isArm_28, b_mo_isArm_29, s_isFork, bI_0]
  cases hn : forkB (g 197) n with
  | false =>
    simp only [↓reduceIte, armB, hn, Bool.false_and, bI, rt_mo_isArm_0, true_and, and_true, Bool.false_eq_true]
  | true =>
    obtain ⟨k, hk, rfl, _⟩ := forkB_ex hw hn
    have := wi_n hw
    have e : 11 + 20 * k = 10 + 20 * k + 1 := by omega
    simp (disch := omega) only [s_own, s_isIn, armB, hn, Bool.true_and, ix_nI, Bool.true_eq_false, ↓reduceIte, e, bI_0, szS_0, szS_i, szS_r, szS_l, x_cons, x_goto, ob_some, kl_i, kl_r, kl_l, kl_n, push_n, push_s, pop_0, pop_i, pop_r, Int.reduceToNat, List.length_cons, List.length_nil, Nat.reduceAdd, Nat.reduceLeDiff, Nat.zero_add, true_and, nI_n0, nat_le, Nat.add_zero, rt_mo_isArm_0, rt_mo_isArm_1, rt_mo_isArm_b, x_al0, x_call, x_goto, x_ifeq, x_il1, x_il2, x_iret, x_isub, x_ldc, b_mo_isArm_0, b_mo_isArm_28, b_mo_isArm_29]
    split
    next h => simp only [h, bI, ↓reduceIte, rt_mo_isArm_0, and_self, Bool.false_eq_true]
    next h =>
      rw [Bool.not_eq_false] at h
      simp only [h, bI, ↓reduceIte, rt_mo_isArm_1, and_self]
theorem s_goesTo {n a : Nat} (h : 10 + 20 * n + (2 + a) < 2955) : callC (ev (d + 2)) mo_goesTo [.ref 196, .int (nI n), .int (nI a)] (E g q) P = P (some (.int (g 197 (10 + 20 * n + (2 + a))))) (E g q) := by
  refine call_eq (in_mo_goesTo rfl ?_)
  simp (disch := omega) only [szS_0, szS_i, szS_r, szS_l, x_cons, x_goto, ob_some, kl_i, kl_r, kl_l, kl_n, push_n, push_s, pop_0, pop_i, pop_r, Int.reduceToNat, List.length_cons, List.length_nil, Nat.reduceAdd, Nat.reduceLeDiff, Nat.zero_add, true_and, nI_n0, nat_le, Nat.add_zero, rt_mo_goesTo, x_al0, x_call, x_iadd, x_il1, x_il2, x_iret, x_ldc, b_mo_goesTo_0, s_own, nI_add]
theorem s_forgets : callC (ev (d + 1)) mo_forgets [.ref 196] (E g q) P = P none (E (up2 g 196 4 (nI 0)) q) := by
  refine call_eq (in_mo_forgets rfl ?_)
  simp (disch := omega) only [szS_0, szS_i, szS_r, szS_l, x_cons, x_goto, ob_some, kl_i, kl_r, kl_l, kl_n, push_n, push_s, pop_0, pop_i, pop_r, Int.reduceToNat, List.length_cons, List.length_nil, Nat.reduceAdd, Nat.reduceLeDiff, Nat.zero_add, true_and, nI_n0, nat_le, Nat.add_zero, rt_mo_forgets, x_al0, x_ldc, x_putf, x_vret, b_mo_forgets_0, fd_196_0, fd_196_1, fd_196_2, fd_196_3, fd_196_4, sf_196_4, fd_196_5, sf_196_5, fd_196_6, fd_196_7, fd_196_8, fd_196_9, fd_196_10, fd_196_11, fd_196_12, sf_196_12, fd_196_13, sf_196_13, fd_196_14, sf_196_14, fd_196_15, sf_196_15, fd_196_16, sf_196_16, fd_196_17, sf_196_17, fd_196_18, sf_196_18, fd_196_19, sf_196_19, fd_196_20, sf_196_20, fd_196_21, sf_196_21, fd_196_22, sf_196_22, fd_196_23, sf_196_23, fd_196_24, sf_196_24, fd_196_25, sf_196_25, fd_196_26, sf_196_26, fd_196_27, fd_196_28, fd_196_29, fd_196_30, sf_196_30, fd_196_31, fd_196_32, fd_196_33, fd_196_34, fd_196_35, fd_196_36, fd_196_37, sf_196_37, fd_196_38, fd_196_39, sf_196_39, fd_196_40, sf_196_40, fd_196_41, sf_196_41, fd_196_42, fd_196_43, fd_196_44]
end MB
