/-! the class's nodes; what ties it to the row. Rows made by a program -/
/-- the class's Told at t holds the row's nodes, their state, the day -/
def Tc (t : Nat) (w : Nat → Int32) (g : Nat → Nat → Int32) : Prop :=
  (g (t + 1) 0 = w 0 ∧ g (t + 6) 0 = w 1 ∧ g (t + 6) 1 = w 4 ∧ g (t + 6) 2 = w 3 ∧ g (t + 7) 0 = w 6 ∧ g (t + 7) 1 = w 7) ∧
  (∀ n, n < 16 → g (t + 2) n = w (10 + 20 * n) ∧ g (t + 3) n = w (10 + 20 * n + 1)) ∧
  (∀ n a, n < 16 → a < 3 → g (t + 4) (n * 3 + a) = w (10 + 20 * n + (2 + a))) ∧
  (∀ s m, s < nn w → m < 16 → g (t + 5) (s * 16 + m) = nN (far w s m)) ∧
  (∀ n, n < nn w → fd w n 0 = 0 → g (t + 17) n = w (10 + 20 * n + 5) ∧ g (t + 18) n = w (10 + 20 * n + 6) ∧ ∀ a, a < 3 → g (t + 19) (n * 3 + a) = w (10 + 20 * n + (7 + a))) ∧
  (∀ n, n < 16 → g (t + 9) n = w (10 + 20 * n + 10) ∧ g (t + 10) n = w (10 + 20 * n + 11) ∧ g (t + 11) n = w (10 + 20 * n + 15) ∧ g (t + 12) n = w (10 + 20 * n + 16) ∧ g (t + 13) n = w (10 + 20 * n + 12) ∧ g (t + 14) n = w (10 + 20 * n + 13) ∧ g (t + 15) n = w (10 + 20 * n + 14) ∧ g (t + 16) n = w (10 + 20 * n + 17)) ∧
  (∀ k, k < 256 → g (t + 20) k = w (340 + k))
theorem tc_n {t : Nat} {w : Nat → Int32} {g : Nat → Nat → Int32} (h : Tc t w g) : g (t + 1) 0 = w 0 := h.1.1
theorem tc_so {t : Nat} {w : Nat → Int32} {g : Nat → Nat → Int32} (h : Tc t w g) {n : Nat} (hn : n < 16) : g (t + 2) n = w (10 + 20 * n) := (h.2.1 n hn).1
theorem tc_am {t : Nat} {w : Nat → Int32} {g : Nat → Nat → Int32} (h : Tc t w g) {n : Nat} (hn : n < 16) : g (t + 3) n = w (10 + 20 * n + 1) := (h.2.1 n hn).2
theorem tc_to {t : Nat} {w : Nat → Int32} {g : Nat → Nat → Int32} (h : Tc t w g) {n a : Nat} (hn : n < 16) (ha : a < 3) : g (t + 4) (n * 3 + a) = w (10 + 20 * n + (2 + a)) := h.2.2.1 n a hn ha
theorem tc_fa {t : Nat} {w : Nat → Int32} {g : Nat → Nat → Int32} (h : Tc t w g) {s m : Nat} (hs : s < nn w) (hm : m < 16) : g (t + 5) (s * 16 + m) = nN (far w s m) := h.2.2.2.1 s m hs hm
theorem tc_f {t : Nat} {w : Nat → Int32} {g : Nat → Nat → Int32} (h : Tc t w g) {n : Nat} (hn : n < nn w) (h0 : fd w n 0 = 0) : g (t + 17) n = w (10 + 20 * n + 5) ∧ g (t + 18) n = w (10 + 20 * n + 6) ∧ ∀ a, a < 3 → g (t + 19) (n * 3 + a) = w (10 + 20 * n + (7 + a)) := h.2.2.2.2.1 n hn h0
theorem tc_t {t : Nat} {w : Nat → Int32} {g : Nat → Nat → Int32} (h : Tc t w g) {n : Nat} (hn : n < 16) : g (t + 9) n = w (10 + 20 * n + 10) ∧ g (t + 10) n = w (10 + 20 * n + 11) ∧ g (t + 11) n = w (10 + 20 * n + 15) ∧ g (t + 12) n = w (10 + 20 * n + 16) ∧ g (t + 13) n = w (10 + 20 * n + 12) ∧ g (t + 14) n = w (10 + 20 * n + 13) ∧ g (t + 15) n = w (10 + 20 * n + 14) ∧ g (t + 16) n = w (10 + 20 * n + 17) := h.2.2.2.2.2.1 n hn
/-- cells of t that the tie doesn't read -/
theorem Tc_c {t : Nat} {w : Nat → Int32} {g g' : Nat → Nat → Int32} (h : Tc t w g) (e : ∀ a, t < a → a < t + 21 → g' a = g a) : Tc t w g' := by
  obtain ⟨h1, h2, h3, h4, h5, h6, h7⟩ := h
  refine ⟨?_, ?_, ?_, ?_, ?_, ?_, ?_⟩
  · rw [e (t + 1) (by omega) (by omega), e (t + 6) (by omega) (by omega), e (t + 7) (by omega) (by omega)]
    exact h1
  · rw [e (t + 2) (by omega) (by omega), e (t + 3) (by omega) (by omega)]
    exact h2
  · rw [e (t + 4) (by omega) (by omega)]
    exact h3
  · rw [e (t + 5) (by omega) (by omega)]
    exact h4
  · rw [e (t + 17) (by omega) (by omega), e (t + 18) (by omega) (by omega), e (t + 19) (by omega) (by omega)]
    exact h5
  · rw [e (t + 9) (by omega) (by omega), e (t + 10) (by omega) (by omega), e (t + 11) (by omega) (by omega), e (t + 12) (by omega) (by omega), e (t + 13) (by omega) (by omega), e (t + 14) (by omega) (by omega), e (t + 15) (by omega) (by omega), e (t + 16) (by omega) (by omega)]
    exact h6
  · rw [e (t + 20) (by omega) (by omega)]
    exact h7
theorem nI_lt0 {w : Nat → Int32} (h : WI w) {n : Int32} : (¬ n < nI 0 ∧ n < w 0) ↔ nodeB w n = true := by
  obtain ⟨e, h1, h2⟩ := wi_n h
  unfold nodeB
  rw [decide_eq_true_eq, lt_le, e, nI_sub h2, ltE, leE (x := n) (z := nI (nn w - 1)), nI_I (by omega), nI_I (by omega)]
  constructor
  · rintro ⟨a, b⟩
    exact ⟨a, by omega⟩
  · rintro ⟨a, b⟩
    exact ⟨a, by omega⟩
section CA
variable {d : Nat} {g : Nat → Nat → Int32} {q : Nat → Nat → Int64} {P : QT} {t : Nat} {w : Nat → Int32}
theorem s_hasNode (hT : t = 1 ∨ t = 31 ∨ t = 61) (hw : WI w) (hc : g (t + 1) 0 = w 0) {n : Int32} : callC (ev (d + 1)) de_hasNode [.ref (t + 1), .int n] (E g q) P = P (some (.int (bI (nodeB w n)))) (E g q) := by
  refine call_eq (in_de_hasNode (by rcases hT with rfl | rfl | rfl <;> rfl) ?_)
  have hb := nI_lt0 hw (n := n)
  rw [b_de_hasNode_0]
  simp -implicitDefEqProofs (disch := first | assumption | omega) only [szS_0, szS_i, szS_r, szS_l, x_cons, x_goto, ob_some, kl_i, kl_r, kl_l, kl_n, push_n, push_s, pop_0, pop_i, pop_r, Int.reduceToNat, List.length_cons, List.length_nil, Nat.reduceAdd, Nat.reduceLeDiff, Nat.zero_add, true_and, nI_n0, nat_le, Nat.add_zero, rt_de_hasNode_0, rt_de_hasNode_1, rt_de_hasNode_b, x_al0, x_getf, x_goto, x_icge, x_iflt, x_il1, x_iret, x_ldc, tf_1_0, tf_1_1, tf_1_2, tf_1_3, tf_1_4, ts_1_0, hc]
  by_cases h1 : n < nI 0
  · have e : nodeB w n = false := bne_f fun e => (hb.mpr e).1 h1
    simp -implicitDefEqProofs (disch := first | assumption | omega) only [h1, e, ↓reduceIte, b_de_hasNode_16, b_de_hasNode_17, szS_0, szS_i, szS_r, szS_l, x_cons, x_goto, ob_some, kl_i, kl_r, kl_l, kl_n, push_n, push_s, pop_0, pop_i, pop_r, Int.reduceToNat, List.length_cons, List.length_nil, Nat.reduceAdd, Nat.reduceLeDiff, Nat.zero_add, true_and, nI_n0, nat_le, Nat.add_zero, rt_de_hasNode_0, rt_de_hasNode_1, rt_de_hasNode_b, x_al0, x_getf, x_goto, x_icge, x_iflt, x_il1, x_iret, x_ldc, bI, Bool.false_eq_true, rt_de_hasNode_0]
    all_goals first | rfl | exact ⟨rfl, rfl⟩ | exact ⟨rfl, trivial⟩ | exact ⟨trivial, rfl⟩ | trivial
  · by_cases h2 : n < w 0
    · have e : nodeB w n = true := hb.mp ⟨h1, h2⟩
      simp -implicitDefEqProofs (disch := first | assumption | omega) only [h1, h2, e, ↓reduceIte, b_de_hasNode_17, szS_0, szS_i, szS_r, szS_l, x_cons, x_goto, ob_some, kl_i, kl_r, kl_l, kl_n, push_n, push_s, pop_0, pop_i, pop_r, Int.reduceToNat, List.length_cons, List.length_nil, Nat.reduceAdd, Nat.reduceLeDiff, Nat.zero_add, true_and, nI_n0, nat_le, Nat.add_zero, rt_de_hasNode_0, rt_de_hasNode_1, rt_de_hasNode_b, x_al0, x_getf, x_goto, x_icge, x_iflt, x_il1, x_iret, x_ldc, bI, rt_de_hasNode_1]
      all_goals first | rfl | exact ⟨rfl, rfl⟩ | exact ⟨rfl, trivial⟩ | exact ⟨trivial, rfl⟩ | trivial
    · have e : nodeB w n = false := bne_f fun e => h2 (hb.mpr e).2
      simp -implicitDefEqProofs (disch := first | assumption | omega) only [h1, h2, e, ↓reduceIte, b_de_hasNode_16, b_de_hasNode_17, szS_0, szS_i, szS_r, szS_l, x_cons, x_goto, ob_some, kl_i, kl_r, kl_l, kl_n, push_n, push_s, pop_0, pop_i, pop_r, Int.reduceToNat, List.length_cons, List.length_nil, Nat.reduceAdd, Nat.reduceLeDiff, Nat.zero_add, true_and, nI_n0, nat_le, Nat.add_zero, rt_de_hasNode_0, rt_de_hasNode_1, rt_de_hasNode_b, x_al0, x_getf, x_goto, x_icge, x_iflt, x_il1, x_iret, x_ldc, bI, Bool.false_eq_true, rt_de_hasNode_0]
      all_goals first | rfl | exact ⟨rfl, rfl⟩ | exact ⟨rfl, trivial⟩ | exact ⟨trivial, rfl⟩ | trivial
theorem s_cFork (hT : t = 1 ∨ t = 31 ∨ t = 61) (hw : WI w) (hc : Tc t w g) {n : Int32} : callC (ev (d + 2)) de_isFork [.ref (t + 1), .int n] (E g q) P = P (some (.int (bI (forkB w n)))) (E g q) := by
  refine call_eq (in_de_isFork (by rcases hT with rfl | rfl | rfl <;> rfl) ?_)
  have hcn := hc.1.1
  rw [b_de_isFork_0]
  simp -implicitDefEqProofs (disch := first | assumption | omega) only [szS_0, szS_i, szS_r, szS_l, x_cons, x_goto, ob_some, kl_i, kl_r, kl_l, kl_n, push_n, push_s, pop_0, pop_i, pop_r, Int.reduceToNat, List.length_cons, List.length_nil, Nat.reduceAdd, Nat.reduceLeDiff, Nat.zero_add, true_and, nI_n0, nat_le, Nat.add_zero, rt_de_isFork_0, rt_de_isFork_1, rt_de_isFork_b, x_al0, x_call, x_getf, x_goto, x_iaload, x_ifeq, x_ifne, x_il1, x_iret, x_ldc, s_hasNode, bI_0]
  unfold forkB
  by_cases h1 : nodeB w n = false
  · simp -implicitDefEqProofs (disch := first | assumption | omega) only [h1, ↓reduceIte, b_de_isFork_21, b_de_isFork_22, szS_0, szS_i, szS_r, szS_l, x_cons, x_goto, ob_some, kl_i, kl_r, kl_l, kl_n, push_n, push_s, pop_0, pop_i, pop_r, Int.reduceToNat, List.length_cons, List.length_nil, Nat.reduceAdd, Nat.reduceLeDiff, Nat.zero_add, true_and, nI_n0, nat_le, Nat.add_zero, rt_de_isFork_0, rt_de_isFork_1, rt_de_isFork_b, x_al0, x_call, x_getf, x_goto, x_iaload, x_ifeq, x_ifne, x_il1, x_iret, x_ldc, bI, Bool.false_and, Bool.false_eq_true, rt_de_isFork_0]
    all_goals first | rfl | exact ⟨rfl, rfl⟩ | exact ⟨rfl, trivial⟩ | exact ⟨trivial, rfl⟩ | trivial
  · have h1 := bne_t h1
    obtain ⟨k, hk, rfl⟩ := nodeB_ex hw h1
    have h0 := wi_n hw
    have e2 := tc_so hc (n := k) (by omega)
    rw [ix_nI (by omega)]
    simp -implicitDefEqProofs (disch := first | assumption | omega) only [h1, Bool.true_eq_false, Bool.true_and, ↓reduceIte, tf_1_0, tf_1_1, tf_1_2, tf_1_3, tf_1_4, ts_1_0, tl_2, td_2, e2, szS_0, szS_i, szS_r, szS_l, x_cons, x_goto, ob_some, kl_i, kl_r, kl_l, kl_n, push_n, push_s, pop_0, pop_i, pop_r, Int.reduceToNat, List.length_cons, List.length_nil, Nat.reduceAdd, Nat.reduceLeDiff, Nat.zero_add, true_and, nI_n0, nat_le, Nat.add_zero, rt_de_isFork_0, rt_de_isFork_1, rt_de_isFork_b, x_al0, x_call, x_getf, x_goto, x_iaload, x_ifeq, x_ifne, x_il1, x_iret, x_ldc]
    by_cases h2 : w (10 + 20 * k) = nI 0
    · simp -implicitDefEqProofs (disch := first | assumption | omega) only [h2, ↓reduceIte, decide_true, b_de_isFork_22, szS_0, szS_i, szS_r, szS_l, x_cons, x_goto, ob_some, kl_i, kl_r, kl_l, kl_n, push_n, push_s, pop_0, pop_i, pop_r, Int.reduceToNat, List.length_cons, List.length_nil, Nat.reduceAdd, Nat.reduceLeDiff, Nat.zero_add, true_and, nI_n0, nat_le, Nat.add_zero, rt_de_isFork_0, rt_de_isFork_1, rt_de_isFork_b, x_al0, x_call, x_getf, x_goto, x_iaload, x_ifeq, x_ifne, x_il1, x_iret, x_ldc, bI, rt_de_isFork_1]
      all_goals first | rfl | exact ⟨rfl, rfl⟩ | exact ⟨rfl, trivial⟩ | exact ⟨trivial, rfl⟩ | trivial
    · simp -implicitDefEqProofs (disch := first | assumption | omega) only [h2, ↓reduceIte, decide_false, b_de_isFork_21, b_de_isFork_22, szS_0, szS_i, szS_r, szS_l, x_cons, x_goto, ob_some, kl_i, kl_r, kl_l, kl_n, push_n, push_s, pop_0, pop_i, pop_r, Int.reduceToNat, List.length_cons, List.length_nil, Nat.reduceAdd, Nat.reduceLeDiff, Nat.zero_add, true_and, nI_n0, nat_le, Nat.add_zero, rt_de_isFork_0, rt_de_isFork_1, rt_de_isFork_b, x_al0, x_call, x_getf, x_goto, x_iaload, x_ifeq, x_ifne, x_il1, x_iret, x_ldc, bI, Bool.false_eq_true, rt_de_isFork_0]
      all_goals first | rfl | exact ⟨rfl, rfl⟩ | exact ⟨rfl, trivial⟩ | exact ⟨trivial, rfl⟩ | trivial
theorem s_cTown (hT : t = 1 ∨ t = 31 ∨ t = 61) (hw : WI w) (hc : Tc t w g) {n : Int32} : callC (ev (d + 2)) de_isTown [.ref (t + 1), .int n] (E g q) P = P (some (.int (bI (townB w n)))) (E g q) := by
  refine call_eq (in_de_isTown (by rcases hT with rfl | rfl | rfl <;> rfl) ?_)
  have hcn := hc.1.1
  rw [b_de_isTown_0]
  simp -implicitDefEqProofs (disch := first | assumption | omega) only [szS_0, szS_i, szS_r, szS_l, x_cons, x_goto, ob_some, kl_i, kl_r, kl_l, kl_n, push_n, push_s, pop_0, pop_i, pop_r, Int.reduceToNat, List.length_cons, List.length_nil, Nat.reduceAdd, Nat.reduceLeDiff, Nat.zero_add, true_and, nI_n0, nat_le, Nat.add_zero, rt_de_isTown_0, rt_de_isTown_1, rt_de_isTown_b, x_al0, x_call, x_getf, x_goto, x_iaload, x_icne, x_ifeq, x_il1, x_iret, x_ldc, s_hasNode, bI_0]
  unfold townB
  by_cases h1 : nodeB w n = false
  · simp -implicitDefEqProofs (disch := first | assumption | omega) only [h1, ↓reduceIte, b_de_isTown_22, b_de_isTown_23, szS_0, szS_i, szS_r, szS_l, x_cons, x_goto, ob_some, kl_i, kl_r, kl_l, kl_n, push_n, push_s, pop_0, pop_i, pop_r, Int.reduceToNat, List.length_cons, List.length_nil, Nat.reduceAdd, Nat.reduceLeDiff, Nat.zero_add, true_and, nI_n0, nat_le, Nat.add_zero, rt_de_isTown_0, rt_de_isTown_1, rt_de_isTown_b, x_al0, x_call, x_getf, x_goto, x_iaload, x_icne, x_ifeq, x_il1, x_iret, x_ldc, bI, Bool.false_and, Bool.false_eq_true, rt_de_isTown_0]
    all_goals first | rfl | exact ⟨rfl, rfl⟩ | exact ⟨rfl, trivial⟩ | exact ⟨trivial, rfl⟩ | trivial
  · have h1 := bne_t h1
    obtain ⟨k, hk, rfl⟩ := nodeB_ex hw h1
    have h0 := wi_n hw
    have e2 := tc_so hc (n := k) (by omega)
    rw [ix_nI (by omega)]
    simp -implicitDefEqProofs (disch := first | assumption | omega) only [h1, Bool.true_eq_false, Bool.true_and, ↓reduceIte, tf_1_0, tf_1_1, tf_1_2, tf_1_3, tf_1_4, ts_1_0, tl_2, td_2, e2, szS_0, szS_i, szS_r, szS_l, x_cons, x_goto, ob_some, kl_i, kl_r, kl_l, kl_n, push_n, push_s, pop_0, pop_i, pop_r, Int.reduceToNat, List.length_cons, List.length_nil, Nat.reduceAdd, Nat.reduceLeDiff, Nat.zero_add, true_and, nI_n0, nat_le, Nat.add_zero, rt_de_isTown_0, rt_de_isTown_1, rt_de_isTown_b, x_al0, x_call, x_getf, x_goto, x_iaload, x_icne, x_ifeq, x_il1, x_iret, x_ldc]
    by_cases h2 : w (10 + 20 * k) = nI 1
    · simp -implicitDefEqProofs (disch := first | assumption | omega) only [h2, ↓reduceIte, decide_true, b_de_isTown_23, szS_0, szS_i, szS_r, szS_l, x_cons, x_goto, ob_some, kl_i, kl_r, kl_l, kl_n, push_n, push_s, pop_0, pop_i, pop_r, Int.reduceToNat, List.length_cons, List.length_nil, Nat.reduceAdd, Nat.reduceLeDiff, Nat.zero_add, true_and, nI_n0, nat_le, Nat.add_zero, rt_de_isTown_0, rt_de_isTown_1, rt_de_isTown_b, x_al0, x_call, x_getf, x_goto, x_iaload, x_icne, x_ifeq, x_il1, x_iret, x_ldc, bI, rt_de_isTown_1]
      all_goals first | rfl | exact ⟨rfl, rfl⟩ | exact ⟨rfl, trivial⟩ | exact ⟨trivial, rfl⟩ | trivial
    · simp -implicitDefEqProofs (disch := first | assumption | omega) only [h2, ↓reduceIte, decide_false, b_de_isTown_22, b_de_isTown_23, szS_0, szS_i, szS_r, szS_l, x_cons, x_goto, ob_some, kl_i, kl_r, kl_l, kl_n, push_n, push_s, pop_0, pop_i, pop_r, Int.reduceToNat, List.length_cons, List.length_nil, Nat.reduceAdd, Nat.reduceLeDiff, Nat.zero_add, true_and, nI_n0, nat_le, Nat.add_zero, rt_de_isTown_0, rt_de_isTown_1, rt_de_isTown_b, x_al0, x_call, x_getf, x_goto, x_iaload, x_icne, x_ifeq, x_il1, x_iret, x_ldc, bI, Bool.false_eq_true, rt_de_isTown_0]
      all_goals first | rfl | exact ⟨rfl, rfl⟩ | exact ⟨rfl, trivial⟩ | exact ⟨trivial, rfl⟩ | trivial
theorem s_cArm (hT : t = 1 ∨ t = 31 ∨ t = 61) (hw : WI w) (hc : Tc t w g) {n a : Int32} : callC (ev (d + 3)) de_hasArm [.ref (t + 1), .int n, .int a] (E g q) P = P (some (.int (bI (armB w n a)))) (E g q) := by
  refine call_eq (in_de_hasArm (by rcases hT with rfl | rfl | rfl <;> rfl) ?_)
  rw [b_de_hasArm_0]
  simp -implicitDefEqProofs (disch := first | assumption | omega) only [szS_0, szS_i, szS_r, szS_l, x_cons, x_goto, ob_some, kl_i, kl_r, kl_l, kl_n, push_n, push_s, pop_0, pop_i, pop_r, Int.reduceToNat, List.length_cons, List.length_nil, Nat.reduceAdd, Nat.reduceLeDiff, Nat.zero_add, true_and, nI_n0, nat_le, Nat.add_zero, rt_de_hasArm_0, rt_de_hasArm_1, rt_de_hasArm_b, x_al0, x_call, x_getf, x_goto, x_iaload, x_icge, x_ifeq, x_iflt, x_il1, x_il2, x_iret, x_ldc, s_cFork, bI_0]
  unfold armB
  by_cases h1 : forkB w n = false
  · simp -implicitDefEqProofs (disch := first | assumption | omega) only [h1, ↓reduceIte, b_de_hasArm_26, b_de_hasArm_27, szS_0, szS_i, szS_r, szS_l, x_cons, x_goto, ob_some, kl_i, kl_r, kl_l, kl_n, push_n, push_s, pop_0, pop_i, pop_r, Int.reduceToNat, List.length_cons, List.length_nil, Nat.reduceAdd, Nat.reduceLeDiff, Nat.zero_add, true_and, nI_n0, nat_le, Nat.add_zero, rt_de_hasArm_0, rt_de_hasArm_1, rt_de_hasArm_b, x_al0, x_call, x_getf, x_goto, x_iaload, x_icge, x_ifeq, x_iflt, x_il1, x_il2, x_iret, x_ldc, bI, Bool.false_and, Bool.false_eq_true, rt_de_hasArm_0]
    all_goals first | rfl | exact ⟨rfl, rfl⟩ | exact ⟨rfl, trivial⟩ | exact ⟨trivial, rfl⟩ | trivial
  · have h1 := bne_t h1
    obtain ⟨k, hk, rfl, hs⟩ := forkB_ex hw h1
    have h0 := wi_n hw
    have e2 := tc_am hc (n := k) (by omega)
    have ha := wi_1 hw (n := k) (by omega)
    have h2 := am_2 hw hk hs
    have h2 : 2 ≤ fd w k 1 := h2
    have e3 : (nI 0 ≤ a ∧ a ≤ w (10 + 20 * k + 1) - nI 1) ↔ (¬ a < nI 0 ∧ a < nI (fd w k 1)) := by
      rw [ha.1, nI_sub (by omega), lt_le, leE (x := a), ltE, nI_I (by omega), nI_I (by omega)]
      exact ⟨fun h => ⟨h.1, by omega⟩, fun h => ⟨h.1, by omega⟩⟩
    rw [ix_nI (by omega), show 11 + 20 * k = 10 + 20 * k + 1 by omega, decide_eq_decide.mpr e3]
    simp -implicitDefEqProofs (disch := first | assumption | omega) only [h1, Bool.true_eq_false, Bool.true_and, ↓reduceIte, tf_1_0, tf_1_1, tf_1_2, tf_1_3, tf_1_4, ts_1_0, tl_3, td_3, e2, ha.1, szS_0, szS_i, szS_r, szS_l, x_cons, x_goto, ob_some, kl_i, kl_r, kl_l, kl_n, push_n, push_s, pop_0, pop_i, pop_r, Int.reduceToNat, List.length_cons, List.length_nil, Nat.reduceAdd, Nat.reduceLeDiff, Nat.zero_add, true_and, nI_n0, nat_le, Nat.add_zero, rt_de_hasArm_0, rt_de_hasArm_1, rt_de_hasArm_b, x_al0, x_call, x_getf, x_goto, x_iaload, x_icge, x_ifeq, x_iflt, x_il1, x_il2, x_iret, x_ldc]
    by_cases h3 : a < nI 0
    · have e4 : decide (¬ a < nI 0 ∧ a < nI (fd w k 1)) = false := decide_eq_false fun h => h.1 h3
      rw [e4]
      simp -implicitDefEqProofs (disch := first | assumption | omega) only [h3, ↓reduceIte, b_de_hasArm_26, b_de_hasArm_27, szS_0, szS_i, szS_r, szS_l, x_cons, x_goto, ob_some, kl_i, kl_r, kl_l, kl_n, push_n, push_s, pop_0, pop_i, pop_r, Int.reduceToNat, List.length_cons, List.length_nil, Nat.reduceAdd, Nat.reduceLeDiff, Nat.zero_add, true_and, nI_n0, nat_le, Nat.add_zero, rt_de_hasArm_0, rt_de_hasArm_1, rt_de_hasArm_b, x_al0, x_call, x_getf, x_goto, x_iaload, x_icge, x_ifeq, x_iflt, x_il1, x_il2, x_iret, x_ldc, bI, Bool.false_eq_true, rt_de_hasArm_0]
      all_goals first | rfl | exact ⟨rfl, rfl⟩ | exact ⟨rfl, trivial⟩ | exact ⟨trivial, rfl⟩ | trivial
    · by_cases h4 : a < nI (fd w k 1)
      · rw [decide_eq_true ⟨h3, h4⟩]
        simp -implicitDefEqProofs (disch := first | assumption | omega) only [h3, h4, ↓reduceIte, b_de_hasArm_27, szS_0, szS_i, szS_r, szS_l, x_cons, x_goto, ob_some, kl_i, kl_r, kl_l, kl_n, push_n, push_s, pop_0, pop_i, pop_r, Int.reduceToNat, List.length_cons, List.length_nil, Nat.reduceAdd, Nat.reduceLeDiff, Nat.zero_add, true_and, nI_n0, nat_le, Nat.add_zero, rt_de_hasArm_0, rt_de_hasArm_1, rt_de_hasArm_b, x_al0, x_call, x_getf, x_goto, x_iaload, x_icge, x_ifeq, x_iflt, x_il1, x_il2, x_iret, x_ldc, bI, rt_de_hasArm_1]
        all_goals first | rfl | exact ⟨rfl, rfl⟩ | exact ⟨rfl, trivial⟩ | exact ⟨trivial, rfl⟩ | trivial
      · have e4 : decide (¬ a < nI 0 ∧ a < nI (fd w k 1)) = false := decide_eq_false fun h => h4 h.2
        rw [e4]
        simp -implicitDefEqProofs (disch := first | assumption | omega) only [h3, h4, ↓reduceIte, b_de_hasArm_26, b_de_hasArm_27, szS_0, szS_i, szS_r, szS_l, x_cons, x_goto, ob_some, kl_i, kl_r, kl_l, kl_n, push_n, push_s, pop_0, pop_i, pop_r, Int.reduceToNat, List.length_cons, List.length_nil, Nat.reduceAdd, Nat.reduceLeDiff, Nat.zero_add, true_and, nI_n0, nat_le, Nat.add_zero, rt_de_hasArm_0, rt_de_hasArm_1, rt_de_hasArm_b, x_al0, x_call, x_getf, x_goto, x_iaload, x_icge, x_ifeq, x_iflt, x_il1, x_il2, x_iret, x_ldc, bI, Bool.false_eq_true, rt_de_hasArm_0]
        all_goals first | rfl | exact ⟨rfl, rfl⟩ | exact ⟨rfl, trivial⟩ | exact ⟨trivial, rfl⟩ | trivial
/-- the steps by an arm, 99 for none -/
def fby (w : Nat → Int32) (f a m : Nat) : Nat := if far w (tg w f a) m = 99 then 99 else far w (tg w f a) m + 1
theorem far_b {w : Nat → Int32} (h : WI w) {s m : Nat} (hs : s < 16) : far w s m ≤ 99 := by
  rcases far_99 h (m := m) hs with e | e <;> omega
theorem s_farBy (hT : t = 1 ∨ t = 31 ∨ t = 61) (hw : WI w) (hc : Tc t w g) {f a m : Nat} (hf : f < 16) (ha : a < am w f) (hm : m < 16) : callC (ev (d + 1)) de_farBy [.ref (t + 1), .int (nI f), .int (nI a), .int (nI m)] (E g q) P = P (some (.int (nN (fby w f a m)))) (E g q) := by
  refine call_eq (in_de_farBy (by rcases hT with rfl | rfl | rfl <;> rfl) ?_)
  have h0 := wi_n hw
  have ham := am_le hw hf
  have htl := tg_lt hw hf ha
  have e1 := tc_to hc hf (a := a) (by omega)
  rw [(wi_t hw hf (by omega)).1] at e1
  have e1 : g (t + 4) (f * 3 + a) = nI (tg w f a) := e1
  have e2 := tc_fa hc htl.2 hm
  have hfb := far_b hw (s := tg w f a) (m := m) (by omega)
  have hfl : far w (tg w f a) m < 2147483648 := by omega
  rw [b_de_farBy_0]
  simp -implicitDefEqProofs (disch := first | assumption | omega) only [szS_0, szS_i, szS_r, szS_l, x_cons, x_goto, ob_some, kl_i, kl_r, kl_l, kl_n, push_n, push_s, pop_0, pop_i, pop_r, Int.reduceToNat, List.length_cons, List.length_nil, Nat.reduceAdd, Nat.reduceLeDiff, Nat.zero_add, true_and, nI_n0, nat_le, Nat.add_zero, rt_de_farBy, x_al0, x_getf, x_goto, x_iadd, x_iaload, x_icne, x_il1, x_il2, x_il3, x_il4, x_imul, x_iret, x_is4, x_ldc, x_m1, tf_1_0, tf_1_1, tf_1_2, tf_1_3, tf_1_4, ts_1_0, tl_4, td_4, tl_5, td_5, nI_mul, nI_add, e1, e2, nN_1]
  by_cases h : far w (tg w f a) m = 99
  · have ef : fby w f a m = 99 := if_pos h
    have en : nN 99 = -1 := if_pos rfl
    rw [ef, en]
    simp -implicitDefEqProofs (disch := first | assumption | omega) only [h, ↓reduceIte, b_de_farBy_36, szS_0, szS_i, szS_r, szS_l, x_cons, x_goto, ob_some, kl_i, kl_r, kl_l, kl_n, push_n, push_s, pop_0, pop_i, pop_r, Int.reduceToNat, List.length_cons, List.length_nil, Nat.reduceAdd, Nat.reduceLeDiff, Nat.zero_add, true_and, nI_n0, nat_le, Nat.add_zero, rt_de_farBy, x_al0, x_getf, x_goto, x_iadd, x_iaload, x_icne, x_il1, x_il2, x_il3, x_il4, x_imul, x_iret, x_is4, x_ldc, x_m1]
    all_goals first | rfl | exact ⟨rfl, rfl⟩ | exact ⟨rfl, trivial⟩ | exact ⟨trivial, rfl⟩ | trivial
  · have h99 : far w (tg w f a) m + 1 ≠ 99 := by
      rcases far_99 hw (s := tg w f a) (m := m) (by omega) with e | e <;> omega
    have ef : fby w f a m = far w (tg w f a) m + 1 := if_neg h
    rw [ef, nN_n h99]
    simp -implicitDefEqProofs (disch := first | assumption | omega) only [h, ↓reduceIte, nN_n h, b_de_farBy_32, b_de_farBy_36, nI_add, szS_0, szS_i, szS_r, szS_l, x_cons, x_goto, ob_some, kl_i, kl_r, kl_l, kl_n, push_n, push_s, pop_0, pop_i, pop_r, Int.reduceToNat, List.length_cons, List.length_nil, Nat.reduceAdd, Nat.reduceLeDiff, Nat.zero_add, true_and, nI_n0, nat_le, Nat.add_zero, rt_de_farBy, x_al0, x_getf, x_goto, x_iadd, x_iaload, x_icne, x_il1, x_il2, x_il3, x_il4, x_imul, x_iret, x_is4, x_ldc, x_m1]
    all_goals first | rfl | exact ⟨rfl, rfl⟩ | exact ⟨rfl, trivial⟩ | exact ⟨trivial, rfl⟩ | trivial
/-- behind how many of the first n arms -/
def abf (w : Nat → Int32) (f m n : Nat) : Nat := cnt (fun a => decide (far w (tg w f a) m ≠ 99)) n
theorem abf_l {w : Nat → Int32} {f m n : Nat} : abf w f m n ≤ n := cnt_le n
theorem fby_9 {w : Nat → Int32} (h : WI w) {f a m : Nat} (hf : f < 16) (ha : a < am w f) : (fby w f a m = 99) = (far w (tg w f a) m = 99) := by
  have h1 := tg_lt h hf ha
  have h0 := wi_n h
  unfold fby
  rcases far_99 h (s := tg w f a) (m := m) (by omega) with e | e
  · rw [if_pos e, e]
  · rw [if_neg (by omega)]
    exact propext ⟨fun h => by omega, fun h => by omega⟩
theorem ab_lp (hT : t = 1 ∨ t = 31 ∨ t = 61) (hw : WI w) (hc : Tc t w g) {f m : Nat} (hf : f < 16) (hm : m < 16) (H : P (some (.int (nI (abf w f m (am w f))))) (E g q)) : ∀ (j a : Nat), a + j = am w f →
    wp (ev (d + 1)) P de_armsBefore 5 [some (.ref (t + 1)), some (.int (nI f)), some (.int (nI m)), some (.int (nI (abf w f m a))), some (.int (nI a))] [] (E g q) := by
  have ham := am_le hw hf
  have e3 := tc_am hc hf
  rw [(wi_1 hw hf).1] at e3
  have e3 : g (t + 3) f = nI (am w f) := e3
  intro j
  induction j with
  | zero =>
    intro a ha
    have ha : a = am w f := ha
    rw [ha, b_de_armsBefore_5]
    simp -implicitDefEqProofs (disch := first | assumption | omega) only [szS_0, szS_i, szS_r, szS_l, x_cons, x_goto, ob_some, kl_i, kl_r, kl_l, kl_n, push_n, push_s, pop_0, pop_i, pop_r, Int.reduceToNat, List.length_cons, List.length_nil, Nat.reduceAdd, Nat.reduceLeDiff, Nat.zero_add, true_and, nI_n0, nat_le, Nat.add_zero, i_1, rt_de_armsBefore, x_al0, x_call, x_getf, x_goto, x_iaload, x_iceq, x_icge, x_il1, x_il2, x_il3, x_il4, x_inc3, x_inc4, x_iret, x_is3, x_is4, x_ldc, x_m1, tf_1_0, tf_1_1, tf_1_2, tf_1_3, tf_1_4, ts_1_0, tl_3, td_3, e3, nI_ltE, Nat.lt_irrefl, ↓reduceIte, b_de_armsBefore_37]
    exact H
  | succ j ih =>
    intro a ha
    have ha' : a < am w f := by omega
    have htl := tg_lt hw hf ha'
    have h0 := wi_n hw
    have hfb := far_b hw (s := tg w f a) (m := m) (by omega)
    have hbl : fby w f a m < 2147483648 := by
      unfold fby
      split <;> omega
    have h9 := fby_9 hw (m := m) hf ha'
    have hi := ih (a + 1) (by omega)
    have es : abf w f m (a + 1) = abf w f m a + (if decide (far w (tg w f a) m ≠ 99) = true then 1 else 0) := rfl
    rw [b_de_armsBefore_5]
    simp -implicitDefEqProofs (disch := first | assumption | omega) only [szS_0, szS_i, szS_r, szS_l, x_cons, x_goto, ob_some, kl_i, kl_r, kl_l, kl_n, push_n, push_s, pop_0, pop_i, pop_r, Int.reduceToNat, List.length_cons, List.length_nil, Nat.reduceAdd, Nat.reduceLeDiff, Nat.zero_add, true_and, nI_n0, nat_le, Nat.add_zero, i_1, rt_de_armsBefore, x_al0, x_call, x_getf, x_goto, x_iaload, x_iceq, x_icge, x_il1, x_il2, x_il3, x_il4, x_inc3, x_inc4, x_iret, x_is3, x_is4, x_ldc, x_m1, tf_1_0, tf_1_1, tf_1_2, tf_1_3, tf_1_4, ts_1_0, tl_3, td_3, e3, nI_ltE, ha', ↓reduceIte, s_farBy, nN_1, h9]
    by_cases h : far w (tg w f a) m = 99
    · rw [if_neg (by simp [h]), Nat.add_zero] at es
      rw [es] at hi
      simp -implicitDefEqProofs (disch := first | assumption | omega) only [h, ↓reduceIte, b_de_armsBefore_31, nI_add, szS_0, szS_i, szS_r, szS_l, x_cons, x_goto, ob_some, kl_i, kl_r, kl_l, kl_n, push_n, push_s, pop_0, pop_i, pop_r, Int.reduceToNat, List.length_cons, List.length_nil, Nat.reduceAdd, Nat.reduceLeDiff, Nat.zero_add, true_and, nI_n0, nat_le, Nat.add_zero, i_1, rt_de_armsBefore, x_al0, x_call, x_getf, x_goto, x_iaload, x_iceq, x_icge, x_il1, x_il2, x_il3, x_il4, x_inc3, x_inc4, x_iret, x_is3, x_is4, x_ldc, x_m1]
      exact hi
    · rw [if_pos (by simp [h])] at es
      rw [es] at hi
      simp -implicitDefEqProofs (disch := first | assumption | omega) only [h, ↓reduceIte, b_de_armsBefore_31, nI_add, szS_0, szS_i, szS_r, szS_l, x_cons, x_goto, ob_some, kl_i, kl_r, kl_l, kl_n, push_n, push_s, pop_0, pop_i, pop_r, Int.reduceToNat, List.length_cons, List.length_nil, Nat.reduceAdd, Nat.reduceLeDiff, Nat.zero_add, true_and, nI_n0, nat_le, Nat.add_zero, i_1, rt_de_armsBefore, x_al0, x_call, x_getf, x_goto, x_iaload, x_iceq, x_icge, x_il1, x_il2, x_il3, x_il4, x_inc3, x_inc4, x_iret, x_is3, x_is4, x_ldc, x_m1]
      exact hi
theorem s_armsBefore (hT : t = 1 ∨ t = 31 ∨ t = 61) (hw : WI w) (hc : Tc t w g) {f m : Nat} (hf : f < 16) (hm : m < 16) : callC (ev (d + 2)) de_armsBefore [.ref (t + 1), .int (nI f), .int (nI m)] (E g q) P = P (some (.int (nI (abf w f m (am w f))))) (E g q) := by
  refine call_eq (in_de_armsBefore (by rcases hT with rfl | rfl | rfl <;> rfl) ?_)
  rw [b_de_armsBefore_0]
  simp -implicitDefEqProofs (disch := first | assumption | omega) only [szS_0, szS_i, szS_r, szS_l, x_cons, x_goto, ob_some, kl_i, kl_r, kl_l, kl_n, push_n, push_s, pop_0, pop_i, pop_r, Int.reduceToNat, List.length_cons, List.length_nil, Nat.reduceAdd, Nat.reduceLeDiff, Nat.zero_add, true_and, nI_n0, nat_le, Nat.add_zero, i_1, rt_de_armsBefore, x_al0, x_call, x_getf, x_goto, x_iaload, x_iceq, x_icge, x_il1, x_il2, x_il3, x_il4, x_inc3, x_inc4, x_iret, x_is3, x_is4, x_ldc, x_m1]
  exact ab_lp hT hw hc hf hm ⟨rfl, rfl⟩ (am w f) 0 (Nat.zero_add _)
end CA
