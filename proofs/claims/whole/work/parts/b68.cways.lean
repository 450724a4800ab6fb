/-! the class's ways -/
theorem nI_mod2 {a b : Nat} (ha : a < 2147483648) (hb : b < 2147483648) : nI a - nI (a / b) * nI b = nI (a % b) := by rw [← nI_div ha hb, nI_mod ha hb]
section CW2
variable {d : Nat} {g : Nat → Nat → Int32} {q : Nat → Nat → Int64} {P : QT} {w : Nat → Int32} {V M : LW}
theorem cw_lp (hw : WI w) (hc : Tc 1 w g) {s : Int32} (H : wp (ev d) P co_canWeigh 66 [some (.ref 184), some (.ref 1), some (.int s), some (.int (nI (tws w (nn w)))), some (.int (nI (cnt (forkD w) (nn w)))), some (.int (nI (nn w)))] [] (E g q)) : ∀ (j n : Nat), n + j = nn w →
    wp (ev d) P co_canWeigh 8 [some (.ref 184), some (.ref 1), some (.int s), some (.int (nI (tws w n))), some (.int (nI (cnt (forkD w) n))), some (.int (nI n))] [] (E g q) := by
  have hN := wi_n hw
  have e1 : g 2 0 = nI (nn w) := (tc_n hc).trans hN.1
  intro j
  induction j with
  | zero =>
    intro n hn
    have hn : n = nn w := hn
    rw [hn, b_co_canWeigh_8]
    simp -implicitDefEqProofs (disch := first | assumption | omega) only [szS_0, szS_i, szS_r, szS_l, x_cons, x_goto, ob_some, kl_i, kl_r, kl_l, kl_n, push_n, push_s, pop_0, pop_i, pop_r, Int.reduceToNat, List.length_cons, List.length_nil, Nat.reduceAdd, Nat.reduceLeDiff, Nat.zero_add, true_and, nI_n0, nat_le, Nat.add_zero, i_1, rt_co_canWeigh_0, rt_co_canWeigh_1, rt_co_canWeigh_b, x_al1, x_getf, x_goto, x_iaload, x_iand, x_icge, x_icgt, x_icne, x_ifne, x_il2, x_il3, x_il4, x_il5, x_inc4, x_inc5, x_ior, x_iret, x_is3, x_is4, x_is5, x_ishl, x_ixor, x_ldc, x_m1, fd_1_0, fd_1_1, fd_1_2, fd_1_3, fd_1_4, fd_2_0, sf_2_0, fd_2_1, fd_2_2, fd_2_3, fd_2_4, e1, nI_ltE, Nat.lt_irrefl, ↓reduceIte]
    exact H
  | succ j ih =>
    intro n hn
    have hn' : n < nn w := by omega
    have hn16 : n < 16 := by omega
    have hz := wi_0 hw hn16
    have e2 : g 3 n = nI (fd w n 0) := (tc_so hc hn16).trans hz.1
    have hi := ih (n + 1) (by omega)
    rw [cnt_s] at hi
    rw [b_co_canWeigh_8]
    simp -implicitDefEqProofs (disch := first | assumption | omega) only [szS_0, szS_i, szS_r, szS_l, x_cons, x_goto, ob_some, kl_i, kl_r, kl_l, kl_n, push_n, push_s, pop_0, pop_i, pop_r, Int.reduceToNat, List.length_cons, List.length_nil, Nat.reduceAdd, Nat.reduceLeDiff, Nat.zero_add, true_and, nI_n0, nat_le, Nat.add_zero, i_1, rt_co_canWeigh_0, rt_co_canWeigh_1, rt_co_canWeigh_b, x_al1, x_getf, x_goto, x_iaload, x_iand, x_icge, x_icgt, x_icne, x_ifne, x_il2, x_il3, x_il4, x_il5, x_inc4, x_inc5, x_ior, x_iret, x_is3, x_is4, x_is5, x_ishl, x_ixor, x_ldc, x_m1, fd_1_0, fd_1_1, fd_1_2, fd_1_3, fd_1_4, fd_2_0, sf_2_0, fd_2_1, fd_2_2, fd_2_3, fd_2_4, ld_3, sd_3, ln_3, e1, e2, nI_ltE, hn', ↓reduceIte, nI_eqE]
    by_cases h1 : fd w n 0 = 1
    · rw [tws_1 hn' h1, show forkD w n = false from decide_eq_false (by omega), if_neg Bool.false_ne_true, Nat.add_zero] at hi
      rw [if_pos h1]
      try simp -implicitDefEqProofs (disch := first | assumption | omega) only [szS_0, szS_i, szS_r, szS_l, x_cons, x_goto, ob_some, kl_i, kl_r, kl_l, kl_n, push_n, push_s, pop_0, pop_i, pop_r, Int.reduceToNat, List.length_cons, List.length_nil, Nat.reduceAdd, Nat.reduceLeDiff, Nat.zero_add, true_and, nI_n0, nat_le, Nat.add_zero, i_1, rt_co_canWeigh_0, rt_co_canWeigh_1, rt_co_canWeigh_b, x_al1, x_getf, x_goto, x_iaload, x_iand, x_icge, x_icgt, x_icne, x_ifne, x_il2, x_il3, x_il4, x_il5, x_inc4, x_inc5, x_ior, x_iret, x_is3, x_is4, x_is5, x_ishl, x_ixor, x_ldc, x_m1, nI_shl1, nI_or, b_co_canWeigh_60, nI_add]
      exact hi
    · rw [tws_0 h1, Nat.or_zero] at hi
      rw [if_neg h1, b_co_canWeigh_44]
      simp -implicitDefEqProofs (disch := first | assumption | omega) only [szS_0, szS_i, szS_r, szS_l, x_cons, x_goto, ob_some, kl_i, kl_r, kl_l, kl_n, push_n, push_s, pop_0, pop_i, pop_r, Int.reduceToNat, List.length_cons, List.length_nil, Nat.reduceAdd, Nat.reduceLeDiff, Nat.zero_add, true_and, nI_n0, nat_le, Nat.add_zero, i_1, rt_co_canWeigh_0, rt_co_canWeigh_1, rt_co_canWeigh_b, x_al1, x_getf, x_goto, x_iaload, x_iand, x_icge, x_icgt, x_icne, x_ifne, x_il2, x_il3, x_il4, x_il5, x_inc4, x_inc5, x_ior, x_iret, x_is3, x_is4, x_is5, x_ishl, x_ixor, x_ldc, x_m1, fd_1_0, fd_1_1, fd_1_2, fd_1_3, fd_1_4, fd_2_0, sf_2_0, fd_2_1, fd_2_2, fd_2_3, fd_2_4, ld_3, sd_3, ln_3, e2, nI_eqE]
      by_cases h0 : fd w n 0 = 0
      · rw [show forkD w n = true from decide_eq_true h0, if_pos rfl] at hi
        rw [if_pos h0]
        try simp -implicitDefEqProofs (disch := first | assumption | omega) only [szS_0, szS_i, szS_r, szS_l, x_cons, x_goto, ob_some, kl_i, kl_r, kl_l, kl_n, push_n, push_s, pop_0, pop_i, pop_r, Int.reduceToNat, List.length_cons, List.length_nil, Nat.reduceAdd, Nat.reduceLeDiff, Nat.zero_add, true_and, nI_n0, nat_le, Nat.add_zero, i_1, rt_co_canWeigh_0, rt_co_canWeigh_1, rt_co_canWeigh_b, x_al1, x_getf, x_goto, x_iaload, x_iand, x_icge, x_icgt, x_icne, x_ifne, x_il2, x_il3, x_il4, x_il5, x_inc4, x_inc5, x_ior, x_iret, x_is3, x_is4, x_is5, x_ishl, x_ixor, x_ldc, x_m1, b_co_canWeigh_60, nI_add]
        exact hi
      · rw [show forkD w n = false from decide_eq_false h0, if_neg Bool.false_ne_true, Nat.add_zero] at hi
        rw [if_neg h0]
        try simp -implicitDefEqProofs (disch := first | assumption | omega) only [b_co_canWeigh_60, szS_0, szS_i, szS_r, szS_l, x_cons, x_goto, ob_some, kl_i, kl_r, kl_l, kl_n, push_n, push_s, pop_0, pop_i, pop_r, Int.reduceToNat, List.length_cons, List.length_nil, Nat.reduceAdd, Nat.reduceLeDiff, Nat.zero_add, true_and, nI_n0, nat_le, Nat.add_zero, i_1, rt_co_canWeigh_0, rt_co_canWeigh_1, rt_co_canWeigh_b, x_al1, x_getf, x_goto, x_iaload, x_iand, x_icge, x_icgt, x_icne, x_ifne, x_il2, x_il3, x_il4, x_il5, x_inc4, x_inc5, x_ior, x_iret, x_is3, x_is4, x_is5, x_ishl, x_ixor, x_ldc, x_m1, nI_add]
        exact hi
theorem s_canWeigh (hw : WI w) (hc : Tc 1 w g) {s : Int32} : callC (ev (d + 1)) co_canWeigh [.ref 184, .ref 1, .int s] (E g q) P = P (some (.int (bI (cwB w s)))) (E g q) := by
  refine call_eq (in_co_canWeigh rfl ?_)
  have hN := wi_n hw
  have hcl := cnt_le (p := forkD w) (nn w)
  rw [b_co_canWeigh_0]
  simp -implicitDefEqProofs (disch := first | assumption | omega) only [szS_0, szS_i, szS_r, szS_l, x_cons, x_goto, ob_some, kl_i, kl_r, kl_l, kl_n, push_n, push_s, pop_0, pop_i, pop_r, Int.reduceToNat, List.length_cons, List.length_nil, Nat.reduceAdd, Nat.reduceLeDiff, Nat.zero_add, true_and, nI_n0, nat_le, Nat.add_zero, i_1, rt_co_canWeigh_0, rt_co_canWeigh_1, rt_co_canWeigh_b, x_al1, x_getf, x_goto, x_iaload, x_iand, x_icge, x_icgt, x_icne, x_ifne, x_il2, x_il3, x_il4, x_il5, x_inc4, x_inc5, x_ior, x_iret, x_is3, x_is4, x_is5, x_ishl, x_ixor, x_ldc, x_m1]
  refine cw_lp hw hc ?_ (nn w) 0 (Nat.zero_add _)
  rw [b_co_canWeigh_66]
  simp -implicitDefEqProofs (disch := first | assumption | omega) only [szS_0, szS_i, szS_r, szS_l, x_cons, x_goto, ob_some, kl_i, kl_r, kl_l, kl_n, push_n, push_s, pop_0, pop_i, pop_r, Int.reduceToNat, List.length_cons, List.length_nil, Nat.reduceAdd, Nat.reduceLeDiff, Nat.zero_add, true_and, nI_n0, nat_le, Nat.add_zero, i_1, rt_co_canWeigh_0, rt_co_canWeigh_1, rt_co_canWeigh_b, x_al1, x_getf, x_goto, x_iaload, x_iand, x_icge, x_icgt, x_icne, x_ifne, x_il2, x_il3, x_il4, x_il5, x_inc4, x_inc5, x_ior, x_iret, x_is3, x_is4, x_is5, x_ishl, x_ixor, x_ldc, x_m1, nI_ltE]
  by_cases h1 : s &&& (nI (tws w (nn w)) ^^^ -1) = nI 0
  · by_cases h2 : 7 < cnt (forkD w) (nn w)
    · have hB : cwB w s = false := by
        unfold cwB
        rw [decide_eq_false (p := cnt (forkD w) (nn w) ≤ 7) (by omega), Bool.and_false]
      rw [hB]
      simp -implicitDefEqProofs (disch := first | assumption | omega) only [h1, h2, ↓reduceIte, b_co_canWeigh_85, b_co_canWeigh_86, szS_0, szS_i, szS_r, szS_l, x_cons, x_goto, ob_some, kl_i, kl_r, kl_l, kl_n, push_n, push_s, pop_0, pop_i, pop_r, Int.reduceToNat, List.length_cons, List.length_nil, Nat.reduceAdd, Nat.reduceLeDiff, Nat.zero_add, true_and, nI_n0, nat_le, Nat.add_zero, i_1, rt_co_canWeigh_0, rt_co_canWeigh_1, rt_co_canWeigh_b, x_al1, x_getf, x_goto, x_iaload, x_iand, x_icge, x_icgt, x_icne, x_ifne, x_il2, x_il3, x_il4, x_il5, x_inc4, x_inc5, x_ior, x_iret, x_is3, x_is4, x_is5, x_ishl, x_ixor, x_ldc, x_m1]
      all_goals first | rfl | exact ⟨rfl, rfl⟩ | exact ⟨rfl, trivial⟩ | exact ⟨trivial, rfl⟩ | trivial
    · have hB : cwB w s = true := by
        unfold cwB
        rw [decide_eq_true h1, decide_eq_true (p := cnt (forkD w) (nn w) ≤ 7) (by omega)]
        rfl
      rw [hB]
      simp -implicitDefEqProofs (disch := first | assumption | omega) only [h1, h2, ↓reduceIte, b_co_canWeigh_86, szS_0, szS_i, szS_r, szS_l, x_cons, x_goto, ob_some, kl_i, kl_r, kl_l, kl_n, push_n, push_s, pop_0, pop_i, pop_r, Int.reduceToNat, List.length_cons, List.length_nil, Nat.reduceAdd, Nat.reduceLeDiff, Nat.zero_add, true_and, nI_n0, nat_le, Nat.add_zero, i_1, rt_co_canWeigh_0, rt_co_canWeigh_1, rt_co_canWeigh_b, x_al1, x_getf, x_goto, x_iaload, x_iand, x_icge, x_icgt, x_icne, x_ifne, x_il2, x_il3, x_il4, x_il5, x_inc4, x_inc5, x_ior, x_iret, x_is3, x_is4, x_is5, x_ishl, x_ixor, x_ldc, x_m1]
      all_goals first | rfl | exact ⟨rfl, rfl⟩ | exact ⟨rfl, trivial⟩ | exact ⟨trivial, rfl⟩ | trivial
  · have hB : cwB w s = false := by
      unfold cwB
      rw [decide_eq_false h1, Bool.false_and]
    rw [hB]
    simp -implicitDefEqProofs (disch := first | assumption | omega) only [h1, ↓reduceIte, b_co_canWeigh_85, b_co_canWeigh_86, szS_0, szS_i, szS_r, szS_l, x_cons, x_goto, ob_some, kl_i, kl_r, kl_l, kl_n, push_n, push_s, pop_0, pop_i, pop_r, Int.reduceToNat, List.length_cons, List.length_nil, Nat.reduceAdd, Nat.reduceLeDiff, Nat.zero_add, true_and, nI_n0, nat_le, Nat.add_zero, i_1, rt_co_canWeigh_0, rt_co_canWeigh_1, rt_co_canWeigh_b, x_al1, x_getf, x_goto, x_iaload, x_iand, x_icge, x_icgt, x_icne, x_ifne, x_il2, x_il3, x_il4, x_il5, x_inc4, x_inc5, x_ior, x_iret, x_is3, x_is4, x_is5, x_ishl, x_ixor, x_ldc, x_m1]
    all_goals first | rfl | exact ⟨rfl, rfl⟩ | exact ⟨rfl, trivial⟩ | exact ⟨trivial, rfl⟩ | trivial
theorem aw_lp (hw : WI w) (hc : Tc 1 w g) (H : P (some (.int (nI (PWd w (nn w))))) (E g q)) : ∀ (j n : Nat), n + j = nn w →
    wp (ev d) P co_allWays 4 [some (.ref 2), some (.int (nI (APw w n))), some (.int (nI n))] [] (E g q) := by
  have hN := wi_n hw
  have e1 : g 2 0 = nI (nn w) := (tc_n hc).trans hN.1
  intro j
  induction j with
  | zero =>
    intro n hn
    have hn : n = nn w := hn
    rw [hn, ap_nn, b_co_allWays_4]
    simp -implicitDefEqProofs (disch := first | assumption | omega) only [szS_0, szS_i, szS_r, szS_l, x_cons, x_goto, ob_some, kl_i, kl_r, kl_l, kl_n, push_n, push_s, pop_0, pop_i, pop_r, Int.reduceToNat, List.length_cons, List.length_nil, Nat.reduceAdd, Nat.reduceLeDiff, Nat.zero_add, true_and, nI_n0, nat_le, Nat.add_zero, i_1, rt_co_allWays, x_al0, x_getf, x_goto, x_iaload, x_icge, x_ifne, x_il1, x_il2, x_imul, x_inc2, x_iret, x_is1, x_is2, x_ldc, fd_2_0, sf_2_0, fd_2_1, fd_2_2, fd_2_3, fd_2_4, e1, nI_ltE, Nat.lt_irrefl, ↓reduceIte, b_co_allWays_36]
    exact H
  | succ j ih =>
    intro n hn
    have hn' : n < nn w := by omega
    have hn16 : n < 16 := by omega
    have hz := wi_0 hw hn16
    have ham := wi_1 hw hn16
    have e2 : g 3 n = nI (fd w n 0) := (tc_so hc hn16).trans hz.1
    have e3 : g 4 n = nI (am w n) := (tc_am hc hn16).trans ham.1
    have hi := ih (n + 1) (by omega)
    have eA : APw w (n + 1) = APw w n * (if fd w n 0 = 0 then am w n else 1) := rfl
    rw [eA] at hi
    rw [b_co_allWays_4]
    simp -implicitDefEqProofs (disch := first | assumption | omega) only [szS_0, szS_i, szS_r, szS_l, x_cons, x_goto, ob_some, kl_i, kl_r, kl_l, kl_n, push_n, push_s, pop_0, pop_i, pop_r, Int.reduceToNat, List.length_cons, List.length_nil, Nat.reduceAdd, Nat.reduceLeDiff, Nat.zero_add, true_and, nI_n0, nat_le, Nat.add_zero, i_1, rt_co_allWays, x_al0, x_getf, x_goto, x_iaload, x_icge, x_ifne, x_il1, x_il2, x_imul, x_inc2, x_iret, x_is1, x_is2, x_ldc, fd_2_0, sf_2_0, fd_2_1, fd_2_2, fd_2_3, fd_2_4, ld_3, sd_3, ln_3, e1, e2, nI_ltE, hn', ↓reduceIte, nI_eqE]
    by_cases h0 : fd w n 0 = 0
    · rw [if_pos h0] at hi
      rw [if_pos h0]
      try simp -implicitDefEqProofs (disch := first | assumption | omega) only [szS_0, szS_i, szS_r, szS_l, x_cons, x_goto, ob_some, kl_i, kl_r, kl_l, kl_n, push_n, push_s, pop_0, pop_i, pop_r, Int.reduceToNat, List.length_cons, List.length_nil, Nat.reduceAdd, Nat.reduceLeDiff, Nat.zero_add, true_and, nI_n0, nat_le, Nat.add_zero, i_1, rt_co_allWays, x_al0, x_getf, x_goto, x_iaload, x_icge, x_ifne, x_il1, x_il2, x_imul, x_inc2, x_iret, x_is1, x_is2, x_ldc, fd_2_0, sf_2_0, fd_2_1, fd_2_2, fd_2_3, fd_2_4, ld_4, sd_4, ln_4, e3, nI_mul, b_co_allWays_30, nI_add]
      exact hi
    · rw [if_neg h0, Nat.mul_one] at hi
      rw [if_neg h0]
      try simp -implicitDefEqProofs (disch := first | assumption | omega) only [b_co_allWays_30, szS_0, szS_i, szS_r, szS_l, x_cons, x_goto, ob_some, kl_i, kl_r, kl_l, kl_n, push_n, push_s, pop_0, pop_i, pop_r, Int.reduceToNat, List.length_cons, List.length_nil, Nat.reduceAdd, Nat.reduceLeDiff, Nat.zero_add, true_and, nI_n0, nat_le, Nat.add_zero, i_1, rt_co_allWays, x_al0, x_getf, x_goto, x_iaload, x_icge, x_ifne, x_il1, x_il2, x_imul, x_inc2, x_iret, x_is1, x_is2, x_ldc, nI_add]
      exact hi
theorem s_allWays (hw : WI w) (hc : Tc 1 w g) : callC (ev (d + 1)) co_allWays [.ref 2] (E g q) P = P (some (.int (nI (PWd w (nn w))))) (E g q) := by
  refine call_eq (in_co_allWays rfl ?_)
  rw [b_co_allWays_0]
  simp -implicitDefEqProofs (disch := first | assumption | omega) only [szS_0, szS_i, szS_r, szS_l, x_cons, x_goto, ob_some, kl_i, kl_r, kl_l, kl_n, push_n, push_s, pop_0, pop_i, pop_r, Int.reduceToNat, List.length_cons, List.length_nil, Nat.reduceAdd, Nat.reduceLeDiff, Nat.zero_add, true_and, nI_n0, nat_le, Nat.add_zero, i_1, rt_co_allWays, x_al0, x_getf, x_goto, x_iaload, x_icge, x_ifne, x_il1, x_il2, x_imul, x_inc2, x_iret, x_is1, x_is2, x_ldc]
  exact aw_lp hw hc ⟨rfl, rfl⟩ (nn w) 0 (Nat.zero_add _)
theorem rw_lp (hw : WI w) {v : Nat} (hv : v < 2147483648) {g0 : Nat → Nat → Int32} (hc : Tc 1 w g0) (H : ∀ g' o, (∀ b, b ≠ 189 → g' b = g0 b) → (∀ n, n < nn w → fd w n 0 = 0 → g' 189 n = nI (opV w v n)) → wp (ev (d + 3)) P co_runWay 72 [some (.ref 184), some (.ref 1), some (.int (nI v)), some (.int (nI (v / PWd w (nn w)))), some (.int (nI 0 - nI 1)), o] [] (E g' q)) :
    ∀ (i : Nat) (g : Nat → Nat → Int32) (o : Option Value), i ≤ nn w → (∀ b, b ≠ 189 → g b = g0 b) → (∀ n, i ≤ n → n < nn w → fd w n 0 = 0 → g 189 n = nI (opV w v n)) →
    wp (ev (d + 3)) P co_runWay 13 [some (.ref 184), some (.ref 1), some (.int (nI v)), some (.int (nI (v / PWd w (nn w - i)))), some (.int (nI i - nI 1)), o] [] (E g q) := by
  have hN := wi_n hw
  intro i
  induction i with
  | zero =>
    intro g o hi h1 h2
    rw [Nat.sub_zero, b_co_runWay_13]
    simp -implicitDefEqProofs (disch := first | assumption | omega) only [szS_0, szS_i, szS_r, szS_l, x_cons, x_goto, ob_some, kl_i, kl_r, kl_l, kl_n, push_n, push_s, pop_0, pop_i, pop_r, Int.reduceToNat, List.length_cons, List.length_nil, Nat.reduceAdd, Nat.reduceLeDiff, Nat.zero_add, true_and, nI_n0, nat_le, Nat.add_zero, i_m1, rt_co_runWay, x_al0, x_al1, x_call, x_getf, x_goto, x_iaload, x_iastore, x_idiv, x_ifle, x_iflt, x_ifne, x_il2, x_il3, x_il4, x_il5, x_inc4, x_irem, x_is3, x_is4, x_is5, x_ishl, x_isub, x_ldc, x_vret, nI_slt, Nat.zero_lt_one, ↓reduceIte]
    exact H g o h1 fun n hn hs => h2 n (Nat.zero_le _) hn hs
  | succ n ih =>
    intro g o hi h1 h2
    have hn' : n < nn w := by omega
    have hn16 : n < 16 := by omega
    have hl : ¬ n + 1 < 1 := by omega
    have hz := wi_0 hw hn16
    have ham := wi_1 hw hn16
    have ha3 := am_le hw hn16
    have e2 : g 3 n = nI (fd w n 0) := by rw [h1 3 (by decide)]; exact (tc_so hc hn16).trans hz.1
    have e3 : g 4 n = nI (am w n) := by rw [h1 4 (by decide)]; exact (tc_am hc hn16).trans ham.1
    have hdl : v / PWd w (nn w - (n + 1)) ≤ v := Nat.div_le_self _ _
    have hpd := pw_dv (w := w) (v := v) hn'
    have hi := fun g o h1 h2 => ih g o (by omega) h1 h2
    rw [b_co_runWay_13]
    simp -implicitDefEqProofs (disch := first | assumption | omega) only [szS_0, szS_i, szS_r, szS_l, x_cons, x_goto, ob_some, kl_i, kl_r, kl_l, kl_n, push_n, push_s, pop_0, pop_i, pop_r, Int.reduceToNat, List.length_cons, List.length_nil, Nat.reduceAdd, Nat.reduceLeDiff, Nat.zero_add, true_and, nI_n0, nat_le, Nat.add_zero, i_m1, rt_co_runWay, x_al0, x_al1, x_call, x_getf, x_goto, x_iaload, x_iastore, x_idiv, x_ifle, x_iflt, x_ifne, x_il2, x_il3, x_il4, x_il5, x_inc4, x_irem, x_is3, x_is4, x_is5, x_ishl, x_isub, x_ldc, x_vret, nI_slt, hl, ↓reduceIte, nI_sub, Nat.add_sub_cancel, nI_ltE, Nat.not_lt_zero, fd_1_0, fd_1_1, fd_1_2, fd_1_3, fd_1_4, fd_2_0, sf_2_0, fd_2_1, fd_2_2, fd_2_3, fd_2_4, ld_3, sd_3, ln_3, ld_4, sd_4, ln_4, e2, e3, nI_eqE]
    by_cases h0 : fd w n 0 = 0
    · have h2m := am_2 hw hn' h0
      have hz0 := nI_ne (a := am w n) (by omega) (by omega)
      have hmd := (opV_o hw (v := v) hn' h0).2.2
      have hl0 : ¬ am w n ≤ 0 := by omega
      have eo : 2 ^ (v / PWd w (nn w - (n + 1)) % am w n) = opV w v n := rfl
      rw [if_pos h0] at hpd
      rw [if_pos h0]
      try simp -implicitDefEqProofs (disch := first | assumption | omega) only [szS_0, szS_i, szS_r, szS_l, x_cons, x_goto, ob_some, kl_i, kl_r, kl_l, kl_n, push_n, push_s, pop_0, pop_i, pop_r, Int.reduceToNat, List.length_cons, List.length_nil, Nat.reduceAdd, Nat.reduceLeDiff, Nat.zero_add, true_and, nI_n0, nat_le, Nat.add_zero, i_m1, rt_co_runWay, x_al0, x_al1, x_call, x_getf, x_goto, x_iaload, x_iastore, x_idiv, x_ifle, x_iflt, x_ifne, x_il2, x_il3, x_il4, x_il5, x_inc4, x_irem, x_is3, x_is4, x_is5, x_ishl, x_isub, x_ldc, x_vret, nI_leE, hl0, ↓reduceIte, fd_184_0, fd_184_1, fd_184_2, fd_184_3, fd_184_4, fd_184_5, fd_184_6, fd_184_7, sf_184_7, fd_184_8, sf_184_8, fd_184_9, fd_184_10, fd_184_11, ld_189, sd_189, ln_189, nI_mod2, nI_shl1, nI_div, pu_g, upw_s, upw_w, pu_s, b_co_runWay_66, addm1, eo]
      have := hi (upw g 189 (pu (g 189) n (nI (opV w v n)))) (some (.int (nI (am w n)))) (fun b hb => by rw [upw_o hb]; exact h1 b hb) fun m hm1 hm2 hs => by
        rw [upw_s]
        by_cases e : m = n
        · rw [e, pu_s]
        · rw [pu_n e]
          exact h2 m (by omega) hm2 hs
      rw [hpd] at this
      exact this
    · rw [if_neg h0] at hpd
      rw [if_neg h0]
      try simp -implicitDefEqProofs (disch := first | assumption | omega) only [b_co_runWay_66, szS_0, szS_i, szS_r, szS_l, x_cons, x_goto, ob_some, kl_i, kl_r, kl_l, kl_n, push_n, push_s, pop_0, pop_i, pop_r, Int.reduceToNat, List.length_cons, List.length_nil, Nat.reduceAdd, Nat.reduceLeDiff, Nat.zero_add, true_and, nI_n0, nat_le, Nat.add_zero, i_m1, rt_co_runWay, x_al0, x_al1, x_call, x_getf, x_goto, x_iaload, x_iastore, x_idiv, x_ifle, x_iflt, x_ifne, x_il2, x_il3, x_il4, x_il5, x_inc4, x_irem, x_is3, x_is4, x_is5, x_ishl, x_isub, x_ldc, x_vret, addm1]
      have := hi g (some (.int (nI (am w n)))) h1 fun m hm1 hm2 hs => by
        by_cases e : m = n
        · rw [e] at hs
          exact absurd hs h0
        · exact h2 m (by omega) hm2 hs
      rw [hpd] at this
      exact this
theorem s_runWay (hw : WI w) (hc : Tc 1 w g) {v : Nat} (hv : v < 2147483648) (H : ∀ g', (∀ b, b ≠ 189 → (b < 185 ∨ 188 < b) → g' b = g b) → (∀ n, n < nn w → fd w n 0 = 0 → g' 189 n = nI (opV w v n)) → watN w (opV w v) (vN w 6) 185 (nn w) g' → P none (E g' q)) :
    callC (ev (d + 4)) co_runWay [.ref 184, .ref 1, .int (nI v)] (E g q) P := by
  refine in_co_runWay rfl ?_
  have hN := wi_n hw
  have h6 := wi_6 hw
  have e1 : g 2 0 = nI (nn w) := (tc_n hc).trans hN.1
  have lp := rw_lp (d := d) (q := q) (P := P) hw hv (g0 := g) hc (fun g1 o f1 c1 => by
    have c : Tc 1 w g1 := Tc_c hc fun a a1 a2 => f1 a (by omega)
    have e6 : g1 8 0 = nI (vN w 6) := c.1.2.2.2.2.1.trans h6.1
    rw [b_co_runWay_72]
    simp -implicitDefEqProofs (disch := first | assumption | omega) only [szS_0, szS_i, szS_r, szS_l, x_cons, x_goto, ob_some, kl_i, kl_r, kl_l, kl_n, push_n, push_s, pop_0, pop_i, pop_r, Int.reduceToNat, List.length_cons, List.length_nil, Nat.reduceAdd, Nat.reduceLeDiff, Nat.zero_add, true_and, nI_n0, nat_le, Nat.add_zero, i_m1, rt_co_runWay, x_al0, x_al1, x_call, x_getf, x_goto, x_iaload, x_iastore, x_idiv, x_ifle, x_iflt, x_ifne, x_il2, x_il3, x_il4, x_il5, x_inc4, x_irem, x_is3, x_is4, x_is5, x_ishl, x_isub, x_ldc, x_vret, fd_184_0, fd_184_1, fd_184_2, fd_184_3, fd_184_4, fd_184_5, fd_184_6, fd_184_7, sf_184_7, fd_184_8, sf_184_8, fd_184_9, fd_184_10, fd_184_11, fd_1_0, fd_1_1, fd_1_2, fd_1_3, fd_1_4, fd_7_0, sf_7_0, fd_7_1, sf_7_1, fd_7_2, sf_7_2, fd_7_3, sf_7_3, fd_7_4, sf_7_4, fd_7_5, fd_7_6, fd_7_7, fd_7_8, fd_7_9, fd_7_10, ld_8, sd_8, ln_8, e6]
    refine s_waRun (t := 1) (x := 185) (by decide) (by decide) hw c (op := opV w v) (o := 189) rfl (by decide) (by decide) c1 (opV_O hw v) (fl6 hw) fun g2 f2 W2 => ?_
    simp -implicitDefEqProofs (disch := first | assumption | omega) only [szS_0, szS_i, szS_r, szS_l, x_cons, x_goto, ob_some, kl_i, kl_r, kl_l, kl_n, push_n, push_s, pop_0, pop_i, pop_r, Int.reduceToNat, List.length_cons, List.length_nil, Nat.reduceAdd, Nat.reduceLeDiff, Nat.zero_add, true_and, nI_n0, nat_le, Nat.add_zero, i_m1, rt_co_runWay, x_al0, x_al1, x_call, x_getf, x_goto, x_iaload, x_iastore, x_idiv, x_ifle, x_iflt, x_ifne, x_il2, x_il3, x_il4, x_il5, x_inc4, x_irem, x_is3, x_is4, x_is5, x_ishl, x_isub, x_ldc, x_vret]
    exact H g2 (fun b b1 b2 => by rw [f2 b (by omega) (by omega) (by omega) (by omega), f1 b b1]) (fun n hn hs => by rw [f2 189 (by decide) (by decide) (by decide) (by decide)]; exact c1 n hn hs) W2) (nn w) g none (Nat.le_refl _) (fun _ _ => rfl) fun n h1 h2 => absurd h1 (by omega)
  rw [Nat.sub_self] at lp
  have e0 : v / PWd w 0 = v := Nat.div_one v
  rw [e0] at lp
  rw [b_co_runWay_0]
  simp -implicitDefEqProofs (disch := first | assumption | omega) only [szS_0, szS_i, szS_r, szS_l, x_cons, x_goto, ob_some, kl_i, kl_r, kl_l, kl_n, push_n, push_s, pop_0, pop_i, pop_r, Int.reduceToNat, List.length_cons, List.length_nil, Nat.reduceAdd, Nat.reduceLeDiff, Nat.zero_add, true_and, nI_n0, nat_le, Nat.add_zero, i_m1, rt_co_runWay, x_al0, x_al1, x_call, x_getf, x_goto, x_iaload, x_iastore, x_idiv, x_ifle, x_iflt, x_ifne, x_il2, x_il3, x_il4, x_il5, x_inc4, x_irem, x_is3, x_is4, x_is5, x_ishl, x_isub, x_ldc, x_vret, fd_1_0, fd_1_1, fd_1_2, fd_1_3, fd_1_4, fd_2_0, sf_2_0, fd_2_1, fd_2_2, fd_2_3, fd_2_4, e1]
  exact lp
theorem mw_in (hw : WI w) (hc : Tc 1 w g) {s v : Nat} (hs : s < 65536) (hW : watN w (opV w v) (vN w 6) 185 (nn w) g) {v3 v4 : Int32} (H : wp (ev (d + 4)) P co_mostWater 90 [some (.ref 184), some (.ref 1), some (.int (nI s)), some (.int v3), some (.int v4), some (.int (nI v)), some (.int (nI (gotV w s v (nn w)))), some (.int (nI (nn w)))] [] (E g q)) : ∀ (j n : Nat), n + j = nn w →
    wp (ev (d + 4)) P co_mostWater 33 [some (.ref 184), some (.ref 1), some (.int (nI s)), some (.int v3), some (.int v4), some (.int (nI v)), some (.int (nI (gotV w s v n))), some (.int (nI n))] [] (E g q) := by
  have hN := wi_n hw
  have e1 : g 2 0 = nI (nn w) := (tc_n hc).trans hN.1
  intro j
  induction j with
  | zero =>
    intro n hn
    have hn : n = nn w := hn
    rw [hn, b_co_mostWater_33]
    simp -implicitDefEqProofs (disch := first | assumption | omega) only [szS_0, szS_i, szS_r, szS_l, x_cons, x_goto, ob_some, kl_i, kl_r, kl_l, kl_n, push_n, push_s, pop_0, pop_i, pop_r, Int.reduceToNat, List.length_cons, List.length_nil, Nat.reduceAdd, Nat.reduceLeDiff, Nat.zero_add, true_and, nI_n0, nat_le, Nat.add_zero, i_1, rt_co_mostWater, x_aaload, x_al0, x_al1, x_call, x_getf, x_goto, x_iadd, x_iaload, x_icge, x_ifeq, x_il2, x_il3, x_il4, x_il5, x_il6, x_il7, x_inc5, x_inc7, x_iret, x_is3, x_is4, x_is5, x_is6, x_is7, x_ldc, fd_1_0, fd_1_1, fd_1_2, fd_1_3, fd_1_4, fd_2_0, sf_2_0, fd_2_1, fd_2_2, fd_2_3, fd_2_4, e1, nI_ltE, Nat.lt_irrefl, ↓reduceIte]
    exact H
  | succ j ih =>
    intro n hn
    have hn' : n < nn w := by omega
    have hn16 : n < 16 := by omega
    have hi := ih (n + 1) (by omega)
    have eg : gotV w s v (n + 1) = gotV w s v n + (if s.testBit n = true then (if fd w n 11 < cmA w (opV w v) (vN w 6) n then fd w n 11 else cmA w (opV w v) (vN w 6) n) else 0) := rfl
    rw [eg] at hi
    have hy := (wi_y hw hn16).2.1
    have e11 : g 11 n = nI (fd w n 11) := (tc_t hc hn16).2.1.trans hy.1
    have ec : g 186 n = nI (cmA w (opV w v) (vN w 6) n) := by rw [← cmN_d hw (nn w) (by omega) hN.2.1]; exact hW.1 n hn16
    have hcl := cm_le hw (opV_O hw v) (fl := vN w 6) hn16
    have h6 := fl6 hw
    rw [b_co_mostWater_33]
    simp -implicitDefEqProofs (disch := first | assumption | omega) only [szS_0, szS_i, szS_r, szS_l, x_cons, x_goto, ob_some, kl_i, kl_r, kl_l, kl_n, push_n, push_s, pop_0, pop_i, pop_r, Int.reduceToNat, List.length_cons, List.length_nil, Nat.reduceAdd, Nat.reduceLeDiff, Nat.zero_add, true_and, nI_n0, nat_le, Nat.add_zero, i_1, rt_co_mostWater, x_aaload, x_al0, x_al1, x_call, x_getf, x_goto, x_iadd, x_iaload, x_icge, x_ifeq, x_il2, x_il3, x_il4, x_il5, x_il6, x_il7, x_inc5, x_inc7, x_iret, x_is3, x_is4, x_is5, x_is6, x_is7, x_ldc, fd_1_0, fd_1_1, fd_1_2, fd_1_3, fd_1_4, fd_2_0, sf_2_0, fd_2_1, fd_2_2, fd_2_3, fd_2_4, e1, nI_ltE, hn', ↓reduceIte]
    rw [s_holds (by omega) (by omega)]
    simp -implicitDefEqProofs (disch := first | assumption | omega) only [szS_0, szS_i, szS_r, szS_l, x_cons, x_goto, ob_some, kl_i, kl_r, kl_l, kl_n, push_n, push_s, pop_0, pop_i, pop_r, Int.reduceToNat, List.length_cons, List.length_nil, Nat.reduceAdd, Nat.reduceLeDiff, Nat.zero_add, true_and, nI_n0, nat_le, Nat.add_zero, i_1, rt_co_mostWater, x_aaload, x_al0, x_al1, x_call, x_getf, x_goto, x_iadd, x_iaload, x_icge, x_ifeq, x_il2, x_il3, x_il4, x_il5, x_il6, x_il7, x_inc5, x_inc7, x_iret, x_is3, x_is4, x_is5, x_is6, x_is7, x_ldc, bI_0]
    cases hb : s.testBit n
    · rw [hb, if_neg Bool.false_ne_true, Nat.add_zero] at hi
      simp -implicitDefEqProofs (disch := first | assumption | omega) only [↓reduceIte, b_co_mostWater_84, szS_0, szS_i, szS_r, szS_l, x_cons, x_goto, ob_some, kl_i, kl_r, kl_l, kl_n, push_n, push_s, pop_0, pop_i, pop_r, Int.reduceToNat, List.length_cons, List.length_nil, Nat.reduceAdd, Nat.reduceLeDiff, Nat.zero_add, true_and, nI_n0, nat_le, Nat.add_zero, i_1, rt_co_mostWater, x_aaload, x_al0, x_al1, x_call, x_getf, x_goto, x_iadd, x_iaload, x_icge, x_ifeq, x_il2, x_il3, x_il4, x_il5, x_il6, x_il7, x_inc5, x_inc7, x_iret, x_is3, x_is4, x_is5, x_is6, x_is7, x_ldc, nI_add]
      exact hi
    · rw [hb, if_pos rfl] at hi
      simp -implicitDefEqProofs (disch := first | assumption | omega) only [Bool.true_eq_false, ↓reduceIte, szS_0, szS_i, szS_r, szS_l, x_cons, x_goto, ob_some, kl_i, kl_r, kl_l, kl_n, push_n, push_s, pop_0, pop_i, pop_r, Int.reduceToNat, List.length_cons, List.length_nil, Nat.reduceAdd, Nat.reduceLeDiff, Nat.zero_add, true_and, nI_n0, nat_le, Nat.add_zero, i_1, rt_co_mostWater, x_aaload, x_al0, x_al1, x_call, x_getf, x_goto, x_iadd, x_iaload, x_icge, x_ifeq, x_il2, x_il3, x_il4, x_il5, x_il6, x_il7, x_inc5, x_inc7, x_iret, x_is3, x_is4, x_is5, x_is6, x_is7, x_ldc, fd_184_0, fd_184_1, fd_184_2, fd_184_3, fd_184_4, fd_184_5, fd_184_6, fd_184_7, sf_184_7, fd_184_8, sf_184_8, fd_184_9, fd_184_10, fd_184_11, fd_185_0, fd_185_1, fd_185_2, fd_185_3, sf_185_3, fd_185_4, sf_185_4, fd_1_0, fd_1_1, fd_1_2, fd_1_3, fd_1_4, fd_7_0, sf_7_0, fd_7_1, sf_7_1, fd_7_2, sf_7_2, fd_7_3, sf_7_3, fd_7_4, sf_7_4, fd_7_5, fd_7_6, fd_7_7, fd_7_8, fd_7_9, fd_7_10, ld_186, sd_186, ln_186, ld_9_0, ld_9_1, ld_9_2, ld_9_3, ld_9_4, ld_9_5, ld_9_6, ld_9_7, ld_11, sd_11, ln_11, ec, e11, s_jmin, nI_ltE, nI_ite, nI_add, b_co_mostWater_84]
      exact hi
theorem mw_out (hw : WI w) {g0 : Nat → Nat → Int32} (hc : Tc 1 w g0) {s N : Nat} (hs : s < 65536) (hN7 : N ≤ 2187) (H : ∀ g', (∀ b, b ≠ 189 → (b < 185 ∨ 188 < b) → g' b = g0 b) → P (some (.int (nI (moM w s N)))) (E g' q)) : ∀ (j v : Nat) (g : Nat → Nat → Int32) (o6 o7 : Option Value), v + j = N → (∀ b, b ≠ 189 → (b < 185 ∨ 188 < b) → g b = g0 b) →
    wp (ev (d + 4)) P co_mostWater 14 [some (.ref 184), some (.ref 1), some (.int (nI s)), some (.int (nI N)), some (.int (nI (moM w s v))), some (.int (nI v)), o6, o7] [] (E g q) := by
  have h0 := wi_n hw
  intro j
  induction j with
  | zero =>
    intro v g o6 o7 hv hg
    have hv : v = N := hv
    subst hv
    rw [b_co_mostWater_14]
    simp -implicitDefEqProofs (disch := first | assumption | omega) only [szS_0, szS_i, szS_r, szS_l, x_cons, x_goto, ob_some, kl_i, kl_r, kl_l, kl_n, push_n, push_s, pop_0, pop_i, pop_r, Int.reduceToNat, List.length_cons, List.length_nil, Nat.reduceAdd, Nat.reduceLeDiff, Nat.zero_add, true_and, nI_n0, nat_le, Nat.add_zero, i_1, rt_co_mostWater, x_aaload, x_al0, x_al1, x_call, x_getf, x_goto, x_iadd, x_iaload, x_icge, x_ifeq, x_il2, x_il3, x_il4, x_il5, x_il6, x_il7, x_inc5, x_inc7, x_iret, x_is3, x_is4, x_is5, x_is6, x_is7, x_ldc, nI_ltE, Nat.lt_irrefl, ↓reduceIte, b_co_mostWater_105]
    exact H g hg
  | succ j ih =>
    intro v g o6 o7 hv hg
    have hv' : v < N := by omega
    have c : Tc 1 w g := Tc_c hc fun a a1 a2 => hg a (by omega) (by omega)
    have hm := moM_l hw (s := s) v
    have hgl := gotV_l hw (s := s) (v := v) (nn w) h0.2.1
    rw [b_co_mostWater_14]
    simp -implicitDefEqProofs (disch := first | assumption | omega) only [szS_0, szS_i, szS_r, szS_l, x_cons, x_goto, ob_some, kl_i, kl_r, kl_l, kl_n, push_n, push_s, pop_0, pop_i, pop_r, Int.reduceToNat, List.length_cons, List.length_nil, Nat.reduceAdd, Nat.reduceLeDiff, Nat.zero_add, true_and, nI_n0, nat_le, Nat.add_zero, i_1, rt_co_mostWater, x_aaload, x_al0, x_al1, x_call, x_getf, x_goto, x_iadd, x_iaload, x_icge, x_ifeq, x_il2, x_il3, x_il4, x_il5, x_il6, x_il7, x_inc5, x_inc7, x_iret, x_is3, x_is4, x_is5, x_is6, x_is7, x_ldc, nI_ltE, hv', ↓reduceIte]
    refine s_runWay hw c (by omega) fun g1 f1 c1 W1 => ?_
    have cg1 : Tc 1 w g1 := Tc_c c fun a a1 a2 => f1 a (by omega) (by omega)
    simp -implicitDefEqProofs (disch := first | assumption | omega) only [szS_0, szS_i, szS_r, szS_l, x_cons, x_goto, ob_some, kl_i, kl_r, kl_l, kl_n, push_n, push_s, pop_0, pop_i, pop_r, Int.reduceToNat, List.length_cons, List.length_nil, Nat.reduceAdd, Nat.reduceLeDiff, Nat.zero_add, true_and, nI_n0, nat_le, Nat.add_zero, i_1, rt_co_mostWater, x_aaload, x_al0, x_al1, x_call, x_getf, x_goto, x_iadd, x_iaload, x_icge, x_ifeq, x_il2, x_il3, x_il4, x_il5, x_il6, x_il7, x_inc5, x_inc7, x_iret, x_is3, x_is4, x_is5, x_is6, x_is7, x_ldc]
    refine mw_in hw cg1 hs W1 ?_ (nn w) 0 (Nat.zero_add _)
    have hi := ih (v + 1) g1 (some (.int (nI (gotV w s v (nn w))))) (some (.int (nI (nn w)))) (by omega) fun b b1 b2 => by rw [f1 b b1 b2, hg b b1 b2]
    have em : moM w s (v + 1) = if moM w s v < gotV w s v (nn w) then gotV w s v (nn w) else moM w s v := rfl
    rw [em] at hi
    rw [b_co_mostWater_90]
    simp -implicitDefEqProofs (disch := first | assumption | omega) only [szS_0, szS_i, szS_r, szS_l, x_cons, x_goto, ob_some, kl_i, kl_r, kl_l, kl_n, push_n, push_s, pop_0, pop_i, pop_r, Int.reduceToNat, List.length_cons, List.length_nil, Nat.reduceAdd, Nat.reduceLeDiff, Nat.zero_add, true_and, nI_n0, nat_le, Nat.add_zero, i_1, rt_co_mostWater, x_aaload, x_al0, x_al1, x_call, x_getf, x_goto, x_iadd, x_iaload, x_icge, x_ifeq, x_il2, x_il3, x_il4, x_il5, x_il6, x_il7, x_inc5, x_inc7, x_iret, x_is3, x_is4, x_is5, x_is6, x_is7, x_ldc, s_jmax, nI_ltE, nI_ite, nI_add]
    exact hi
theorem cwB_ex {s : Int32} (hw : WI w) (h : cwB w s = true) : ∃ s', s' < 65536 ∧ s = nI s' ∧ (∀ i, s'.testBit i = true → i < nn w ∧ fd w i 0 = 1) ∧ PWd w (nn w) ≤ 2187 := by
  unfold cwB at h
  rw [Bool.and_eq_true] at h
  have hN := wi_n hw
  obtain ⟨s', h1, h2, h3⟩ := set_ex (tws_lt w hN.2.1) (of_decide_eq_true h.1)
  exact ⟨s', h1, h2, fun i hi => (tws_t.mp (h3 i hi)).2, pw_l hw (of_decide_eq_true h.2)⟩
theorem s_vmost (hw : WI w) (hc : Tc 1 w g) {s : Int32} (H : ∀ g', fQ g g' → P (some (.int (moA w s))) (E g' q)) : callC (ev (d + 6)) vr_most [.ref 0, .int s] (E g q) P := by
  refine in_vr_most rfl ?_
  unfold moA at H
  rw [b_vr_most_0]
  simp -implicitDefEqProofs (disch := first | assumption | omega) only [szS_0, szS_i, szS_r, szS_l, x_cons, x_goto, ob_some, kl_i, kl_r, kl_l, kl_n, push_n, push_s, pop_0, pop_i, pop_r, Int.reduceToNat, List.length_cons, List.length_nil, Nat.reduceAdd, Nat.reduceLeDiff, Nat.zero_add, true_and, nI_n0, nat_le, Nat.add_zero, rt_vr_most, x_al0, x_call, x_getf, x_goto, x_ifeq, x_il1, x_iret, x_m1, fd_0_0, fd_0_1, fd_0_2, fd_0_3, fd_0_4, fd_0_5, fd_0_6, fd_0_7, fd_0_8, fd_0_9, sf_0_9]
  rw [s_canWeigh hw hc]
  simp -implicitDefEqProofs (disch := first | assumption | omega) only [szS_0, szS_i, szS_r, szS_l, x_cons, x_goto, ob_some, kl_i, kl_r, kl_l, kl_n, push_n, push_s, pop_0, pop_i, pop_r, Int.reduceToNat, List.length_cons, List.length_nil, Nat.reduceAdd, Nat.reduceLeDiff, Nat.zero_add, true_and, nI_n0, nat_le, Nat.add_zero, rt_vr_most, x_al0, x_call, x_getf, x_goto, x_ifeq, x_il1, x_iret, x_m1, bI_0]
  cases h1 : cwB w s
  · rw [h1, if_neg Bool.false_ne_true] at H
    simp -implicitDefEqProofs (disch := first | assumption | omega) only [↓reduceIte, b_vr_most_30, b_vr_most_31, szS_0, szS_i, szS_r, szS_l, x_cons, x_goto, ob_some, kl_i, kl_r, kl_l, kl_n, push_n, push_s, pop_0, pop_i, pop_r, Int.reduceToNat, List.length_cons, List.length_nil, Nat.reduceAdd, Nat.reduceLeDiff, Nat.zero_add, true_and, nI_n0, nat_le, Nat.add_zero, rt_vr_most, x_al0, x_call, x_getf, x_goto, x_ifeq, x_il1, x_iret, x_m1]
    exact H g fQ_r
  · obtain ⟨s', hs, rfl, hst, hp⟩ := cwB_ex hw h1
    rw [h1, if_pos rfl, ix_nI (by omega)] at H
    simp -implicitDefEqProofs (disch := first | assumption | omega) only [Bool.true_eq_false, ↓reduceIte, szS_0, szS_i, szS_r, szS_l, x_cons, x_goto, ob_some, kl_i, kl_r, kl_l, kl_n, push_n, push_s, pop_0, pop_i, pop_r, Int.reduceToNat, List.length_cons, List.length_nil, Nat.reduceAdd, Nat.reduceLeDiff, Nat.zero_add, true_and, nI_n0, nat_le, Nat.add_zero, rt_vr_most, x_al0, x_call, x_getf, x_goto, x_ifeq, x_il1, x_iret, x_m1, fd_0_0, fd_0_1, fd_0_2, fd_0_3, fd_0_4, fd_0_5, fd_0_6, fd_0_7, fd_0_8, fd_0_9, sf_0_9]
    refine in_co_mostWater rfl ?_
    rw [b_co_mostWater_0]
    simp -implicitDefEqProofs (disch := first | assumption | omega) only [szS_0, szS_i, szS_r, szS_l, x_cons, x_goto, ob_some, kl_i, kl_r, kl_l, kl_n, push_n, push_s, pop_0, pop_i, pop_r, Int.reduceToNat, List.length_cons, List.length_nil, Nat.reduceAdd, Nat.reduceLeDiff, Nat.zero_add, true_and, nI_n0, nat_le, Nat.add_zero, i_1, rt_co_mostWater, x_aaload, x_al0, x_al1, x_call, x_getf, x_goto, x_iadd, x_iaload, x_icge, x_ifeq, x_il2, x_il3, x_il4, x_il5, x_il6, x_il7, x_inc5, x_inc7, x_iret, x_is3, x_is4, x_is5, x_is6, x_is7, x_ldc, fd_1_0, fd_1_1, fd_1_2, fd_1_3, fd_1_4]
    rw [s_allWays hw hc]
    simp -implicitDefEqProofs (disch := first | assumption | omega) only [szS_0, szS_i, szS_r, szS_l, x_cons, x_goto, ob_some, kl_i, kl_r, kl_l, kl_n, push_n, push_s, pop_0, pop_i, pop_r, Int.reduceToNat, List.length_cons, List.length_nil, Nat.reduceAdd, Nat.reduceLeDiff, Nat.zero_add, true_and, nI_n0, nat_le, Nat.add_zero, i_1, rt_co_mostWater, x_aaload, x_al0, x_al1, x_call, x_getf, x_goto, x_iadd, x_iaload, x_icge, x_ifeq, x_il2, x_il3, x_il4, x_il5, x_il6, x_il7, x_inc5, x_inc7, x_iret, x_is3, x_is4, x_is5, x_is6, x_is7, x_ldc]
    refine mw_out hw (g0 := g) hc hs hp (fun g1 f1 => ?_) (PWd w (nn w)) 0 g none none (Nat.zero_add _) fun _ _ _ => rfl
    simp -implicitDefEqProofs (disch := first | assumption | omega) only [szS_0, szS_i, szS_r, szS_l, x_cons, x_goto, ob_some, kl_i, kl_r, kl_l, kl_n, push_n, push_s, pop_0, pop_i, pop_r, Int.reduceToNat, List.length_cons, List.length_nil, Nat.reduceAdd, Nat.reduceLeDiff, Nat.zero_add, true_and, nI_n0, nat_le, Nat.add_zero, rt_vr_most, x_al0, x_call, x_getf, x_goto, x_ifeq, x_il1, x_iret, x_m1, b_vr_most_31]
    exact H g1 <| fQ_mk fun b b1 b2 b4 => f1 b (by omega) (by omega)
theorem kw_lp (hw : WI w) {v : Nat} {g0 : Nat → Nat → Int32} (hc : Tc 1 w g0) (ho : ∀ n, n < nn w → fd w n 0 = 0 → g0 189 n = nI (opV w v n)) (H : ∀ g', (∀ b, b ≠ 195 → g' b = g0 b) → (∀ n, n < nn w → fd w n 0 = 0 → g' 195 n = nI (v / PWd w (nn w - (n + 1)) % am w n)) → P none (E g' q)) : ∀ (j n : Nat) (g : Nat → Nat → Int32), n + j = nn w → (∀ b, b ≠ 195 → g b = g0 b) → (∀ m, m < n → fd w m 0 = 0 → g 195 m = nI (v / PWd w (nn w - (m + 1)) % am w m)) →
    wp (ev (d + 1)) P co_keepWay 2 [some (.ref 184), some (.ref 2), some (.int (nI n))] [] (E g q) := by
  have hN := wi_n hw
  intro j
  induction j with
  | zero =>
    intro n g hn hg h2
    have hn : n = nn w := hn
    subst hn
    have e1 : g 2 0 = nI (nn w) := by rw [hg 2 (by decide)]; exact (tc_n hc).trans hN.1
    rw [b_co_keepWay_2]
    simp -implicitDefEqProofs (disch := first | assumption | omega) only [szS_0, szS_i, szS_r, szS_l, x_cons, x_goto, ob_some, kl_i, kl_r, kl_l, kl_n, push_n, push_s, pop_0, pop_i, pop_r, Int.reduceToNat, List.length_cons, List.length_nil, Nat.reduceAdd, Nat.reduceLeDiff, Nat.zero_add, true_and, nI_n0, nat_le, Nat.add_zero, i_1, rt_co_keepWay, x_al0, x_al1, x_call, x_getf, x_goto, x_iaload, x_iastore, x_icge, x_ifne, x_il2, x_inc2, x_is2, x_ldc, x_vret, fd_2_0, sf_2_0, fd_2_1, fd_2_2, fd_2_3, fd_2_4, e1, nI_ltE, Nat.lt_irrefl, ↓reduceIte, b_co_keepWay_40]
    exact H g hg h2
  | succ j ih =>
    intro n g hn hg h2
    have hn' : n < nn w := by omega
    have hn16 : n < 16 := by omega
    have hz := wi_0 hw hn16
    have e1 : g 2 0 = nI (nn w) := by rw [hg 2 (by decide)]; exact (tc_n hc).trans hN.1
    have e2 : g 3 n = nI (fd w n 0) := by rw [hg 3 (by decide)]; exact (tc_so hc hn16).trans hz.1
    rw [b_co_keepWay_2]
    simp -implicitDefEqProofs (disch := first | assumption | omega) only [szS_0, szS_i, szS_r, szS_l, x_cons, x_goto, ob_some, kl_i, kl_r, kl_l, kl_n, push_n, push_s, pop_0, pop_i, pop_r, Int.reduceToNat, List.length_cons, List.length_nil, Nat.reduceAdd, Nat.reduceLeDiff, Nat.zero_add, true_and, nI_n0, nat_le, Nat.add_zero, i_1, rt_co_keepWay, x_al0, x_al1, x_call, x_getf, x_goto, x_iaload, x_iastore, x_icge, x_ifne, x_il2, x_inc2, x_is2, x_ldc, x_vret, fd_2_0, sf_2_0, fd_2_1, fd_2_2, fd_2_3, fd_2_4, ld_3, sd_3, ln_3, e1, e2, nI_ltE, hn', ↓reduceIte, nI_eqE]
    by_cases h0 : fd w n 0 = 0
    · have e4 : g 189 n = nI (2 ^ (v / PWd w (nn w - (n + 1)) % am w n)) := by rw [hg 189 (by decide)]; exact ho n hn' h0
      have hmd := (opV_o hw (v := v) hn' h0).2.2
      have ha3 := am_le hw hn16
      rw [if_pos h0]
      try simp -implicitDefEqProofs (disch := first | assumption | omega) only [szS_0, szS_i, szS_r, szS_l, x_cons, x_goto, ob_some, kl_i, kl_r, kl_l, kl_n, push_n, push_s, pop_0, pop_i, pop_r, Int.reduceToNat, List.length_cons, List.length_nil, Nat.reduceAdd, Nat.reduceLeDiff, Nat.zero_add, true_and, nI_n0, nat_le, Nat.add_zero, i_1, rt_co_keepWay, x_al0, x_al1, x_call, x_getf, x_goto, x_iaload, x_iastore, x_icge, x_ifne, x_il2, x_inc2, x_is2, x_ldc, x_vret, fd_184_0, fd_184_1, fd_184_2, fd_184_3, fd_184_4, fd_184_5, fd_184_6, fd_184_7, sf_184_7, fd_184_8, sf_184_8, fd_184_9, fd_184_10, fd_184_11, ld_189, sd_189, ln_189, e4]
      have hp3 : (2 : Nat) ^ (v / PWd w (nn w - (n + 1)) % am w n) ≤ 2 ^ 3 := Nat.pow_le_pow_right (by decide) (by omega)
      rw [s_ntz (k := v / PWd w (nn w - (n + 1)) % am w n) (m := 0) (by omega) (by omega) (by omega)]
      simp -implicitDefEqProofs (disch := first | assumption | omega) only [szS_0, szS_i, szS_r, szS_l, x_cons, x_goto, ob_some, kl_i, kl_r, kl_l, kl_n, push_n, push_s, pop_0, pop_i, pop_r, Int.reduceToNat, List.length_cons, List.length_nil, Nat.reduceAdd, Nat.reduceLeDiff, Nat.zero_add, true_and, nI_n0, nat_le, Nat.add_zero, i_1, rt_co_keepWay, x_al0, x_al1, x_call, x_getf, x_goto, x_iaload, x_iastore, x_icge, x_ifne, x_il2, x_inc2, x_is2, x_ldc, x_vret, ld_195, sd_195, ln_195, pu_g, upw_s, upw_w, pu_s, b_co_keepWay_34, nI_add]
      refine ih (n + 1) _ (by omega) (fun b hb => by rw [upw_o hb]; exact hg b hb) fun m hm hs => ?_
      rw [upw_s]
      by_cases e : m = n
      · rw [e, pu_s]
      · rw [pu_n e]
        exact h2 m (by omega) hs
    · rw [if_neg h0]
      try simp -implicitDefEqProofs (disch := first | assumption | omega) only [b_co_keepWay_34, szS_0, szS_i, szS_r, szS_l, x_cons, x_goto, ob_some, kl_i, kl_r, kl_l, kl_n, push_n, push_s, pop_0, pop_i, pop_r, Int.reduceToNat, List.length_cons, List.length_nil, Nat.reduceAdd, Nat.reduceLeDiff, Nat.zero_add, true_and, nI_n0, nat_le, Nat.add_zero, i_1, rt_co_keepWay, x_al0, x_al1, x_call, x_getf, x_goto, x_iaload, x_iastore, x_icge, x_ifne, x_il2, x_inc2, x_is2, x_ldc, x_vret, nI_add]
      refine ih (n + 1) g (by omega) hg fun m hm hs => ?_
      by_cases e : m = n
      · rw [e] at hs
        exact absurd hs h0
      · exact h2 m (by omega) hs
theorem s_keepWay (hw : WI w) (hc : Tc 1 w g) {v : Nat} (ho : ∀ n, n < nn w → fd w n 0 = 0 → g 189 n = nI (opV w v n)) (H : ∀ g', (∀ b, b ≠ 195 → g' b = g b) → (∀ n, n < nn w → fd w n 0 = 0 → g' 195 n = nI (v / PWd w (nn w - (n + 1)) % am w n)) → P none (E g' q)) : callC (ev (d + 2)) co_keepWay [.ref 184, .ref 2] (E g q) P := by
  refine in_co_keepWay rfl ?_
  rw [b_co_keepWay_0]
  simp -implicitDefEqProofs (disch := first | assumption | omega) only [szS_0, szS_i, szS_r, szS_l, x_cons, x_goto, ob_some, kl_i, kl_r, kl_l, kl_n, push_n, push_s, pop_0, pop_i, pop_r, Int.reduceToNat, List.length_cons, List.length_nil, Nat.reduceAdd, Nat.reduceLeDiff, Nat.zero_add, true_and, nI_n0, nat_le, Nat.add_zero, i_1, rt_co_keepWay, x_al0, x_al1, x_call, x_getf, x_goto, x_iaload, x_iastore, x_icge, x_ifne, x_il2, x_inc2, x_is2, x_ldc, x_vret]
  exact kw_lp hw hc ho H (nn w) 0 g (Nat.zero_add _) (fun _ _ => rfl) fun m hm => absurd hm (Nat.not_lt_zero m)
/-- the first way that is so, when one more is looked at -/
theorem fsA_n {s k v : Nat} (h : wyP w s v = false) : fsA w s k (v + 1) = fsA w s k v ∧ cnt (wyP w s) (v + 1) = cnt (wyP w s) v := by
  have e1 : cnt (wyP w s) (v + 1) = cnt (wyP w s) v := by rw [cnt_s, h]; rfl
  refine ⟨?_, e1⟩
  have e2 : fsV (wyP w s) (v + 1) = fsV (wyP w s) v := by
    show (if (wyP w s v && _) = true then _ else _) = _
    rw [h, Bool.false_and, if_neg Bool.false_ne_true]
  unfold fsA
  rw [e1, e2]
theorem fsA_y {s k v : Nat} (h : wyP w s v = true) : (cnt (wyP w s) v = 0 → fsA w s k (v + 1) = nI (v / PWd w (nn w - (k + 1)) % am w k)) ∧ (cnt (wyP w s) v ≠ 0 → fsA w s k (v + 1) = fsA w s k v) ∧ cnt (wyP w s) (v + 1) = cnt (wyP w s) v + 1 := by
  have e1 : cnt (wyP w s) (v + 1) = cnt (wyP w s) v + 1 := by rw [cnt_s, h]; rfl
  have e2 : fsV (wyP w s) (v + 1) = if (wyP w s v && decide (cnt (wyP w s) v = 0)) = true then v else fsV (wyP w s) v := rfl
  rw [h, Bool.true_and] at e2
  refine ⟨fun h0 => ?_, fun h0 => ?_, e1⟩
  · rw [decide_eq_true h0, if_pos rfl] at e2
    unfold fsA
    rw [e1, if_neg (Nat.succ_ne_zero _), e2]
  · rw [decide_eq_false h0, if_neg Bool.false_ne_true] at e2
    unfold fsA
    rw [e1, if_neg (Nat.succ_ne_zero _), if_neg h0, e2]
theorem cy_lp (hw : WI w) {g0 : Nat → Nat → Int32} (hc : Tc 1 w g0) {s N : Nat} (hs : s < 65536) (hN7 : N ≤ 2187) (H : ∀ g', (∀ b, b ≠ 189 → b ≠ 195 → (b < 185 ∨ 188 < b) → g' b = g0 b) → (∀ k, k < nn w → fd w k 0 = 0 → g' 195 k = fsA w s k N) → P (some (.int (nI (cnt (wyP w s) N)))) (E g' q)) : ∀ (j v : Nat) (g : Nat → Nat → Int32), v + j = N → (∀ b, b ≠ 189 → b ≠ 195 → (b < 185 ∨ 188 < b) → g b = g0 b) → (∀ k, k < nn w → fd w k 0 = 0 → g 195 k = fsA w s k v) →
    wp (ev (d + 4)) P co_countWays 22 [some (.ref 184), some (.ref 1), some (.int (nI s)), some (.int (nI N)), some (.int (nI (cnt (wyP w s) v))), some (.int (nI v))] [] (E g q) := by
  have h0 := wi_n hw
  intro j
  induction j with
  | zero =>
    intro v g hv hg hF
    have hv : v = N := hv
    subst hv
    rw [b_co_countWays_22]
    simp -implicitDefEqProofs (disch := first | assumption | omega) only [szS_0, szS_i, szS_r, szS_l, x_cons, x_goto, ob_some, kl_i, kl_r, kl_l, kl_n, push_n, push_s, pop_0, pop_i, pop_r, Int.reduceToNat, List.length_cons, List.length_nil, Nat.reduceAdd, Nat.reduceLeDiff, Nat.zero_add, true_and, nI_n0, nat_le, Nat.add_zero, i_1, rt_co_countWays, x_al0, x_al1, x_call, x_getf, x_goto, x_icge, x_icne, x_ifne, x_il2, x_il3, x_il4, x_il5, x_inc4, x_inc5, x_iret, x_is3, x_is4, x_is5, x_ldc, x_m1, nI_ltE, Nat.lt_irrefl, ↓reduceIte, b_co_countWays_68]
    exact H g hg hF
  | succ j ih =>
    intro v g hv hg hF
    have hv' : v < N := by omega
    have c : Tc 1 w g := Tc_c hc fun a a1 a2 => hg a (by omega) (by omega) (by omega)
    have hcl := cnt_le (p := wyP w s) v
    have hwl := wtS_l (w := w) (op := opV w v) (fl := vN w 6) h0.2.1
    rw [b_co_countWays_22]
    simp -implicitDefEqProofs (disch := first | assumption | omega) only [szS_0, szS_i, szS_r, szS_l, x_cons, x_goto, ob_some, kl_i, kl_r, kl_l, kl_n, push_n, push_s, pop_0, pop_i, pop_r, Int.reduceToNat, List.length_cons, List.length_nil, Nat.reduceAdd, Nat.reduceLeDiff, Nat.zero_add, true_and, nI_n0, nat_le, Nat.add_zero, i_1, rt_co_countWays, x_al0, x_al1, x_call, x_getf, x_goto, x_icge, x_icne, x_ifne, x_il2, x_il3, x_il4, x_il5, x_inc4, x_inc5, x_iret, x_is3, x_is4, x_is5, x_ldc, x_m1, nI_ltE, hv', ↓reduceIte]
    refine s_runWay hw c (by omega) fun g1 f1 c1 W1 => ?_
    have cg1 : Tc 1 w g1 := Tc_c c fun a a1 a2 => f1 a (by omega) (by omega)
    have hg1 : ∀ b, b ≠ 189 → b ≠ 195 → (b < 185 ∨ 188 < b) → g1 b = g0 b := fun b b1 b2 b3 => by rw [f1 b b1 b3, hg b b1 b2 b3]
    have hF1 : ∀ k, k < nn w → fd w k 0 = 0 → g1 195 k = fsA w s k v := fun k hk hs => by rw [f1 195 (by decide) (by omega)]; exact hF k hk hs
    simp -implicitDefEqProofs (disch := first | assumption | omega) only [szS_0, szS_i, szS_r, szS_l, x_cons, x_goto, ob_some, kl_i, kl_r, kl_l, kl_n, push_n, push_s, pop_0, pop_i, pop_r, Int.reduceToNat, List.length_cons, List.length_nil, Nat.reduceAdd, Nat.reduceLeDiff, Nat.zero_add, true_and, nI_n0, nat_le, Nat.add_zero, i_1, rt_co_countWays, x_al0, x_al1, x_call, x_getf, x_goto, x_icge, x_icne, x_ifne, x_il2, x_il3, x_il4, x_il5, x_inc4, x_inc5, x_iret, x_is3, x_is4, x_is5, x_ldc, x_m1, fd_184_0, fd_184_1, fd_184_2, fd_184_3, fd_184_4, fd_184_5, fd_184_6, fd_184_7, sf_184_7, fd_184_8, sf_184_8, fd_184_9, fd_184_10, fd_184_11, fd_185_0, fd_185_1, fd_185_2, fd_185_3, sf_185_3, fd_185_4, sf_185_4, W1.2.2.2.1, nI_eqE]
    by_cases hp : wtS w (opV w v) (vN w 6) (nn w) = s
    · have hy : wyP w s v = true := decide_eq_true hp
      rw [if_pos hp]
      try simp -implicitDefEqProofs (disch := first | assumption | omega) only [szS_0, szS_i, szS_r, szS_l, x_cons, x_goto, ob_some, kl_i, kl_r, kl_l, kl_n, push_n, push_s, pop_0, pop_i, pop_r, Int.reduceToNat, List.length_cons, List.length_nil, Nat.reduceAdd, Nat.reduceLeDiff, Nat.zero_add, true_and, nI_n0, nat_le, Nat.add_zero, i_1, rt_co_countWays, x_al0, x_al1, x_call, x_getf, x_goto, x_icge, x_icne, x_ifne, x_il2, x_il3, x_il4, x_il5, x_inc4, x_inc5, x_iret, x_is3, x_is4, x_is5, x_ldc, x_m1, nI_eqE]
      by_cases hz : cnt (wyP w s) v = 0
      · rw [if_pos hz]
        try simp -implicitDefEqProofs (disch := first | assumption | omega) only [szS_0, szS_i, szS_r, szS_l, x_cons, x_goto, ob_some, kl_i, kl_r, kl_l, kl_n, push_n, push_s, pop_0, pop_i, pop_r, Int.reduceToNat, List.length_cons, List.length_nil, Nat.reduceAdd, Nat.reduceLeDiff, Nat.zero_add, true_and, nI_n0, nat_le, Nat.add_zero, i_1, rt_co_countWays, x_al0, x_al1, x_call, x_getf, x_goto, x_icge, x_icne, x_ifne, x_il2, x_il3, x_il4, x_il5, x_inc4, x_inc5, x_iret, x_is3, x_is4, x_is5, x_ldc, x_m1, fd_1_0, fd_1_1, fd_1_2, fd_1_3, fd_1_4]
        refine s_keepWay hw cg1 c1 fun g2 f2 c2 => ?_
        simp -implicitDefEqProofs (disch := first | assumption | omega) only [szS_0, szS_i, szS_r, szS_l, x_cons, x_goto, ob_some, kl_i, kl_r, kl_l, kl_n, push_n, push_s, pop_0, pop_i, pop_r, Int.reduceToNat, List.length_cons, List.length_nil, Nat.reduceAdd, Nat.reduceLeDiff, Nat.zero_add, true_and, nI_n0, nat_le, Nat.add_zero, i_1, rt_co_countWays, x_al0, x_al1, x_call, x_getf, x_goto, x_icge, x_icne, x_ifne, x_il2, x_il3, x_il4, x_il5, x_inc4, x_inc5, x_iret, x_is3, x_is4, x_is5, x_ldc, x_m1, b_co_countWays_59, b_co_countWays_62, nI_add]
        have hi := ih (v + 1) g2 (by omega) (fun b b1 b2 b3 => by rw [f2 b b2]; exact hg1 b b1 b2 b3) fun k hk hs => by rw [(fsA_y hy).1 hz]; exact c2 k hk hs
        rw [(fsA_y (k := 0) hy).2.2] at hi
        exact hi
      · rw [if_neg hz]
        try simp -implicitDefEqProofs (disch := first | assumption | omega) only [b_co_countWays_59, b_co_countWays_62, szS_0, szS_i, szS_r, szS_l, x_cons, x_goto, ob_some, kl_i, kl_r, kl_l, kl_n, push_n, push_s, pop_0, pop_i, pop_r, Int.reduceToNat, List.length_cons, List.length_nil, Nat.reduceAdd, Nat.reduceLeDiff, Nat.zero_add, true_and, nI_n0, nat_le, Nat.add_zero, i_1, rt_co_countWays, x_al0, x_al1, x_call, x_getf, x_goto, x_icge, x_icne, x_ifne, x_il2, x_il3, x_il4, x_il5, x_inc4, x_inc5, x_iret, x_is3, x_is4, x_is5, x_ldc, x_m1, nI_add]
        have hi := ih (v + 1) g1 (by omega) hg1 fun k hk hs => by rw [(fsA_y hy).2.1 hz]; exact hF1 k hk hs
        rw [(fsA_y (k := 0) hy).2.2] at hi
        exact hi
    · have hy : wyP w s v = false := decide_eq_false hp
      rw [if_neg hp]
      try simp -implicitDefEqProofs (disch := first | assumption | omega) only [b_co_countWays_62, szS_0, szS_i, szS_r, szS_l, x_cons, x_goto, ob_some, kl_i, kl_r, kl_l, kl_n, push_n, push_s, pop_0, pop_i, pop_r, Int.reduceToNat, List.length_cons, List.length_nil, Nat.reduceAdd, Nat.reduceLeDiff, Nat.zero_add, true_and, nI_n0, nat_le, Nat.add_zero, i_1, rt_co_countWays, x_al0, x_al1, x_call, x_getf, x_goto, x_icge, x_icne, x_ifne, x_il2, x_il3, x_il4, x_il5, x_inc4, x_inc5, x_iret, x_is3, x_is4, x_is5, x_ldc, x_m1, nI_add]
      have hi := ih (v + 1) g1 (by omega) hg1 fun k hk hs => by rw [(fsA_n hy).1]; exact hF1 k hk hs
      rw [(fsA_n (k := 0) hy).2] at hi
      exact hi
theorem s_asks (hw : WI w) (hc : Tc 1 w g) {k : Int32} : callC (ev (d + 3)) vr_asksFork [.ref 0, .int k] (E g q) P = P (some (.int (bI (decide (nI 10 ≤ k) && forkB w (k - nI 10))))) (E g q) := by
  refine call_eq (in_vr_asksFork rfl ?_)
  rw [b_vr_asksFork_0]
  simp -implicitDefEqProofs (disch := first | assumption | omega) only [szS_0, szS_i, szS_r, szS_l, x_cons, x_goto, ob_some, kl_i, kl_r, kl_l, kl_n, push_n, push_s, pop_0, pop_i, pop_r, Int.reduceToNat, List.length_cons, List.length_nil, Nat.reduceAdd, Nat.reduceLeDiff, Nat.zero_add, true_and, nI_n0, nat_le, Nat.add_zero, rt_vr_asksFork_0, rt_vr_asksFork_1, rt_vr_asksFork_b, x_al0, x_call, x_getf, x_goto, x_iclt, x_ifeq, x_il1, x_iret, x_isub, x_ldc]
  by_cases h1 : k < nI 10
  · have h2 : ¬ nI 10 ≤ k := fun h => by
      rw [← lt_le] at h
      exact h h1
    simp -implicitDefEqProofs (disch := first | assumption | omega) only [h1, ↓reduceIte, b_vr_asksFork_27, b_vr_asksFork_28, szS_0, szS_i, szS_r, szS_l, x_cons, x_goto, ob_some, kl_i, kl_r, kl_l, kl_n, push_n, push_s, pop_0, pop_i, pop_r, Int.reduceToNat, List.length_cons, List.length_nil, Nat.reduceAdd, Nat.reduceLeDiff, Nat.zero_add, true_and, nI_n0, nat_le, Nat.add_zero, rt_vr_asksFork_0, rt_vr_asksFork_1, rt_vr_asksFork_b, x_al0, x_call, x_getf, x_goto, x_iclt, x_ifeq, x_il1, x_iret, x_isub, x_ldc]
    rw [decide_eq_false h2, Bool.false_and]
    all_goals first | rfl | exact ⟨rfl, rfl⟩ | exact ⟨rfl, trivial⟩ | exact ⟨trivial, rfl⟩ | trivial
  · have h2 : nI 10 ≤ k := by rw [← lt_le]; exact h1
    simp -implicitDefEqProofs (disch := first | assumption | omega) only [h1, ↓reduceIte, szS_0, szS_i, szS_r, szS_l, x_cons, x_goto, ob_some, kl_i, kl_r, kl_l, kl_n, push_n, push_s, pop_0, pop_i, pop_r, Int.reduceToNat, List.length_cons, List.length_nil, Nat.reduceAdd, Nat.reduceLeDiff, Nat.zero_add, true_and, nI_n0, nat_le, Nat.add_zero, rt_vr_asksFork_0, rt_vr_asksFork_1, rt_vr_asksFork_b, x_al0, x_call, x_getf, x_goto, x_iclt, x_ifeq, x_il1, x_iret, x_isub, x_ldc, fd_0_0, fd_0_1, fd_0_2, fd_0_3, fd_0_4, fd_0_5, fd_0_6, fd_0_7, fd_0_8, fd_0_9, sf_0_9, fd_1_0, fd_1_1, fd_1_2, fd_1_3, fd_1_4]
    rw [s_cFork (t := 1) (by decide) hw hc, decide_eq_true h2, Bool.true_and]
    simp -implicitDefEqProofs (disch := first | assumption | omega) only [szS_0, szS_i, szS_r, szS_l, x_cons, x_goto, ob_some, kl_i, kl_r, kl_l, kl_n, push_n, push_s, pop_0, pop_i, pop_r, Int.reduceToNat, List.length_cons, List.length_nil, Nat.reduceAdd, Nat.reduceLeDiff, Nat.zero_add, true_and, nI_n0, nat_le, Nat.add_zero, rt_vr_asksFork_0, rt_vr_asksFork_1, rt_vr_asksFork_b, x_al0, x_call, x_getf, x_goto, x_iclt, x_ifeq, x_il1, x_iret, x_isub, x_ldc, bI_0]
    cases forkB w (k - nI 10)
    · simp -implicitDefEqProofs (disch := first | assumption | omega) only [↓reduceIte, b_vr_asksFork_27, b_vr_asksFork_28, szS_0, szS_i, szS_r, szS_l, x_cons, x_goto, ob_some, kl_i, kl_r, kl_l, kl_n, push_n, push_s, pop_0, pop_i, pop_r, Int.reduceToNat, List.length_cons, List.length_nil, Nat.reduceAdd, Nat.reduceLeDiff, Nat.zero_add, true_and, nI_n0, nat_le, Nat.add_zero, rt_vr_asksFork_0, rt_vr_asksFork_1, rt_vr_asksFork_b, x_al0, x_call, x_getf, x_goto, x_iclt, x_ifeq, x_il1, x_iret, x_isub, x_ldc]
      all_goals first | rfl | exact ⟨rfl, rfl⟩ | exact ⟨rfl, trivial⟩ | exact ⟨trivial, rfl⟩ | trivial
    · simp -implicitDefEqProofs (disch := first | assumption | omega) only [Bool.true_eq_false, ↓reduceIte, b_vr_asksFork_28, szS_0, szS_i, szS_r, szS_l, x_cons, x_goto, ob_some, kl_i, kl_r, kl_l, kl_n, push_n, push_s, pop_0, pop_i, pop_r, Int.reduceToNat, List.length_cons, List.length_nil, Nat.reduceAdd, Nat.reduceLeDiff, Nat.zero_add, true_and, nI_n0, nat_le, Nat.add_zero, rt_vr_asksFork_0, rt_vr_asksFork_1, rt_vr_asksFork_b, x_al0, x_call, x_getf, x_goto, x_iclt, x_ifeq, x_il1, x_iret, x_isub, x_ldc]
      all_goals first | rfl | exact ⟨rfl, rfl⟩ | exact ⟨rfl, trivial⟩ | exact ⟨trivial, rfl⟩ | trivial
theorem askB_ex {k : Int32} (hw : WI w) (h : askB w k = true) (h0 : k ≠ nI 0) : ∃ f, f < nn w ∧ fd w f 0 = 0 ∧ k = nI (10 + f) := by
  unfold askB at h
  rw [decide_eq_false h0, Bool.false_or, Bool.and_eq_true] at h
  obtain ⟨f, hf, hk, hs⟩ := forkB_ex hw h.2
  refine ⟨f, hf, hs, ?_⟩
  have : k = k - nI 10 + nI 10 := (Int32.sub_add_cancel _ _).symm
  rw [this, hk, nI_add, Nat.add_comm]
theorem s_vmud (hw : WI w) (hc : Tc 1 w g) {s k : Int32} (H : ∀ g', fQ g g' → P (some (.int (muA w s k))) (E g' q)) : callC (ev (d + 6)) vr_mud [.ref 0, .int s, .int k] (E g q) P := by
  refine in_vr_mud rfl ?_
  have h0 := wi_n hw
  unfold muA at H
  have no : (cwB w s && askB w k) = false → wp (ev (d + 5)) P vr_mud 27 [some (.ref 0), some (.int s), some (.int k), none] [] (E g q) := by
    intro h
    rw [h, if_neg Bool.false_ne_true] at H
    rw [b_vr_mud_27]
    simp -implicitDefEqProofs (disch := first | assumption | omega) only [szS_0, szS_i, szS_r, szS_l, x_cons, x_goto, ob_some, kl_i, kl_r, kl_l, kl_n, push_n, push_s, pop_0, pop_i, pop_r, Int.reduceToNat, List.length_cons, List.length_nil, Nat.reduceAdd, Nat.reduceLeDiff, Nat.zero_add, true_and, nI_n0, nat_le, Nat.add_zero, rt_vr_mud, x_al0, x_call, x_getf, x_goto, x_iaload, x_ifeq, x_ifne, x_il1, x_il2, x_il3, x_iret, x_is3, x_isub, x_ldc, x_m1]
    exact H g fQ_r
  have go : (cwB w s && askB w k) = true → wp (ev (d + 5)) P vr_mud 29 [some (.ref 0), some (.int s), some (.int k), none] [] (E g q) := by
    intro h
    rw [h, if_pos rfl] at H
    rw [Bool.and_eq_true] at h
    obtain ⟨s', hs, rfl, hst, hp⟩ := cwB_ex hw h.1
    rw [ix_nI (by omega)] at H
    rw [b_vr_mud_29]
    simp -implicitDefEqProofs (disch := first | assumption | omega) only [szS_0, szS_i, szS_r, szS_l, x_cons, x_goto, ob_some, kl_i, kl_r, kl_l, kl_n, push_n, push_s, pop_0, pop_i, pop_r, Int.reduceToNat, List.length_cons, List.length_nil, Nat.reduceAdd, Nat.reduceLeDiff, Nat.zero_add, true_and, nI_n0, nat_le, Nat.add_zero, rt_vr_mud, x_al0, x_call, x_getf, x_goto, x_iaload, x_ifeq, x_ifne, x_il1, x_il2, x_il3, x_iret, x_is3, x_isub, x_ldc, x_m1, fd_0_0, fd_0_1, fd_0_2, fd_0_3, fd_0_4, fd_0_5, fd_0_6, fd_0_7, fd_0_8, fd_0_9, sf_0_9]
    refine in_co_countWays rfl ?_
    rw [b_co_countWays_0]
    simp -implicitDefEqProofs (disch := first | assumption | omega) only [szS_0, szS_i, szS_r, szS_l, x_cons, x_goto, ob_some, kl_i, kl_r, kl_l, kl_n, push_n, push_s, pop_0, pop_i, pop_r, Int.reduceToNat, List.length_cons, List.length_nil, Nat.reduceAdd, Nat.reduceLeDiff, Nat.zero_add, true_and, nI_n0, nat_le, Nat.add_zero, i_1, rt_co_countWays, x_al0, x_al1, x_call, x_getf, x_goto, x_icge, x_icne, x_ifne, x_il2, x_il3, x_il4, x_il5, x_inc4, x_inc5, x_iret, x_is3, x_is4, x_is5, x_ldc, x_m1, fd_1_0, fd_1_1, fd_1_2, fd_1_3, fd_1_4]
    rw [s_allWays hw hc]
    simp -implicitDefEqProofs (disch := first | assumption | omega) only [szS_0, szS_i, szS_r, szS_l, x_cons, x_goto, ob_some, kl_i, kl_r, kl_l, kl_n, push_n, push_s, pop_0, pop_i, pop_r, Int.reduceToNat, List.length_cons, List.length_nil, Nat.reduceAdd, Nat.reduceLeDiff, Nat.zero_add, true_and, nI_n0, nat_le, Nat.add_zero, i_1, rt_co_countWays, x_al0, x_al1, x_call, x_getf, x_goto, x_icge, x_icne, x_ifne, x_il2, x_il3, x_il4, x_il5, x_inc4, x_inc5, x_iret, x_is3, x_is4, x_is5, x_ldc, x_m1, fd_184_0, fd_184_1, fd_184_2, fd_184_3, fd_184_4, fd_184_5, fd_184_6, fd_184_7, sf_184_7, fd_184_8, sf_184_8, fd_184_9, fd_184_10, fd_184_11]
    refine s_fill (n := 16) rfl (by decide) (by decide) fun r hr => ?_
    simp -implicitDefEqProofs (disch := first | assumption | omega) only [szS_0, szS_i, szS_r, szS_l, x_cons, x_goto, ob_some, kl_i, kl_r, kl_l, kl_n, push_n, push_s, pop_0, pop_i, pop_r, Int.reduceToNat, List.length_cons, List.length_nil, Nat.reduceAdd, Nat.reduceLeDiff, Nat.zero_add, true_and, nI_n0, nat_le, Nat.add_zero, i_1, rt_co_countWays, x_al0, x_al1, x_call, x_getf, x_goto, x_icge, x_icne, x_ifne, x_il2, x_il3, x_il4, x_il5, x_inc4, x_inc5, x_iret, x_is3, x_is4, x_is5, x_ldc, x_m1]
    have c1 : Tc 1 w (upw g 195 r) := Tc_c hc fun a a1 a2 => upw_o (by omega)
    refine cy_lp hw (g0 := upw g 195 r) c1 hs hp (fun g1 f1 F1 => ?_) (PWd w (nn w)) 0 _ (Nat.zero_add _) (fun _ _ _ _ => rfl) fun k hk hs => by rw [upw_s]; exact hr k (by omega)
    have fq : fQ g g1 := fQ_mk fun b b1 b2 b4 => by rw [f1 b (by omega) (by omega) (by omega), upw_o (by omega)]
    simp -implicitDefEqProofs (disch := first | assumption | omega) only [szS_0, szS_i, szS_r, szS_l, x_cons, x_goto, ob_some, kl_i, kl_r, kl_l, kl_n, push_n, push_s, pop_0, pop_i, pop_r, Int.reduceToNat, List.length_cons, List.length_nil, Nat.reduceAdd, Nat.reduceLeDiff, Nat.zero_add, true_and, nI_n0, nat_le, Nat.add_zero, rt_vr_mud, x_al0, x_call, x_getf, x_goto, x_iaload, x_ifeq, x_ifne, x_il1, x_il2, x_il3, x_iret, x_is3, x_isub, x_ldc, x_m1]
    by_cases k0 : k = nI 0
    · rw [if_pos k0] at H
      simp -implicitDefEqProofs (disch := first | assumption | omega) only [k0, ↓reduceIte, szS_0, szS_i, szS_r, szS_l, x_cons, x_goto, ob_some, kl_i, kl_r, kl_l, kl_n, push_n, push_s, pop_0, pop_i, pop_r, Int.reduceToNat, List.length_cons, List.length_nil, Nat.reduceAdd, Nat.reduceLeDiff, Nat.zero_add, true_and, nI_n0, nat_le, Nat.add_zero, rt_vr_mud, x_al0, x_call, x_getf, x_goto, x_iaload, x_ifeq, x_ifne, x_il1, x_il2, x_il3, x_iret, x_is3, x_isub, x_ldc, x_m1, b_vr_mud_62]
      exact H g1 fq
    · rw [if_neg k0] at H
      obtain ⟨f, hf, hfs, rfl⟩ := askB_ex hw h.2 k0
      have e := F1 f hf hfs
      rw [ix_nI (by omega), Nat.add_sub_cancel_left] at H
      simp -implicitDefEqProofs (disch := first | assumption | omega) only [k0, ↓reduceIte, szS_0, szS_i, szS_r, szS_l, x_cons, x_goto, ob_some, kl_i, kl_r, kl_l, kl_n, push_n, push_s, pop_0, pop_i, pop_r, Int.reduceToNat, List.length_cons, List.length_nil, Nat.reduceAdd, Nat.reduceLeDiff, Nat.zero_add, true_and, nI_n0, nat_le, Nat.add_zero, rt_vr_mud, x_al0, x_call, x_getf, x_goto, x_iaload, x_ifeq, x_ifne, x_il1, x_il2, x_il3, x_iret, x_is3, x_isub, x_ldc, x_m1, b_vr_mud_50, b_vr_mud_62, fd_0_0, fd_0_1, fd_0_2, fd_0_3, fd_0_4, fd_0_5, fd_0_6, fd_0_7, fd_0_8, fd_0_9, sf_0_9, fd_184_0, fd_184_1, fd_184_2, fd_184_3, fd_184_4, fd_184_5, fd_184_6, fd_184_7, sf_184_7, fd_184_8, sf_184_8, fd_184_9, fd_184_10, fd_184_11, ld_195, sd_195, ln_195, nI_sub, Nat.add_sub_cancel_left, e]
      exact H g1 fq
  rw [b_vr_mud_0]
  simp -implicitDefEqProofs (disch := first | assumption | omega) only [szS_0, szS_i, szS_r, szS_l, x_cons, x_goto, ob_some, kl_i, kl_r, kl_l, kl_n, push_n, push_s, pop_0, pop_i, pop_r, Int.reduceToNat, List.length_cons, List.length_nil, Nat.reduceAdd, Nat.reduceLeDiff, Nat.zero_add, true_and, nI_n0, nat_le, Nat.add_zero, rt_vr_mud, x_al0, x_call, x_getf, x_goto, x_iaload, x_ifeq, x_ifne, x_il1, x_il2, x_il3, x_iret, x_is3, x_isub, x_ldc, x_m1, fd_0_0, fd_0_1, fd_0_2, fd_0_3, fd_0_4, fd_0_5, fd_0_6, fd_0_7, fd_0_8, fd_0_9, sf_0_9]
  rw [s_canWeigh hw hc]
  simp -implicitDefEqProofs (disch := first | assumption | omega) only [szS_0, szS_i, szS_r, szS_l, x_cons, x_goto, ob_some, kl_i, kl_r, kl_l, kl_n, push_n, push_s, pop_0, pop_i, pop_r, Int.reduceToNat, List.length_cons, List.length_nil, Nat.reduceAdd, Nat.reduceLeDiff, Nat.zero_add, true_and, nI_n0, nat_le, Nat.add_zero, rt_vr_mud, x_al0, x_call, x_getf, x_goto, x_iaload, x_ifeq, x_ifne, x_il1, x_il2, x_il3, x_iret, x_is3, x_isub, x_ldc, x_m1, bI_0]
  cases h1 : cwB w s
  · simp -implicitDefEqProofs (disch := first | assumption | omega) only [↓reduceIte]
    exact no (by rw [h1, Bool.false_and])
  · simp -implicitDefEqProofs (disch := first | assumption | omega) only [Bool.true_eq_false, ↓reduceIte, szS_0, szS_i, szS_r, szS_l, x_cons, x_goto, ob_some, kl_i, kl_r, kl_l, kl_n, push_n, push_s, pop_0, pop_i, pop_r, Int.reduceToNat, List.length_cons, List.length_nil, Nat.reduceAdd, Nat.reduceLeDiff, Nat.zero_add, true_and, nI_n0, nat_le, Nat.add_zero, rt_vr_mud, x_al0, x_call, x_getf, x_goto, x_iaload, x_ifeq, x_ifne, x_il1, x_il2, x_il3, x_iret, x_is3, x_isub, x_ldc, x_m1]
    by_cases k0 : k = nI 0
    · rw [if_pos k0]
      refine go ?_
      rw [h1, Bool.true_and]
      unfold askB
      rw [decide_eq_true k0, Bool.true_or]
    · rw [if_neg k0]
      try simp -implicitDefEqProofs (disch := first | assumption | omega) only [szS_0, szS_i, szS_r, szS_l, x_cons, x_goto, ob_some, kl_i, kl_r, kl_l, kl_n, push_n, push_s, pop_0, pop_i, pop_r, Int.reduceToNat, List.length_cons, List.length_nil, Nat.reduceAdd, Nat.reduceLeDiff, Nat.zero_add, true_and, nI_n0, nat_le, Nat.add_zero, rt_vr_mud, x_al0, x_call, x_getf, x_goto, x_iaload, x_ifeq, x_ifne, x_il1, x_il2, x_il3, x_iret, x_is3, x_isub, x_ldc, x_m1]
      rw [s_asks hw hc]
      simp -implicitDefEqProofs (disch := first | assumption | omega) only [szS_0, szS_i, szS_r, szS_l, x_cons, x_goto, ob_some, kl_i, kl_r, kl_l, kl_n, push_n, push_s, pop_0, pop_i, pop_r, Int.reduceToNat, List.length_cons, List.length_nil, Nat.reduceAdd, Nat.reduceLeDiff, Nat.zero_add, true_and, nI_n0, nat_le, Nat.add_zero, rt_vr_mud, x_al0, x_call, x_getf, x_goto, x_iaload, x_ifeq, x_ifne, x_il1, x_il2, x_il3, x_iret, x_is3, x_isub, x_ldc, x_m1, bI_0]
      have eB : askB w k = (decide (nI 10 ≤ k) && forkB w (k - nI 10)) := by
        unfold askB
        rw [decide_eq_false k0, Bool.false_or]
      cases h2 : (decide (nI 10 ≤ k) && forkB w (k - nI 10))
      · simp -implicitDefEqProofs (disch := first | assumption | omega) only [↓reduceIte, szS_0, szS_i, szS_r, szS_l, x_cons, x_goto, ob_some, kl_i, kl_r, kl_l, kl_n, push_n, push_s, pop_0, pop_i, pop_r, Int.reduceToNat, List.length_cons, List.length_nil, Nat.reduceAdd, Nat.reduceLeDiff, Nat.zero_add, true_and, nI_n0, nat_le, Nat.add_zero, rt_vr_mud, x_al0, x_call, x_getf, x_goto, x_iaload, x_ifeq, x_ifne, x_il1, x_il2, x_il3, x_iret, x_is3, x_isub, x_ldc, x_m1]
        exact no (by rw [eB, h2, Bool.and_false])
      · simp -implicitDefEqProofs (disch := first | assumption | omega) only [Bool.true_eq_false, ↓reduceIte]
        exact go (by rw [eB, h1, h2]; rfl)
end CW2
