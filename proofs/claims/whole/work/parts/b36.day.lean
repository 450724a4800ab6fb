/-! the reference's day: moves, the whole -/
section ML
variable {d : Nat} {g : Nat → Nat → Int32} {q : Nat → Nat → Int64} {P : QT}
theorem wt_lp (hw : WI (g 197)) (H : P (some (.int (nN (wtt (g 197) (nn (g 197)))))) (E g q)) : ∀ (j n : Nat), n + j = nn (g 197) →
    wp (ev (d + 3)) P mo_wettest 4 [some (.ref 196), some (.int (nN (wtt (g 197) n))), some (.int (nI n))] [] (E g q) := by
  have h0 := wi_n hw
  intro j
  induction j with
  | zero =>
    intro n hn
    have hn : n = nn (g 197) := hn
    rw [hn, b_mo_wettest_4]
    simp -implicitDefEqProofs (disch := first | assumption | omega) only [szS_0, szS_i, szS_r, szS_l, x_cons, x_goto, ob_some, kl_i, kl_r, kl_l, kl_n, push_n, push_s, pop_0, pop_i, pop_r, Int.reduceToNat, List.length_cons, List.length_nil, Nat.reduceAdd, Nat.reduceLeDiff, Nat.zero_add, true_and, nI_n0, nat_le, Nat.add_zero, i_1, rt_mo_wettest, x_al0, x_call, x_getf, x_goto, x_iaload, x_iceq, x_icge, x_icle, x_icne, x_ifeq, x_il1, x_il2, x_inc2, x_iret, x_is1, x_is2, x_isub, x_ldc, x_m1, fd_196_0, fd_196_1, fd_196_2, fd_196_3, fd_196_4, sf_196_4, fd_196_5, sf_196_5, fd_196_6, fd_196_7, fd_196_8, fd_196_9, fd_196_10, fd_196_11, fd_196_12, sf_196_12, fd_196_13, sf_196_13, fd_196_14, sf_196_14, fd_196_15, sf_196_15, fd_196_16, sf_196_16, fd_196_17, sf_196_17, fd_196_18, sf_196_18, fd_196_19, sf_196_19, fd_196_20, sf_196_20, fd_196_21, sf_196_21, fd_196_22, sf_196_22, fd_196_23, sf_196_23, fd_196_24, sf_196_24, fd_196_25, sf_196_25, fd_196_26, sf_196_26, fd_196_27, fd_196_28, fd_196_29, fd_196_30, sf_196_30, fd_196_31, fd_196_32, fd_196_33, fd_196_34, fd_196_35, fd_196_36, fd_196_37, sf_196_37, fd_196_38, fd_196_39, sf_196_39, fd_196_40, sf_196_40, fd_196_41, sf_196_41, fd_196_42, fd_196_43, fd_196_44, ld_197, sd_197, ln_197, h0.1, nI_ltE, Nat.lt_irrefl, ↓reduceIte, b_mo_wettest_79]
    exact H
  | succ j ih =>
    intro n hn
    have hn' : n < nn (g 197) := by omega
    have hy := wi_y hw (n := n) (by omega)
    have hi := ih (n + 1) (by omega)
    have e1 : wtt (g 197) (n + 1) = if fd (g 197) n 0 = 1 ∧ fd (g 197) n 17 = 1 ∧ (wtt (g 197) n = 99 ∨ fd (g 197) (wtt (g 197) n) 12 + fd (g 197) n 11 < fd (g 197) n 12 + fd (g 197) (wtt (g 197) n) 11) then n else wtt (g 197) n := rfl
    have hl := wtt_l (w := g 197) n
    have hlb : wtt (g 197) n ≤ 99 := by omega
    have yes : wtt (g 197) (n + 1) = n → wp (ev (d + 3)) P mo_wettest 71 [some (.ref 196), some (.int (nN (wtt (g 197) n))), some (.int (nI n))] [] (E g q) := by
      intro he
      rw [b_mo_wettest_71]
      simp -implicitDefEqProofs (disch := first | assumption | omega) only [szS_0, szS_i, szS_r, szS_l, x_cons, x_goto, ob_some, kl_i, kl_r, kl_l, kl_n, push_n, push_s, pop_0, pop_i, pop_r, Int.reduceToNat, List.length_cons, List.length_nil, Nat.reduceAdd, Nat.reduceLeDiff, Nat.zero_add, true_and, nI_n0, nat_le, Nat.add_zero, i_1, rt_mo_wettest, x_al0, x_call, x_getf, x_goto, x_iaload, x_iceq, x_icge, x_icle, x_icne, x_ifeq, x_il1, x_il2, x_inc2, x_iret, x_is1, x_is2, x_isub, x_ldc, x_m1, b_mo_wettest_73, nI_add]
      rw [he, nN_n (by omega)] at hi
      exact hi
    have no : wtt (g 197) (n + 1) = wtt (g 197) n → wp (ev (d + 3)) P mo_wettest 73 [some (.ref 196), some (.int (nN (wtt (g 197) n))), some (.int (nI n))] [] (E g q) := by
      intro he
      rw [b_mo_wettest_73]
      simp -implicitDefEqProofs (disch := first | assumption | omega) only [szS_0, szS_i, szS_r, szS_l, x_cons, x_goto, ob_some, kl_i, kl_r, kl_l, kl_n, push_n, push_s, pop_0, pop_i, pop_r, Int.reduceToNat, List.length_cons, List.length_nil, Nat.reduceAdd, Nat.reduceLeDiff, Nat.zero_add, true_and, nI_n0, nat_le, Nat.add_zero, i_1, rt_mo_wettest, x_al0, x_call, x_getf, x_goto, x_iaload, x_iceq, x_icge, x_icle, x_icne, x_ifeq, x_il1, x_il2, x_inc2, x_iret, x_is1, x_is2, x_isub, x_ldc, x_m1, nI_add]
      rw [he] at hi
      exact hi
    rw [b_mo_wettest_4]
    simp -implicitDefEqProofs (disch := first | assumption | omega) only [szS_0, szS_i, szS_r, szS_l, x_cons, x_goto, ob_some, kl_i, kl_r, kl_l, kl_n, push_n, push_s, pop_0, pop_i, pop_r, Int.reduceToNat, List.length_cons, List.length_nil, Nat.reduceAdd, Nat.reduceLeDiff, Nat.zero_add, true_and, nI_n0, nat_le, Nat.add_zero, i_1, rt_mo_wettest, x_al0, x_call, x_getf, x_goto, x_iaload, x_iceq, x_icge, x_icle, x_icne, x_ifeq, x_il1, x_il2, x_inc2, x_iret, x_is1, x_is2, x_isub, x_ldc, x_m1, fd_196_0, fd_196_1, fd_196_2, fd_196_3, fd_196_4, sf_196_4, fd_196_5, sf_196_5, fd_196_6, fd_196_7, fd_196_8, fd_196_9, fd_196_10, fd_196_11, fd_196_12, sf_196_12, fd_196_13, sf_196_13, fd_196_14, sf_196_14, fd_196_15, sf_196_15, fd_196_16, sf_196_16, fd_196_17, sf_196_17, fd_196_18, sf_196_18, fd_196_19, sf_196_19, fd_196_20, sf_196_20, fd_196_21, sf_196_21, fd_196_22, sf_196_22, fd_196_23, sf_196_23, fd_196_24, sf_196_24, fd_196_25, sf_196_25, fd_196_26, sf_196_26, fd_196_27, fd_196_28, fd_196_29, fd_196_30, sf_196_30, fd_196_31, fd_196_32, fd_196_33, fd_196_34, fd_196_35, fd_196_36, fd_196_37, sf_196_37, fd_196_38, fd_196_39, sf_196_39, fd_196_40, sf_196_40, fd_196_41, sf_196_41, fd_196_42, fd_196_43, fd_196_44, ld_197, sd_197, ln_197, h0.1, nI_ltE, hn', ↓reduceIte, s_isTown, bI_0, townB_nI, decide_true, Bool.true_and]
    by_cases e : fd (g 197) n 0 = 1
    · simp -implicitDefEqProofs (disch := first | assumption | omega) only [e, decide_true, Bool.true_eq_false, ↓reduceIte, szS_0, szS_i, szS_r, szS_l, x_cons, x_goto, ob_some, kl_i, kl_r, kl_l, kl_n, push_n, push_s, pop_0, pop_i, pop_r, Int.reduceToNat, List.length_cons, List.length_nil, Nat.reduceAdd, Nat.reduceLeDiff, Nat.zero_add, true_and, nI_n0, nat_le, Nat.add_zero, i_1, rt_mo_wettest, x_al0, x_call, x_getf, x_goto, x_iaload, x_iceq, x_icge, x_icle, x_icne, x_ifeq, x_il1, x_il2, x_inc2, x_iret, x_is1, x_is2, x_isub, x_ldc, x_m1, s_own, hy.2.2.2.2.2.2.2.1, nI_eqE]
      by_cases ew : fd (g 197) n 17 = 1
      · simp -implicitDefEqProofs (disch := first | assumption | omega) only [ew, ↓reduceIte, szS_0, szS_i, szS_r, szS_l, x_cons, x_goto, ob_some, kl_i, kl_r, kl_l, kl_n, push_n, push_s, pop_0, pop_i, pop_r, Int.reduceToNat, List.length_cons, List.length_nil, Nat.reduceAdd, Nat.reduceLeDiff, Nat.zero_add, true_and, nI_n0, nat_le, Nat.add_zero, i_1, rt_mo_wettest, x_al0, x_call, x_getf, x_goto, x_iaload, x_iceq, x_icge, x_icle, x_icne, x_ifeq, x_il1, x_il2, x_inc2, x_iret, x_is1, x_is2, x_isub, x_ldc, x_m1, nN_1]
        by_cases e9 : wtt (g 197) n = 99
        · simp only [e9, ↓reduceIte]
          have := yes (by rw [e1, if_pos ⟨e, ew, Or.inl e9⟩])
          rw [e9] at this
          exact this
        · have hb := hl.resolve_left e9
          have hyb := wi_y hw (n := wtt (g 197) n) (by omega)
          simp only [e9, ↓reduceIte]
          rw [nN_n e9]
          simp -implicitDefEqProofs (disch := first | assumption | omega) only [szS_0, szS_i, szS_r, szS_l, x_cons, x_goto, ob_some, kl_i, kl_r, kl_l, kl_n, push_n, push_s, pop_0, pop_i, pop_r, Int.reduceToNat, List.length_cons, List.length_nil, Nat.reduceAdd, Nat.reduceLeDiff, Nat.zero_add, true_and, nI_n0, nat_le, Nat.add_zero, i_1, rt_mo_wettest, x_al0, x_call, x_getf, x_goto, x_iaload, x_iceq, x_icge, x_icle, x_icne, x_ifeq, x_il1, x_il2, x_inc2, x_iret, x_is1, x_is2, x_isub, x_ldc, x_m1, s_own, hy.2.1.1, hy.2.2.1.1, hyb.2.1.1, hyb.2.2.1.1, nI_ss]
          rw [nN_n e9] at yes no
          by_cases ev : fd (g 197) (wtt (g 197) n) 12 + fd (g 197) n 11 < fd (g 197) n 12 + fd (g 197) (wtt (g 197) n) 11
          · simp only [ev, ↓reduceIte]
            exact yes (by rw [e1, if_pos ⟨e, ew, Or.inr ev⟩])
          · simp only [ev, ↓reduceIte]
            exact no (by rw [e1, if_neg fun h => h.2.2.elim e9 ev])
      · simp -implicitDefEqProofs (disch := first | assumption | omega) only [ew, ↓reduceIte]
        exact no (by rw [e1, if_neg fun h => ew h.2.1])
    · simp -implicitDefEqProofs (disch := first | assumption | omega) only [e, decide_false, ↓reduceIte]
      exact no (by rw [e1, if_neg fun h => e h.1])
theorem s_wettest (hw : WI (g 197)) : callC (ev (d + 4)) mo_wettest [.ref 196] (E g q) P = P (some (.int (nN (wtt (g 197) (nn (g 197)))))) (E g q) := by
  refine call_eq (in_mo_wettest rfl ?_)
  rw [b_mo_wettest_0]
  simp -implicitDefEqProofs (disch := first | assumption | omega) only [szS_0, szS_i, szS_r, szS_l, x_cons, x_goto, ob_some, kl_i, kl_r, kl_l, kl_n, push_n, push_s, pop_0, pop_i, pop_r, Int.reduceToNat, List.length_cons, List.length_nil, Nat.reduceAdd, Nat.reduceLeDiff, Nat.zero_add, true_and, nI_n0, nat_le, Nat.add_zero, i_1, rt_mo_wettest, x_al0, x_call, x_getf, x_goto, x_iaload, x_iceq, x_icge, x_icle, x_icne, x_ifeq, x_il1, x_il2, x_inc2, x_iret, x_is1, x_is2, x_isub, x_ldc, x_m1]
  exact wt_lp hw ⟨rfl, rfl⟩ (nn (g 197)) 0 (Nat.zero_add _)
theorem am_lp {w : Nat → Int32} (hw : WI w) {M : LW} (hL : LK w 1 okM M) {to : Nat} (hto : to < nn w) (ht0 : fd w to 0 = 1) {g0 : Nat → Nat → Int32} (H : ∀ g', fr [205, 206, 207, 197] g0 g' → g' 197 = mvR M w to (nn w) → P none (E g' q)) :
    ∀ (j t : Nat) (g : Nat → Nat → Int32) (o : Option Value), t + j = nn w → g 197 = mvR M w to t → fr [205, 206, 207, 197] g0 g →
    wp (ev (d + 5)) P mo_allMove 7 [some (.ref 196), some (.int (nI to)), some (.int (nI t)), o] [] (E g q) := by
  have h0 := wi_n hw
  have mz := nI_m1 (a := to) (by omega)
  intro j
  induction j with
  | zero =>
    intro t g o ht hg hr
    have ht : t = nn w := ht
    have hwg : WI (g 197) := by rw [hg]; exact (mvR_wi hw hto ht0 _ (by omega)).1
    have hn := wi_n hwg
    have e0 : nn (g 197) = nn w := by rw [hg]; exact nn_c (mvR_o _ (fun t ht => by omega) (by omega))
    rw [e0] at hn
    rw [b_mo_allMove_7]
    simp -implicitDefEqProofs (disch := first | assumption | omega) only [szS_0, szS_i, szS_r, szS_l, x_cons, x_goto, ob_some, kl_i, kl_r, kl_l, kl_n, push_n, push_s, pop_0, pop_i, pop_r, Int.reduceToNat, List.length_cons, List.length_nil, Nat.reduceAdd, Nat.reduceLeDiff, Nat.zero_add, true_and, nI_n0, nat_le, Nat.add_zero, i_1, rt_mo_allMove, x_al0, x_call, x_getf, x_goto, x_iadd, x_iaload, x_iceq, x_icge, x_icne, x_ifeq, x_il1, x_il2, x_il3, x_inc2, x_is1, x_is2, x_is3, x_isub, x_ldc, x_m1, x_vret, fd_196_0, fd_196_1, fd_196_2, fd_196_3, fd_196_4, sf_196_4, fd_196_5, sf_196_5, fd_196_6, fd_196_7, fd_196_8, fd_196_9, fd_196_10, fd_196_11, fd_196_12, sf_196_12, fd_196_13, sf_196_13, fd_196_14, sf_196_14, fd_196_15, sf_196_15, fd_196_16, sf_196_16, fd_196_17, sf_196_17, fd_196_18, sf_196_18, fd_196_19, sf_196_19, fd_196_20, sf_196_20, fd_196_21, sf_196_21, fd_196_22, sf_196_22, fd_196_23, sf_196_23, fd_196_24, sf_196_24, fd_196_25, sf_196_25, fd_196_26, sf_196_26, fd_196_27, fd_196_28, fd_196_29, fd_196_30, sf_196_30, fd_196_31, fd_196_32, fd_196_33, fd_196_34, fd_196_35, fd_196_36, fd_196_37, sf_196_37, fd_196_38, fd_196_39, sf_196_39, fd_196_40, sf_196_40, fd_196_41, sf_196_41, fd_196_42, fd_196_43, fd_196_44, ld_197, sd_197, ln_197, hn.1, ht, nI_ltE, Nat.lt_irrefl, ↓reduceIte, b_mo_allMove_88]
    exact H g hr (by rw [hg, ht])
  | succ j ih =>
    intro t g o ht hg hr
    have ht' : t < nn w := by omega
    have hwg : WI (g 197) := by rw [hg]; exact (mvR_wi hw hto ht0 _ (by omega)).1
    have hn := wi_n hwg
    have e0 : nn (g 197) = nn w := by rw [hg]; exact nn_c (mvR_o _ (fun t ht => by omega) (by omega))
    have eg : ∀ m f, f < 20 → f ≠ 10 → fd (g 197) m f = fd w m f := fun m f h1 h2 => by rw [hg]; exact fd_c (mvR_f h1 h2)
    have hLg : LK (g 197) 1 okM M := by
      rw [hg]
      exact LK_c (fun j hj => mvR_o _ (fun t ht => by omega) (by omega)) hL
    rw [e0] at hn
    have hy := wi_y hwg (n := t) (by omega)
    have hyt := wi_y hwg (n := to) (by omega)
    have h17 : fd w t 17 ≤ 1 := by
      rw [← eg t 17 (by decide) (by decide)]
      exact hy.2.2.2.2.2.2.2.2
    have hq : mvR M w to (t + 1) = if fd w t 0 = 1 ∧ fd w t 17 ≠ 1 then mv1 M (mvR M w to t) t to else mvR M w to t := rfl
    have next : ∀ g1 o, fr [205, 206, 207, 197] g g1 → g1 197 = mvR M w to (t + 1) → wp (ev (d + 5)) P mo_allMove 82 [some (.ref 196), some (.int (nI to)), some (.int (nI t)), o] [] (E g1 q) := by
      intro g1 o f1 e1
      rw [b_mo_allMove_82]
      simp -implicitDefEqProofs (disch := first | assumption | omega) only [szS_0, szS_i, szS_r, szS_l, x_cons, x_goto, ob_some, kl_i, kl_r, kl_l, kl_n, push_n, push_s, pop_0, pop_i, pop_r, Int.reduceToNat, List.length_cons, List.length_nil, Nat.reduceAdd, Nat.reduceLeDiff, Nat.zero_add, true_and, nI_n0, nat_le, Nat.add_zero, i_1, rt_mo_allMove, x_al0, x_call, x_getf, x_goto, x_iadd, x_iaload, x_iceq, x_icge, x_icne, x_ifeq, x_il1, x_il2, x_il3, x_inc2, x_is1, x_is2, x_is3, x_isub, x_ldc, x_m1, x_vret, nI_add]
      exact ih (t + 1) g1 o (by omega) e1 (fr_t hr f1)
    rw [b_mo_allMove_7]
    simp -implicitDefEqProofs (disch := first | assumption | omega) only [szS_0, szS_i, szS_r, szS_l, x_cons, x_goto, ob_some, kl_i, kl_r, kl_l, kl_n, push_n, push_s, pop_0, pop_i, pop_r, Int.reduceToNat, List.length_cons, List.length_nil, Nat.reduceAdd, Nat.reduceLeDiff, Nat.zero_add, true_and, nI_n0, nat_le, Nat.add_zero, i_1, rt_mo_allMove, x_al0, x_call, x_getf, x_goto, x_iadd, x_iaload, x_iceq, x_icge, x_icne, x_ifeq, x_il1, x_il2, x_il3, x_inc2, x_is1, x_is2, x_is3, x_isub, x_ldc, x_m1, x_vret, fd_196_0, fd_196_1, fd_196_2, fd_196_3, fd_196_4, sf_196_4, fd_196_5, sf_196_5, fd_196_6, fd_196_7, fd_196_8, fd_196_9, fd_196_10, fd_196_11, fd_196_12, sf_196_12, fd_196_13, sf_196_13, fd_196_14, sf_196_14, fd_196_15, sf_196_15, fd_196_16, sf_196_16, fd_196_17, sf_196_17, fd_196_18, sf_196_18, fd_196_19, sf_196_19, fd_196_20, sf_196_20, fd_196_21, sf_196_21, fd_196_22, sf_196_22, fd_196_23, sf_196_23, fd_196_24, sf_196_24, fd_196_25, sf_196_25, fd_196_26, sf_196_26, fd_196_27, fd_196_28, fd_196_29, fd_196_30, sf_196_30, fd_196_31, fd_196_32, fd_196_33, fd_196_34, fd_196_35, fd_196_36, fd_196_37, sf_196_37, fd_196_38, fd_196_39, sf_196_39, fd_196_40, sf_196_40, fd_196_41, sf_196_41, fd_196_42, fd_196_43, fd_196_44, ld_197, sd_197, ln_197, hn.1, nI_ltE, ht', ↓reduceIte, mz, s_isTown, bI_0, townB_nI, e0, eg t 0 (by decide) (by decide), decide_true, Bool.true_and]
    by_cases e : fd w t 0 = 1
    · simp -implicitDefEqProofs (disch := first | assumption | omega) only [e, decide_true, Bool.true_eq_false, ↓reduceIte, szS_0, szS_i, szS_r, szS_l, x_cons, x_goto, ob_some, kl_i, kl_r, kl_l, kl_n, push_n, push_s, pop_0, pop_i, pop_r, Int.reduceToNat, List.length_cons, List.length_nil, Nat.reduceAdd, Nat.reduceLeDiff, Nat.zero_add, true_and, nI_n0, nat_le, Nat.add_zero, i_1, rt_mo_allMove, x_al0, x_call, x_getf, x_goto, x_iadd, x_iaload, x_iceq, x_icge, x_icne, x_ifeq, x_il1, x_il2, x_il3, x_inc2, x_is1, x_is2, x_is3, x_isub, x_ldc, x_m1, x_vret, s_own, hy.2.2.2.2.2.2.2.1, nI_eqE, eg t 17 (by decide) (by decide)]
      by_cases ew : fd w t 17 = 1
      · simp -implicitDefEqProofs (disch := first | assumption | omega) only [ew, ↓reduceIte]
        exact next g o fr_r (by rw [hg, hq, if_neg fun h => h.2 ew])
      · simp -implicitDefEqProofs (disch := first | assumption | omega) only [ew, ↓reduceIte, b_mo_allMove_44, szS_0, szS_i, szS_r, szS_l, x_cons, x_goto, ob_some, kl_i, kl_r, kl_l, kl_n, push_n, push_s, pop_0, pop_i, pop_r, Int.reduceToNat, List.length_cons, List.length_nil, Nat.reduceAdd, Nat.reduceLeDiff, Nat.zero_add, true_and, nI_n0, nat_le, Nat.add_zero, i_1, rt_mo_allMove, x_al0, x_call, x_getf, x_goto, x_iadd, x_iaload, x_iceq, x_icge, x_icne, x_ifeq, x_il1, x_il2, x_il3, x_inc2, x_is1, x_is2, x_is3, x_isub, x_ldc, x_m1, x_vret]
        refine s_movers (t := t) hwg hLg (by omega) fun g1 f1 => ?_
        have e197 : g1 197 = g 197 := fr_a f1 rfl
        have hml := (mv_I hwg (M := M) (t := t) (by omega)).1
        have hs := mv1_s hwg (M := M) (t := t) (to := to) (by omega) (by omega)
        have h3 := WI_s hwg
        have w1 := WI_t hwg (n := t) (f := 10) (v := fd (g 197) t 10 - mv M (g 197) t) (by omega) (by rw [eg t 0 (by decide) (by decide)]; exact e) (by omega) (by omega)
        have hyt2 := (wi_y w1 (n := to) (by omega)).1.1
        simp -implicitDefEqProofs (disch := first | assumption | omega) only [szS_0, szS_i, szS_r, szS_l, x_cons, x_goto, ob_some, kl_i, kl_r, kl_l, kl_n, push_n, push_s, pop_0, pop_i, pop_r, Int.reduceToNat, List.length_cons, List.length_nil, Nat.reduceAdd, Nat.reduceLeDiff, Nat.zero_add, true_and, nI_n0, nat_le, Nat.add_zero, i_1, rt_mo_allMove, x_al0, x_call, x_getf, x_goto, x_iadd, x_iaload, x_iceq, x_icge, x_icne, x_ifeq, x_il1, x_il2, x_il3, x_inc2, x_is1, x_is2, x_is3, x_isub, x_ldc, x_m1, x_vret, s_own, s_gives, e197, hy.1.1, nI_sub, pu_g, pu_w, upw_s, upw_w, hyt2, nI_add]
        refine next _ _ (fr_w rfl (fr_m rfl f1)) ?_
        rw [upw_s, hq, if_pos ⟨e, ew⟩, ← hg]
        rfl
    · simp -implicitDefEqProofs (disch := first | assumption | omega) only [e, decide_false, ↓reduceIte]
      exact next g o fr_r (by rw [hg, hq, if_neg fun h => e h.1])
theorem s_allMove (hw : WI (g 197)) {M : LW} (hL : LK (g 197) 1 okM M) (H : ∀ g', fr [205, 206, 207, 197] g g' → g' 197 = alR M (g 197) → P none (E g' q)) : callC (ev (d + 6)) mo_allMove [.ref 196] (E g q) P := by
  refine in_mo_allMove rfl ?_
  have h0 := wi_n hw
  rw [b_mo_allMove_0]
  simp -implicitDefEqProofs (disch := first | assumption | omega) only [szS_0, szS_i, szS_r, szS_l, x_cons, x_goto, ob_some, kl_i, kl_r, kl_l, kl_n, push_n, push_s, pop_0, pop_i, pop_r, Int.reduceToNat, List.length_cons, List.length_nil, Nat.reduceAdd, Nat.reduceLeDiff, Nat.zero_add, true_and, nI_n0, nat_le, Nat.add_zero, i_1, rt_mo_allMove, x_al0, x_call, x_getf, x_goto, x_iadd, x_iaload, x_iceq, x_icge, x_icne, x_ifeq, x_il1, x_il2, x_il3, x_inc2, x_is1, x_is2, x_is3, x_isub, x_ldc, x_m1, x_vret, s_wettest]
  by_cases e : wtt (g 197) (nn (g 197)) = 99
  · have hp : 0 < nn (g 197) := by omega
    have e9 : nN (wtt (g 197) (nn (g 197))) = -1 := if_pos e
    rw [b_mo_allMove_7]
    simp -implicitDefEqProofs (disch := first | assumption | omega) only [szS_0, szS_i, szS_r, szS_l, x_cons, x_goto, ob_some, kl_i, kl_r, kl_l, kl_n, push_n, push_s, pop_0, pop_i, pop_r, Int.reduceToNat, List.length_cons, List.length_nil, Nat.reduceAdd, Nat.reduceLeDiff, Nat.zero_add, true_and, nI_n0, nat_le, Nat.add_zero, i_1, rt_mo_allMove, x_al0, x_call, x_getf, x_goto, x_iadd, x_iaload, x_iceq, x_icge, x_icne, x_ifeq, x_il1, x_il2, x_il3, x_inc2, x_is1, x_is2, x_is3, x_isub, x_ldc, x_m1, x_vret, fd_196_0, fd_196_1, fd_196_2, fd_196_3, fd_196_4, sf_196_4, fd_196_5, sf_196_5, fd_196_6, fd_196_7, fd_196_8, fd_196_9, fd_196_10, fd_196_11, fd_196_12, sf_196_12, fd_196_13, sf_196_13, fd_196_14, sf_196_14, fd_196_15, sf_196_15, fd_196_16, sf_196_16, fd_196_17, sf_196_17, fd_196_18, sf_196_18, fd_196_19, sf_196_19, fd_196_20, sf_196_20, fd_196_21, sf_196_21, fd_196_22, sf_196_22, fd_196_23, sf_196_23, fd_196_24, sf_196_24, fd_196_25, sf_196_25, fd_196_26, sf_196_26, fd_196_27, fd_196_28, fd_196_29, fd_196_30, sf_196_30, fd_196_31, fd_196_32, fd_196_33, fd_196_34, fd_196_35, fd_196_36, fd_196_37, sf_196_37, fd_196_38, fd_196_39, sf_196_39, fd_196_40, sf_196_40, fd_196_41, sf_196_41, fd_196_42, fd_196_43, fd_196_44, ld_197, sd_197, ln_197, h0.1, nI_ltE, hp, ↓reduceIte, e9, b_mo_allMove_88]
    exact H g fr_r (if_pos e).symm
  · have ht := (wtt_l (w := g 197) (nn (g 197))).resolve_left e
    have e2 : alR M (g 197) = mvR M (g 197) (wtt (g 197) (nn (g 197))) (nn (g 197)) := if_neg e
    rw [nN_n e]
    rw [e2] at H
    exact am_lp hw hL ht.1 ht.2.1 H (nn (g 197)) 0 g none (Nat.zero_add _) rfl fr_r
theorem ad_lp {w : Nat → Int32} (hw : WI w) {V : LW} (hL : LK w 0 okV V) {v1 : Int32} {g0 : Nat → Nat → Int32} (H : ∀ g', FR [205, 206, 207, 209, 197] [30] g0 g' → g' 197 = evS V w (nn w) → wp (ev (d + 9)) P mo_aDay 49 [some (.ref 196), some (.int v1), some (.int (nI (flc V w (nn w)))), some (.int (nI (nn w)))] [] (E g' q)) :
    ∀ (j f : Nat) (g : Nat → Nat → Int32), f + j = nn w → g 197 = evS V w f → FR [205, 206, 207, 209, 197] [30] g0 g →
    wp (ev (d + 9)) P mo_aDay 9 [some (.ref 196), some (.int v1), some (.int (nI (flc V w f))), some (.int (nI f))] [] (E g q) := by
  have h0 := wi_n hw
  intro j
  induction j with
  | zero =>
    intro f g hf hg hr
    have hf : f = nn w := hf
    have hS := evS_wi hw (V := V) f (by omega)
    rw [← hg] at hS
    have hn := wi_n hS.1
    have e0 : nn (g 197) = nn w := stc_nn hS.2
    rw [e0] at hn
    rw [hf, b_mo_aDay_9]
    simp -implicitDefEqProofs (disch := first | assumption | omega) only [szS_0, szS_i, szS_r, szS_l, x_cons, x_goto, ob_some, kl_i, kl_r, kl_l, kl_n, push_n, push_s, pop_0, pop_i, pop_r, Int.reduceToNat, List.length_cons, List.length_nil, Nat.reduceAdd, Nat.reduceLeDiff, Nat.zero_add, true_and, nI_n0, nat_le, Nat.add_zero, i_1, rt_mo_aDay, x_al0, x_call, x_dup2, x_getf, x_goto, x_iadd, x_iaload, x_iastore, x_icge, x_ifeq, x_il1, x_il2, x_il3, x_inc3, x_iret, x_is2, x_is3, x_ldc, fd_196_0, fd_196_1, fd_196_2, fd_196_3, fd_196_4, sf_196_4, fd_196_5, sf_196_5, fd_196_6, fd_196_7, fd_196_8, fd_196_9, fd_196_10, fd_196_11, fd_196_12, sf_196_12, fd_196_13, sf_196_13, fd_196_14, sf_196_14, fd_196_15, sf_196_15, fd_196_16, sf_196_16, fd_196_17, sf_196_17, fd_196_18, sf_196_18, fd_196_19, sf_196_19, fd_196_20, sf_196_20, fd_196_21, sf_196_21, fd_196_22, sf_196_22, fd_196_23, sf_196_23, fd_196_24, sf_196_24, fd_196_25, sf_196_25, fd_196_26, sf_196_26, fd_196_27, fd_196_28, fd_196_29, fd_196_30, sf_196_30, fd_196_31, fd_196_32, fd_196_33, fd_196_34, fd_196_35, fd_196_36, fd_196_37, sf_196_37, fd_196_38, fd_196_39, sf_196_39, fd_196_40, sf_196_40, fd_196_41, sf_196_41, fd_196_42, fd_196_43, fd_196_44, ld_197, sd_197, ln_197, hn.1, nI_ltE, Nat.lt_irrefl, ↓reduceIte]
    exact H g hr (by rw [hg, hf])
  | succ j ih =>
    intro f g hf hg hr
    have hf' : f < nn w := by omega
    have hS := evS_wi hw (V := V) f (by omega)
    have hLg : LK (g 197) 0 okV V := by
      rw [hg]
      exact LK_c (fun j hj => evS_o hw (by omega) (by omega) (fun f hf => ⟨fun a ha => by omega, by omega, by omega⟩) _ (by omega)) hL
    have eF : evS V w (f + 1) = if fd w f 0 = 0 then evR V (evS V w f) f else evS V w f := rfl
    have eC : flc V w (f + 1) = flc V w f + (if fd w f 0 = 0 ∧ flq V (evS V w f) f = true then 1 else 0) := rfl
    rw [← hg] at hS eF eC
    have hn := wi_n hS.1
    have e0 : nn (g 197) = nn w := stc_nn hS.2
    have es : fd (g 197) f 0 = fd w f 0 := stc_fd hS.2 (by omega) (by decide)
    rw [e0] at hn
    rw [b_mo_aDay_9]
    have hwg := hS.1
    simp -implicitDefEqProofs (disch := first | assumption | omega) only [szS_0, szS_i, szS_r, szS_l, x_cons, x_goto, ob_some, kl_i, kl_r, kl_l, kl_n, push_n, push_s, pop_0, pop_i, pop_r, Int.reduceToNat, List.length_cons, List.length_nil, Nat.reduceAdd, Nat.reduceLeDiff, Nat.zero_add, true_and, nI_n0, nat_le, Nat.add_zero, i_1, rt_mo_aDay, x_al0, x_call, x_dup2, x_getf, x_goto, x_iadd, x_iaload, x_iastore, x_icge, x_ifeq, x_il1, x_il2, x_il3, x_inc3, x_iret, x_is2, x_is3, x_ldc, fd_196_0, fd_196_1, fd_196_2, fd_196_3, fd_196_4, sf_196_4, fd_196_5, sf_196_5, fd_196_6, fd_196_7, fd_196_8, fd_196_9, fd_196_10, fd_196_11, fd_196_12, sf_196_12, fd_196_13, sf_196_13, fd_196_14, sf_196_14, fd_196_15, sf_196_15, fd_196_16, sf_196_16, fd_196_17, sf_196_17, fd_196_18, sf_196_18, fd_196_19, sf_196_19, fd_196_20, sf_196_20, fd_196_21, sf_196_21, fd_196_22, sf_196_22, fd_196_23, sf_196_23, fd_196_24, sf_196_24, fd_196_25, sf_196_25, fd_196_26, sf_196_26, fd_196_27, fd_196_28, fd_196_29, fd_196_30, sf_196_30, fd_196_31, fd_196_32, fd_196_33, fd_196_34, fd_196_35, fd_196_36, fd_196_37, sf_196_37, fd_196_38, fd_196_39, sf_196_39, fd_196_40, sf_196_40, fd_196_41, sf_196_41, fd_196_42, fd_196_43, fd_196_44, ld_197, sd_197, ln_197, hn.1, nI_ltE, hf', ↓reduceIte, s_isFork, bI_0, forkB_nI, e0, es, decide_true, Bool.true_and]
    by_cases e : fd w f 0 = 0
    · simp -implicitDefEqProofs (disch := first | assumption | omega) only [e, decide_true, Bool.true_eq_false, ↓reduceIte, szS_0, szS_i, szS_r, szS_l, x_cons, x_goto, ob_some, kl_i, kl_r, kl_l, kl_n, push_n, push_s, pop_0, pop_i, pop_r, Int.reduceToNat, List.length_cons, List.length_nil, Nat.reduceAdd, Nat.reduceLeDiff, Nat.zero_add, true_and, nI_n0, nat_le, Nat.add_zero, i_1, rt_mo_aDay, x_al0, x_call, x_dup2, x_getf, x_goto, x_iadd, x_iaload, x_iastore, x_icge, x_ifeq, x_il1, x_il2, x_il3, x_inc3, x_iret, x_is2, x_is3, x_ldc]
      refine s_isFlooded hwg hLg (by omega) (by rw [es]; exact e) fun g1 f1 e1 => ?_
      rw [if_pos e] at eF
      have hi := ih (f + 1) g1 (by omega) (by rw [e1, eF]) (FR_t hr f1)
      rw [eC] at hi
      simp -implicitDefEqProofs (disch := first | assumption | omega) only [szS_0, szS_i, szS_r, szS_l, x_cons, x_goto, ob_some, kl_i, kl_r, kl_l, kl_n, push_n, push_s, pop_0, pop_i, pop_r, Int.reduceToNat, List.length_cons, List.length_nil, Nat.reduceAdd, Nat.reduceLeDiff, Nat.zero_add, true_and, nI_n0, nat_le, Nat.add_zero, i_1, rt_mo_aDay, x_al0, x_call, x_dup2, x_getf, x_goto, x_iadd, x_iaload, x_iastore, x_icge, x_ifeq, x_il1, x_il2, x_il3, x_inc3, x_iret, x_is2, x_is3, x_ldc, bI_0]
      by_cases eq : flq V (g 197) f = false
      · rw [if_neg (by rw [eq]; simp), Nat.add_zero] at hi
        simp only [eq, ↓reduceIte]
        simp -implicitDefEqProofs (disch := first | assumption | omega) only [szS_0, szS_i, szS_r, szS_l, x_cons, x_goto, ob_some, kl_i, kl_r, kl_l, kl_n, push_n, push_s, pop_0, pop_i, pop_r, Int.reduceToNat, List.length_cons, List.length_nil, Nat.reduceAdd, Nat.reduceLeDiff, Nat.zero_add, true_and, nI_n0, nat_le, Nat.add_zero, i_1, rt_mo_aDay, x_al0, x_call, x_dup2, x_getf, x_goto, x_iadd, x_iaload, x_iastore, x_icge, x_ifeq, x_il1, x_il2, x_il3, x_inc3, x_iret, x_is2, x_is3, x_ldc, b_mo_aDay_40, b_mo_aDay_41, b_mo_aDay_43, nI_add]
        exact hi
      · have eq2 : flq V (g 197) f = true := by
          cases h : flq V (g 197) f
          · exact absurd h eq
          · rfl
        rw [if_pos ⟨e, eq2⟩] at hi
        simp only [eq, ↓reduceIte]
        simp -implicitDefEqProofs (disch := first | assumption | omega) only [szS_0, szS_i, szS_r, szS_l, x_cons, x_goto, ob_some, kl_i, kl_r, kl_l, kl_n, push_n, push_s, pop_0, pop_i, pop_r, Int.reduceToNat, List.length_cons, List.length_nil, Nat.reduceAdd, Nat.reduceLeDiff, Nat.zero_add, true_and, nI_n0, nat_le, Nat.add_zero, i_1, rt_mo_aDay, x_al0, x_call, x_dup2, x_getf, x_goto, x_iadd, x_iaload, x_iastore, x_icge, x_ifeq, x_il1, x_il2, x_il3, x_inc3, x_iret, x_is2, x_is3, x_ldc, b_mo_aDay_41, b_mo_aDay_43, nI_add]
        exact hi
    · rw [if_neg e] at eF
      rw [if_neg fun h => e h.1, Nat.add_zero] at eC
      have hi := ih (f + 1) g (by omega) eF.symm hr
      rw [eC] at hi
      simp -implicitDefEqProofs (disch := first | assumption | omega) only [e, decide_false, ↓reduceIte, b_mo_aDay_43, szS_0, szS_i, szS_r, szS_l, x_cons, x_goto, ob_some, kl_i, kl_r, kl_l, kl_n, push_n, push_s, pop_0, pop_i, pop_r, Int.reduceToNat, List.length_cons, List.length_nil, Nat.reduceAdd, Nat.reduceLeDiff, Nat.zero_add, true_and, nI_n0, nat_le, Nat.add_zero, i_1, rt_mo_aDay, x_al0, x_call, x_dup2, x_getf, x_goto, x_iadd, x_iaload, x_iastore, x_icge, x_ifeq, x_il1, x_il2, x_il3, x_inc3, x_iret, x_is2, x_is3, x_ldc, nI_add]
      exact hi
theorem s_aDay (hw : WI (g 197)) {V M : LW} (hL : LK (g 197) 0 okV V) (hM : LK (g 197) 1 okM M) {fl : Nat} (hfl : fl ≤ 1998) (H : ∀ g', FR [205, 206, 207, 208, 209, 197] [30] g g' → g' 197 = dyR V M fl (g 197) → P (some (.int (nI (flc V (flR (g 197) fl) (nn (g 197)))))) (E g' q)) :
    callC (ev (d + 10)) mo_aDay [.ref 196, .int (nI fl)] (E g q) P := by
  refine in_mo_aDay rfl ?_
  rw [b_mo_aDay_0]
  simp -implicitDefEqProofs (disch := first | assumption | omega) only [szS_0, szS_i, szS_r, szS_l, x_cons, x_goto, ob_some, kl_i, kl_r, kl_l, kl_n, push_n, push_s, pop_0, pop_i, pop_r, Int.reduceToNat, List.length_cons, List.length_nil, Nat.reduceAdd, Nat.reduceLeDiff, Nat.zero_add, true_and, nI_n0, nat_le, Nat.add_zero, i_1, rt_mo_aDay, x_al0, x_call, x_dup2, x_getf, x_goto, x_iadd, x_iaload, x_iastore, x_icge, x_ifeq, x_il1, x_il2, x_il3, x_inc3, x_iret, x_is2, x_is3, x_ldc]
  refine s_flows hw hfl fun r => ?_
  have hw1 := flR_wi hw hfl
  have eo : ∀ j, 1205 ≤ j → flR (g 197) fl j = g 197 j := fun j hj => by
    have h0 := wi_n hw
    show cmw _ _ j = _
    rw [cmw_o (by omega), flN_o (by omega) _ fun t ht => by omega]
  have e0 : nn (flR (g 197) fl) = nn (g 197) := by
    rw [show nn (flR (g 197) fl) = nn (flN (g 197) fl (nn (g 197))) from nn_c (cmw_o (by omega)), flN_0]
  obtain ⟨w1, hw1e⟩ : ∃ w1, w1 = flR (g 197) fl := ⟨_, rfl⟩
  rw [← hw1e] at hw1 e0 eo ⊢
  have hL1 : LK w1 0 okV V := LK_c eo hL
  have hM1 : LK w1 1 okM M := LK_c eo hM
  simp -implicitDefEqProofs (disch := first | assumption | omega) only [szS_0, szS_i, szS_r, szS_l, x_cons, x_goto, ob_some, kl_i, kl_r, kl_l, kl_n, push_n, push_s, pop_0, pop_i, pop_r, Int.reduceToNat, List.length_cons, List.length_nil, Nat.reduceAdd, Nat.reduceLeDiff, Nat.zero_add, true_and, nI_n0, nat_le, Nat.add_zero, i_1, rt_mo_aDay, x_al0, x_call, x_dup2, x_getf, x_goto, x_iadd, x_iaload, x_iastore, x_icge, x_ifeq, x_il1, x_il2, x_il3, x_inc3, x_iret, x_is2, x_is3, x_ldc]
  refine ad_lp hw1 hL1 (g0 := upw (upw g 208 r) 197 w1) (fun g1 f1 e1 => ?_) (nn w1) 0 _ (Nat.zero_add _) upw_s FR_r
  have hS := evS_wi hw1 (V := V) (nn w1) (Nat.le_refl _)
  have h4 := ev4_wi hw1 (V := V)
  have hM4 : LK (ev4 V w1) 1 okM M := LK_c (fun j hj => by
    have h0 := wi_n hw1
    unfold ev4
    rw [pu_n (by omega), evS_o hw1 (by omega) (by omega) (fun f hf => ⟨fun a ha => by omega, by omega, by omega⟩) _ (Nat.le_refl _)]) hM1
  rw [b_mo_aDay_49]
  simp -implicitDefEqProofs (disch := first | assumption | omega) only [szS_0, szS_i, szS_r, szS_l, x_cons, x_goto, ob_some, kl_i, kl_r, kl_l, kl_n, push_n, push_s, pop_0, pop_i, pop_r, Int.reduceToNat, List.length_cons, List.length_nil, Nat.reduceAdd, Nat.reduceLeDiff, Nat.zero_add, true_and, nI_n0, nat_le, Nat.add_zero, i_1, rt_mo_aDay, x_al0, x_call, x_dup2, x_getf, x_goto, x_iadd, x_iaload, x_iastore, x_icge, x_ifeq, x_il1, x_il2, x_il3, x_inc3, x_iret, x_is2, x_is3, x_ldc, fd_196_0, fd_196_1, fd_196_2, fd_196_3, fd_196_4, sf_196_4, fd_196_5, sf_196_5, fd_196_6, fd_196_7, fd_196_8, fd_196_9, fd_196_10, fd_196_11, fd_196_12, sf_196_12, fd_196_13, sf_196_13, fd_196_14, sf_196_14, fd_196_15, sf_196_15, fd_196_16, sf_196_16, fd_196_17, sf_196_17, fd_196_18, sf_196_18, fd_196_19, sf_196_19, fd_196_20, sf_196_20, fd_196_21, sf_196_21, fd_196_22, sf_196_22, fd_196_23, sf_196_23, fd_196_24, sf_196_24, fd_196_25, sf_196_25, fd_196_26, sf_196_26, fd_196_27, fd_196_28, fd_196_29, fd_196_30, sf_196_30, fd_196_31, fd_196_32, fd_196_33, fd_196_34, fd_196_35, fd_196_36, fd_196_37, sf_196_37, fd_196_38, fd_196_39, sf_196_39, fd_196_40, sf_196_40, fd_196_41, sf_196_41, fd_196_42, fd_196_43, fd_196_44, ld_197, sd_197, ln_197, pu_g, e1]
  have e4 : pu (evS V w1 (nn w1)) 4 (evS V w1 (nn w1) 4 + nI (flc V w1 (nn w1))) = ev4 V w1 := rfl
  rw [e4]
  refine s_allMove (by rw [upw_s]; exact h4) (by rw [upw_s]; exact hM4) fun g2 f2 e2 => ?_
  rw [upw_s] at e2
  simp -implicitDefEqProofs (disch := first | assumption | omega) only [szS_0, szS_i, szS_r, szS_l, x_cons, x_goto, ob_some, kl_i, kl_r, kl_l, kl_n, push_n, push_s, pop_0, pop_i, pop_r, Int.reduceToNat, List.length_cons, List.length_nil, Nat.reduceAdd, Nat.reduceLeDiff, Nat.zero_add, true_and, nI_n0, nat_le, Nat.add_zero, i_1, rt_mo_aDay, x_al0, x_call, x_dup2, x_getf, x_goto, x_iadd, x_iaload, x_iastore, x_icge, x_ifeq, x_il1, x_il2, x_il3, x_inc3, x_iret, x_is2, x_is3, x_ldc, fd_196_0, fd_196_1, fd_196_2, fd_196_3, fd_196_4, sf_196_4, fd_196_5, sf_196_5, fd_196_6, fd_196_7, fd_196_8, fd_196_9, fd_196_10, fd_196_11, fd_196_12, sf_196_12, fd_196_13, sf_196_13, fd_196_14, sf_196_14, fd_196_15, sf_196_15, fd_196_16, sf_196_16, fd_196_17, sf_196_17, fd_196_18, sf_196_18, fd_196_19, sf_196_19, fd_196_20, sf_196_20, fd_196_21, sf_196_21, fd_196_22, sf_196_22, fd_196_23, sf_196_23, fd_196_24, sf_196_24, fd_196_25, sf_196_25, fd_196_26, sf_196_26, fd_196_27, fd_196_28, fd_196_29, fd_196_30, sf_196_30, fd_196_31, fd_196_32, fd_196_33, fd_196_34, fd_196_35, fd_196_36, fd_196_37, sf_196_37, fd_196_38, fd_196_39, sf_196_39, fd_196_40, sf_196_40, fd_196_41, sf_196_41, fd_196_42, fd_196_43, fd_196_44, ld_197, sd_197, ln_197, pu_g, e2]
  have e5 : pu (alR M (ev4 V w1)) 1 (alR M (ev4 V w1) 1 + nI 1) = dyR V M fl (g 197) := by rw [hw1e]; rfl
  rw [e5]
  have hH := H (upw g2 197 (dyR V M fl (g 197))) (FR_w rfl (FR_t (FR_t (FR_w rfl (FR_w rfl FR_r)) (FR_m rfl rfl f1)) (FR_t (FR_w rfl FR_r) (FR_f rfl f2)))) upw_s
  subst hw1e
  rw [← e0] at hH
  exact hH
end ML
