/-! the class's laws -/
section CL
variable {d : Nat} {g : Nat → Nat → Int32} {q : Nat → Nat → Int64} {P : QT} {b : Nat}
theorem ru_push (hB : b = 22 ∨ b = 26 ∨ b = 52 ∨ b = 56 ∨ b = 82 ∨ b = 86) {i0 e n i v : Nat} {x : Int32} {r : Nat → Int32} {o6 o7 o8 : Option Value} (hi : i < e) (he : e ≤ 400) (hc : g (b + 1) i = nI v) (hn : n < 64) (hx : v < 10000 ∧ x = nI v ∨ 10000 ≤ v ∧ v < 10010 ∧ x = g 181 (v - 10000))
    (H : wp (ev d) P la_run 6 [some (.ref b), some (.int (nI i0)), some (.int (nI e)), some (.ref 181), some (.int (nI (n + 1))), some (.int (nI (i + 1))), some (.int (nI v)), o7, o8] [] (E (upw g (b + 3) (pu r n x)) q)) :
    wp (ev d) P la_run 6 [some (.ref b), some (.int (nI i0)), some (.int (nI e)), some (.ref 181), some (.int (nI n)), some (.int (nI i)), o6, o7, o8] [] (E (upw g (b + 3) r) q) := by
  have h1 : v < 20000 := by omega
  have fin : wp (ev d) P la_run 63 [some (.ref b), some (.int (nI i0)), some (.int (nI e)), some (.ref 181), some (.int (nI n)), some (.int (nI i)), some (.int (nI v)), o7, o8] [.int x, .int (nI n), .ref (b + 3)] (E (upw g (b + 3) r) q) := by
    rw [b_la_run_63]
    simp -implicitDefEqProofs (disch := first | assumption | omega) only [szS_0, szS_i, szS_r, szS_l, x_cons, x_goto, ob_some, kl_i, kl_r, kl_l, kl_n, push_n, push_s, pop_0, pop_i, pop_r, Int.reduceToNat, List.length_cons, List.length_nil, Nat.reduceAdd, Nat.reduceLeDiff, Nat.zero_add, true_and, nI_n0, nat_le, Nat.add_zero, i_1, i_m1, rt_la_run, x_al0, x_al3, x_getf, x_goto, x_iadd, x_iaload, x_iand, x_iastore, x_icge, x_icle, x_icne, x_idiv, x_ifle, x_ifne, x_il1, x_il2, x_il4, x_il5, x_il6, x_il7, x_il8, x_imul, x_inc4, x_inc5, x_ior, x_iret, x_is4, x_is5, x_is6, x_is7, x_is8, x_isub, x_ldc, x_lsw, ll_3, ld_L3, pu_w, nI_add, b_la_run_340]
    exact H
  rw [b_la_run_6]
  simp -implicitDefEqProofs (disch := first | assumption | omega) only [szS_0, szS_i, szS_r, szS_l, x_cons, x_goto, ob_some, kl_i, kl_r, kl_l, kl_n, push_n, push_s, pop_0, pop_i, pop_r, Int.reduceToNat, List.length_cons, List.length_nil, Nat.reduceAdd, Nat.reduceLeDiff, Nat.zero_add, true_and, nI_n0, nat_le, Nat.add_zero, i_1, i_m1, rt_la_run, x_al0, x_al3, x_getf, x_goto, x_iadd, x_iaload, x_iand, x_iastore, x_icge, x_icle, x_icne, x_idiv, x_ifle, x_ifne, x_il1, x_il2, x_il4, x_il5, x_il6, x_il7, x_il8, x_imul, x_inc4, x_inc5, x_ior, x_iret, x_is4, x_is5, x_is6, x_is7, x_is8, x_isub, x_ldc, x_lsw, nI_ltE, hi, ↓reduceIte, lf_0, lf_1, lf_2, lf_3, lf_4, ls_0, ls_1, ll_1, ld_L1, upw_o, hc, h1, hn]
  rcases hx with ⟨h2, h3⟩ | ⟨h2, h2', h3⟩
  · simp only [h2, ↓reduceIte]
    rw [h3] at fin
    exact fin
  · have h4 : ¬ v < 10000 := by omega
    simp only [h4, ↓reduceIte]
    rw [h3] at fin
    simp -implicitDefEqProofs (disch := first | assumption | omega) only [b_la_run_55, szS_0, szS_i, szS_r, szS_l, x_cons, x_goto, ob_some, kl_i, kl_r, kl_l, kl_n, push_n, push_s, pop_0, pop_i, pop_r, Int.reduceToNat, List.length_cons, List.length_nil, Nat.reduceAdd, Nat.reduceLeDiff, Nat.zero_add, true_and, nI_n0, nat_le, Nat.add_zero, i_1, i_m1, rt_la_run, x_al0, x_al3, x_getf, x_goto, x_iadd, x_iaload, x_iand, x_iastore, x_icge, x_icle, x_icne, x_idiv, x_ifle, x_ifne, x_il1, x_il2, x_il4, x_il5, x_il6, x_il7, x_il8, x_imul, x_inc4, x_inc5, x_ior, x_iret, x_is4, x_is5, x_is6, x_is7, x_is8, x_isub, x_ldc, x_lsw, nI_sub, ld_181, sd_181, ln_181, upw_o]
    exact fin
theorem ru_not (hB : b = 22 ∨ b = 26 ∨ b = 52 ∨ b = 56 ∨ b = 82 ∨ b = 86) {i0 e n i : Nat} {r : Nat → Int32} {o6 o7 o8 : Option Value} (hi : i < e) (he : e ≤ 400) (hc : g (b + 1) i = nI 20003) (hn : n < 60)
    (H : wp (ev d) P la_run 6 [some (.ref b), some (.int (nI i0)), some (.int (nI e)), some (.ref 181), some (.int (nI (n + 1))), some (.int (nI (i + 1))), some (.int (nI 20003)), o7, o8] [] (E (upw g (b + 3) (pu r n (nI 1 - r n))) q)) :
    wp (ev d) P la_run 6 [some (.ref b), some (.int (nI i0)), some (.int (nI e)), some (.ref 181), some (.int (nI (n + 1))), some (.int (nI i)), o6, o7, o8] [] (E (upw g (b + 3) r) q) := by
  have l1 : (nI 20003 < nI 20000) = False := eq_false (by decide)
  have l2 : ¬ n + 1 ≤ 0 := by omega
  rw [b_la_run_6]
  simp -implicitDefEqProofs (disch := first | assumption | omega) only [szS_0, szS_i, szS_r, szS_l, x_cons, x_goto, ob_some, kl_i, kl_r, kl_l, kl_n, push_n, push_s, pop_0, pop_i, pop_r, Int.reduceToNat, List.length_cons, List.length_nil, Nat.reduceAdd, Nat.reduceLeDiff, Nat.zero_add, true_and, nI_n0, nat_le, Nat.add_zero, i_1, i_m1, rt_la_run, x_al0, x_al3, x_getf, x_goto, x_iadd, x_iaload, x_iand, x_iastore, x_icge, x_icle, x_icne, x_idiv, x_ifle, x_ifne, x_il1, x_il2, x_il4, x_il5, x_il6, x_il7, x_il8, x_imul, x_inc4, x_inc5, x_ior, x_iret, x_is4, x_is5, x_is6, x_is7, x_is8, x_isub, x_ldc, x_lsw, nI_ltE, hi, ↓reduceIte, lf_0, lf_1, lf_2, lf_3, lf_4, ls_0, ls_1, ll_1, ld_L1, upw_o, hc, l1]
  simp -implicitDefEqProofs (disch := first | assumption | omega) only [b_la_run_70, szS_0, szS_i, szS_r, szS_l, x_cons, x_goto, ob_some, kl_i, kl_r, kl_l, kl_n, push_n, push_s, pop_0, pop_i, pop_r, Int.reduceToNat, List.length_cons, List.length_nil, Nat.reduceAdd, Nat.reduceLeDiff, Nat.zero_add, true_and, nI_n0, nat_le, Nat.add_zero, i_1, i_m1, rt_la_run, x_al0, x_al3, x_getf, x_goto, x_iadd, x_iaload, x_iand, x_iastore, x_icge, x_icle, x_icne, x_idiv, x_ifle, x_ifne, x_il1, x_il2, x_il4, x_il5, x_il6, x_il7, x_il8, x_imul, x_inc4, x_inc5, x_ior, x_iret, x_is4, x_is5, x_is6, x_is7, x_is8, x_isub, x_ldc, x_lsw, nI_leE, l2, ↓reduceIte, lf_0, lf_1, lf_2, lf_3, lf_4, ls_0, ls_1, ll_3, ld_L3, upw_s, nI_sub, Nat.add_sub_cancel, pu_w, nI_add, b_la_run_340]
  exact H
/-- the two numbers on top become one -/
theorem ru_bin (hB : b = 22 ∨ b = 26 ∨ b = 52 ∨ b = 56 ∨ b = 82 ∨ b = 86) {i0 e n i s : Nat} {r : Nat → Int32} {o6 o7 o8 : Option Value} (hi : i < e) (he : e ≤ 400) (hs : s = 23 ∨ s = 24 ∨ s = 25 ∨ s = 27 ∨ s = 28 ∨ s = 29 ∨ s = 31 ∨ s = 32) (hc : g (b + 1) i = nI (opC s)) (hn : n < 60)
    (H : ∀ o6 o7 o8, wp (ev d) P la_run 6 [some (.ref b), some (.int (nI i0)), some (.int (nI e)), some (.ref 181), some (.int (nI (n + 1))), some (.int (nI (i + 1))), o6, o7, o8] [] (E (upw g (b + 3) (pu r n (opB s (r n) (r (n + 1))))) q)) :
    wp (ev d) P la_run 6 [some (.ref b), some (.int (nI i0)), some (.int (nI e)), some (.ref 181), some (.int (nI (n + 2))), some (.int (nI i)), o6, o7, o8] [] (E (upw g (b + 3) r) q) := by
  have l2 : 1 < n + 2 := by omega
  have fin : ∀ v : Int32, v = opB s (r n) (r (n + 1)) → wp (ev d) P la_run 329 [some (.ref b), some (.int (nI i0)), some (.int (nI e)), some (.ref 181), some (.int (nI (n + 1))), some (.int (nI i)), some (.int (nI (opC s))), some (.int v), some (.int (r (n + 1)))] [] (E (upw g (b + 3) r) q) := by
    intro v hv
    rw [b_la_run_329, hv]
    simp -implicitDefEqProofs (disch := first | assumption | omega) only [szS_0, szS_i, szS_r, szS_l, x_cons, x_goto, ob_some, kl_i, kl_r, kl_l, kl_n, push_n, push_s, pop_0, pop_i, pop_r, Int.reduceToNat, List.length_cons, List.length_nil, Nat.reduceAdd, Nat.reduceLeDiff, Nat.zero_add, true_and, nI_n0, nat_le, Nat.add_zero, i_1, i_m1, rt_la_run, x_al0, x_al3, x_getf, x_goto, x_iadd, x_iaload, x_iand, x_iastore, x_icge, x_icle, x_icne, x_idiv, x_ifle, x_ifne, x_il1, x_il2, x_il4, x_il5, x_il6, x_il7, x_il8, x_imul, x_inc4, x_inc5, x_ior, x_iret, x_is4, x_is5, x_is6, x_is7, x_is8, x_isub, x_ldc, x_lsw, lf_0, lf_1, lf_2, lf_3, lf_4, ls_0, ls_1, ll_3, ld_L3, nI_sub, Nat.add_sub_cancel, pu_w, nI_add, b_la_run_340]
    exact H _ _ _
  have nx : nI (n + 2) + -1 = nI (n + 1) := by
    rw [addm1, nI_sub (by omega)]
    rfl
  rw [b_la_run_6]
  simp -implicitDefEqProofs (disch := first | assumption | omega) only [szS_0, szS_i, szS_r, szS_l, x_cons, x_goto, ob_some, kl_i, kl_r, kl_l, kl_n, push_n, push_s, pop_0, pop_i, pop_r, Int.reduceToNat, List.length_cons, List.length_nil, Nat.reduceAdd, Nat.reduceLeDiff, Nat.zero_add, true_and, nI_n0, nat_le, Nat.add_zero, i_1, i_m1, rt_la_run, x_al0, x_al3, x_getf, x_goto, x_iadd, x_iaload, x_iand, x_iastore, x_icge, x_icle, x_icne, x_idiv, x_ifle, x_ifne, x_il1, x_il2, x_il4, x_il5, x_il6, x_il7, x_il8, x_imul, x_inc4, x_inc5, x_ior, x_iret, x_is4, x_is5, x_is6, x_is7, x_is8, x_isub, x_ldc, x_lsw, nI_ltE, hi, ↓reduceIte, lf_0, lf_1, lf_2, lf_3, lf_4, ls_0, ls_1, ll_1, ld_L1, upw_o, hc]
  rcases hs with rfl | rfl | rfl | rfl | rfl | rfl | rfl | rfl
  · simp -implicitDefEqProofs (disch := first | assumption | omega) only [show (nI (opC 23) < nI 20000) = False from eq_false (by decide), ↓reduceIte, b_la_run_70, szS_0, szS_i, szS_r, szS_l, x_cons, x_goto, ob_some, kl_i, kl_r, kl_l, kl_n, push_n, push_s, pop_0, pop_i, pop_r, Int.reduceToNat, List.length_cons, List.length_nil, Nat.reduceAdd, Nat.reduceLeDiff, Nat.zero_add, true_and, nI_n0, nat_le, Nat.add_zero, i_1, i_m1, rt_la_run, x_al0, x_al3, x_getf, x_goto, x_iadd, x_iaload, x_iand, x_iastore, x_icge, x_icle, x_icne, x_idiv, x_ifle, x_ifne, x_il1, x_il2, x_il4, x_il5, x_il6, x_il7, x_il8, x_imul, x_inc4, x_inc5, x_ior, x_iret, x_is4, x_is5, x_is6, x_is7, x_is8, x_isub, x_ldc, x_lsw, show (nI (opC 23) = nI 20003) = False from eq_false (by decide), b_la_run_106, nI_ltE, l2, nx, lf_0, lf_1, lf_2, lf_3, lf_4, ls_0, ls_1, ll_3, ld_L3, upw_s, nI_sub, Nat.add_sub_cancel]
    show wp (ev d) P la_run 232 _ _ _
    simp -implicitDefEqProofs (disch := first | assumption | omega) only [b_la_run_232, szS_0, szS_i, szS_r, szS_l, x_cons, x_goto, ob_some, kl_i, kl_r, kl_l, kl_n, push_n, push_s, pop_0, pop_i, pop_r, Int.reduceToNat, List.length_cons, List.length_nil, Nat.reduceAdd, Nat.reduceLeDiff, Nat.zero_add, true_and, nI_n0, nat_le, Nat.add_zero, i_1, i_m1, rt_la_run, x_al0, x_al3, x_getf, x_goto, x_iadd, x_iaload, x_iand, x_iastore, x_icge, x_icle, x_icne, x_idiv, x_ifle, x_ifne, x_il1, x_il2, x_il4, x_il5, x_il6, x_il7, x_il8, x_imul, x_inc4, x_inc5, x_ior, x_iret, x_is4, x_is5, x_is6, x_is7, x_is8, x_isub, x_ldc, x_lsw]
    exact fin _ rfl
  · simp -implicitDefEqProofs (disch := first | assumption | omega) only [show (nI (opC 24) < nI 20000) = False from eq_false (by decide), ↓reduceIte, b_la_run_70, szS_0, szS_i, szS_r, szS_l, x_cons, x_goto, ob_some, kl_i, kl_r, kl_l, kl_n, push_n, push_s, pop_0, pop_i, pop_r, Int.reduceToNat, List.length_cons, List.length_nil, Nat.reduceAdd, Nat.reduceLeDiff, Nat.zero_add, true_and, nI_n0, nat_le, Nat.add_zero, i_1, i_m1, rt_la_run, x_al0, x_al3, x_getf, x_goto, x_iadd, x_iaload, x_iand, x_iastore, x_icge, x_icle, x_icne, x_idiv, x_ifle, x_ifne, x_il1, x_il2, x_il4, x_il5, x_il6, x_il7, x_il8, x_imul, x_inc4, x_inc5, x_ior, x_iret, x_is4, x_is5, x_is6, x_is7, x_is8, x_isub, x_ldc, x_lsw, show (nI (opC 24) = nI 20003) = False from eq_false (by decide), b_la_run_106, nI_ltE, l2, nx, lf_0, lf_1, lf_2, lf_3, lf_4, ls_0, ls_1, ll_3, ld_L3, upw_s, nI_sub, Nat.add_sub_cancel]
    show wp (ev d) P la_run 242 _ _ _
    simp -implicitDefEqProofs (disch := first | assumption | omega) only [b_la_run_242, szS_0, szS_i, szS_r, szS_l, x_cons, x_goto, ob_some, kl_i, kl_r, kl_l, kl_n, push_n, push_s, pop_0, pop_i, pop_r, Int.reduceToNat, List.length_cons, List.length_nil, Nat.reduceAdd, Nat.reduceLeDiff, Nat.zero_add, true_and, nI_n0, nat_le, Nat.add_zero, i_1, i_m1, rt_la_run, x_al0, x_al3, x_getf, x_goto, x_iadd, x_iaload, x_iand, x_iastore, x_icge, x_icle, x_icne, x_idiv, x_ifle, x_ifne, x_il1, x_il2, x_il4, x_il5, x_il6, x_il7, x_il8, x_imul, x_inc4, x_inc5, x_ior, x_iret, x_is4, x_is5, x_is6, x_is7, x_is8, x_isub, x_ldc, x_lsw]
    exact fin _ rfl
  · simp -implicitDefEqProofs (disch := first | assumption | omega) only [show (nI (opC 25) < nI 20000) = False from eq_false (by decide), ↓reduceIte, b_la_run_70, szS_0, szS_i, szS_r, szS_l, x_cons, x_goto, ob_some, kl_i, kl_r, kl_l, kl_n, push_n, push_s, pop_0, pop_i, pop_r, Int.reduceToNat, List.length_cons, List.length_nil, Nat.reduceAdd, Nat.reduceLeDiff, Nat.zero_add, true_and, nI_n0, nat_le, Nat.add_zero, i_1, i_m1, rt_la_run, x_al0, x_al3, x_getf, x_goto, x_iadd, x_iaload, x_iand, x_iastore, x_icge, x_icle, x_icne, x_idiv, x_ifle, x_ifne, x_il1, x_il2, x_il4, x_il5, x_il6, x_il7, x_il8, x_imul, x_inc4, x_inc5, x_ior, x_iret, x_is4, x_is5, x_is6, x_is7, x_is8, x_isub, x_ldc, x_lsw, show (nI (opC 25) = nI 20003) = False from eq_false (by decide), b_la_run_106, nI_ltE, l2, nx, lf_0, lf_1, lf_2, lf_3, lf_4, ls_0, ls_1, ll_3, ld_L3, upw_s, nI_sub, Nat.add_sub_cancel]
    show wp (ev d) P la_run 252 _ _ _
    simp -implicitDefEqProofs (disch := first | assumption | omega) only [b_la_run_252, szS_0, szS_i, szS_r, szS_l, x_cons, x_goto, ob_some, kl_i, kl_r, kl_l, kl_n, push_n, push_s, pop_0, pop_i, pop_r, Int.reduceToNat, List.length_cons, List.length_nil, Nat.reduceAdd, Nat.reduceLeDiff, Nat.zero_add, true_and, nI_n0, nat_le, Nat.add_zero, i_1, i_m1, rt_la_run, x_al0, x_al3, x_getf, x_goto, x_iadd, x_iaload, x_iand, x_iastore, x_icge, x_icle, x_icne, x_idiv, x_ifle, x_ifne, x_il1, x_il2, x_il4, x_il5, x_il6, x_il7, x_il8, x_imul, x_inc4, x_inc5, x_ior, x_iret, x_is4, x_is5, x_is6, x_is7, x_is8, x_isub, x_ldc, x_lsw]
    exact fin _ rfl
  · simp -implicitDefEqProofs (disch := first | assumption | omega) only [show (nI (opC 27) < nI 20000) = False from eq_false (by decide), ↓reduceIte, b_la_run_70, szS_0, szS_i, szS_r, szS_l, x_cons, x_goto, ob_some, kl_i, kl_r, kl_l, kl_n, push_n, push_s, pop_0, pop_i, pop_r, Int.reduceToNat, List.length_cons, List.length_nil, Nat.reduceAdd, Nat.reduceLeDiff, Nat.zero_add, true_and, nI_n0, nat_le, Nat.add_zero, i_1, i_m1, rt_la_run, x_al0, x_al3, x_getf, x_goto, x_iadd, x_iaload, x_iand, x_iastore, x_icge, x_icle, x_icne, x_idiv, x_ifle, x_ifne, x_il1, x_il2, x_il4, x_il5, x_il6, x_il7, x_il8, x_imul, x_inc4, x_inc5, x_ior, x_iret, x_is4, x_is5, x_is6, x_is7, x_is8, x_isub, x_ldc, x_lsw, show (nI (opC 27) = nI 20003) = False from eq_false (by decide), b_la_run_106, nI_ltE, l2, nx, lf_0, lf_1, lf_2, lf_3, lf_4, ls_0, ls_1, ll_3, ld_L3, upw_s, nI_sub, Nat.add_sub_cancel]
    show wp (ev d) P la_run 281 _ _ _
    have eo : opB 27 (r n) (r (n + 1)) = if r n < r (n + 1) then nI 1 else nI 0 := rfl
    simp -implicitDefEqProofs (disch := first | assumption | omega) only [b_la_run_281, szS_0, szS_i, szS_r, szS_l, x_cons, x_goto, ob_some, kl_i, kl_r, kl_l, kl_n, push_n, push_s, pop_0, pop_i, pop_r, Int.reduceToNat, List.length_cons, List.length_nil, Nat.reduceAdd, Nat.reduceLeDiff, Nat.zero_add, true_and, nI_n0, nat_le, Nat.add_zero, i_1, i_m1, rt_la_run, x_al0, x_al3, x_getf, x_goto, x_iadd, x_iaload, x_iand, x_iastore, x_icge, x_icle, x_icne, x_idiv, x_ifle, x_ifne, x_il1, x_il2, x_il4, x_il5, x_il6, x_il7, x_il8, x_imul, x_inc4, x_inc5, x_ior, x_iret, x_is4, x_is5, x_is6, x_is7, x_is8, x_isub, x_ldc, x_lsw]
    by_cases h : r n < r (n + 1)
    · rw [if_pos h] at eo
      simp -implicitDefEqProofs (disch := first | assumption | omega) only [h, ↓reduceIte, b_la_run_293, szS_0, szS_i, szS_r, szS_l, x_cons, x_goto, ob_some, kl_i, kl_r, kl_l, kl_n, push_n, push_s, pop_0, pop_i, pop_r, Int.reduceToNat, List.length_cons, List.length_nil, Nat.reduceAdd, Nat.reduceLeDiff, Nat.zero_add, true_and, nI_n0, nat_le, Nat.add_zero, i_1, i_m1, rt_la_run, x_al0, x_al3, x_getf, x_goto, x_iadd, x_iaload, x_iand, x_iastore, x_icge, x_icle, x_icne, x_idiv, x_ifle, x_ifne, x_il1, x_il2, x_il4, x_il5, x_il6, x_il7, x_il8, x_imul, x_inc4, x_inc5, x_ior, x_iret, x_is4, x_is5, x_is6, x_is7, x_is8, x_isub, x_ldc, x_lsw]
      exact fin _ eo.symm
    · rw [if_neg h] at eo
      simp -implicitDefEqProofs (disch := first | assumption | omega) only [h, ↓reduceIte, b_la_run_292, b_la_run_293, szS_0, szS_i, szS_r, szS_l, x_cons, x_goto, ob_some, kl_i, kl_r, kl_l, kl_n, push_n, push_s, pop_0, pop_i, pop_r, Int.reduceToNat, List.length_cons, List.length_nil, Nat.reduceAdd, Nat.reduceLeDiff, Nat.zero_add, true_and, nI_n0, nat_le, Nat.add_zero, i_1, i_m1, rt_la_run, x_al0, x_al3, x_getf, x_goto, x_iadd, x_iaload, x_iand, x_iastore, x_icge, x_icle, x_icne, x_idiv, x_ifle, x_ifne, x_il1, x_il2, x_il4, x_il5, x_il6, x_il7, x_il8, x_imul, x_inc4, x_inc5, x_ior, x_iret, x_is4, x_is5, x_is6, x_is7, x_is8, x_isub, x_ldc, x_lsw]
      exact fin _ eo.symm
  · simp -implicitDefEqProofs (disch := first | assumption | omega) only [show (nI (opC 28) < nI 20000) = False from eq_false (by decide), ↓reduceIte, b_la_run_70, szS_0, szS_i, szS_r, szS_l, x_cons, x_goto, ob_some, kl_i, kl_r, kl_l, kl_n, push_n, push_s, pop_0, pop_i, pop_r, Int.reduceToNat, List.length_cons, List.length_nil, Nat.reduceAdd, Nat.reduceLeDiff, Nat.zero_add, true_and, nI_n0, nat_le, Nat.add_zero, i_1, i_m1, rt_la_run, x_al0, x_al3, x_getf, x_goto, x_iadd, x_iaload, x_iand, x_iastore, x_icge, x_icle, x_icne, x_idiv, x_ifle, x_ifne, x_il1, x_il2, x_il4, x_il5, x_il6, x_il7, x_il8, x_imul, x_inc4, x_inc5, x_ior, x_iret, x_is4, x_is5, x_is6, x_is7, x_is8, x_isub, x_ldc, x_lsw, show (nI (opC 28) = nI 20003) = False from eq_false (by decide), b_la_run_106, nI_ltE, l2, nx, lf_0, lf_1, lf_2, lf_3, lf_4, ls_0, ls_1, ll_3, ld_L3, upw_s, nI_sub, Nat.add_sub_cancel]
    show wp (ev d) P la_run 298 _ _ _
    have eo : opB 28 (r n) (r (n + 1)) = if r n = r (n + 1) then nI 1 else nI 0 := rfl
    simp -implicitDefEqProofs (disch := first | assumption | omega) only [b_la_run_298, szS_0, szS_i, szS_r, szS_l, x_cons, x_goto, ob_some, kl_i, kl_r, kl_l, kl_n, push_n, push_s, pop_0, pop_i, pop_r, Int.reduceToNat, List.length_cons, List.length_nil, Nat.reduceAdd, Nat.reduceLeDiff, Nat.zero_add, true_and, nI_n0, nat_le, Nat.add_zero, i_1, i_m1, rt_la_run, x_al0, x_al3, x_getf, x_goto, x_iadd, x_iaload, x_iand, x_iastore, x_icge, x_icle, x_icne, x_idiv, x_ifle, x_ifne, x_il1, x_il2, x_il4, x_il5, x_il6, x_il7, x_il8, x_imul, x_inc4, x_inc5, x_ior, x_iret, x_is4, x_is5, x_is6, x_is7, x_is8, x_isub, x_ldc, x_lsw]
    by_cases h : r n = r (n + 1)
    · rw [if_pos h] at eo
      rw [if_pos h]
      simp -implicitDefEqProofs (disch := first | assumption | omega) only [b_la_run_310, szS_0, szS_i, szS_r, szS_l, x_cons, x_goto, ob_some, kl_i, kl_r, kl_l, kl_n, push_n, push_s, pop_0, pop_i, pop_r, Int.reduceToNat, List.length_cons, List.length_nil, Nat.reduceAdd, Nat.reduceLeDiff, Nat.zero_add, true_and, nI_n0, nat_le, Nat.add_zero, i_1, i_m1, rt_la_run, x_al0, x_al3, x_getf, x_goto, x_iadd, x_iaload, x_iand, x_iastore, x_icge, x_icle, x_icne, x_idiv, x_ifle, x_ifne, x_il1, x_il2, x_il4, x_il5, x_il6, x_il7, x_il8, x_imul, x_inc4, x_inc5, x_ior, x_iret, x_is4, x_is5, x_is6, x_is7, x_is8, x_isub, x_ldc, x_lsw]
      exact fin _ eo.symm
    · rw [if_neg h] at eo
      rw [if_neg h]
      simp -implicitDefEqProofs (disch := first | assumption | omega) only [b_la_run_309, b_la_run_310, szS_0, szS_i, szS_r, szS_l, x_cons, x_goto, ob_some, kl_i, kl_r, kl_l, kl_n, push_n, push_s, pop_0, pop_i, pop_r, Int.reduceToNat, List.length_cons, List.length_nil, Nat.reduceAdd, Nat.reduceLeDiff, Nat.zero_add, true_and, nI_n0, nat_le, Nat.add_zero, i_1, i_m1, rt_la_run, x_al0, x_al3, x_getf, x_goto, x_iadd, x_iaload, x_iand, x_iastore, x_icge, x_icle, x_icne, x_idiv, x_ifle, x_ifne, x_il1, x_il2, x_il4, x_il5, x_il6, x_il7, x_il8, x_imul, x_inc4, x_inc5, x_ior, x_iret, x_is4, x_is5, x_is6, x_is7, x_is8, x_isub, x_ldc, x_lsw]
      exact fin _ eo.symm
  · simp -implicitDefEqProofs (disch := first | assumption | omega) only [show (nI (opC 29) < nI 20000) = False from eq_false (by decide), ↓reduceIte, b_la_run_70, szS_0, szS_i, szS_r, szS_l, x_cons, x_goto, ob_some, kl_i, kl_r, kl_l, kl_n, push_n, push_s, pop_0, pop_i, pop_r, Int.reduceToNat, List.length_cons, List.length_nil, Nat.reduceAdd, Nat.reduceLeDiff, Nat.zero_add, true_and, nI_n0, nat_le, Nat.add_zero, i_1, i_m1, rt_la_run, x_al0, x_al3, x_getf, x_goto, x_iadd, x_iaload, x_iand, x_iastore, x_icge, x_icle, x_icne, x_idiv, x_ifle, x_ifne, x_il1, x_il2, x_il4, x_il5, x_il6, x_il7, x_il8, x_imul, x_inc4, x_inc5, x_ior, x_iret, x_is4, x_is5, x_is6, x_is7, x_is8, x_isub, x_ldc, x_lsw, show (nI (opC 29) = nI 20003) = False from eq_false (by decide), b_la_run_106, nI_ltE, l2, nx, lf_0, lf_1, lf_2, lf_3, lf_4, ls_0, ls_1, ll_3, ld_L3, upw_s, nI_sub, Nat.add_sub_cancel]
    show wp (ev d) P la_run 315 _ _ _
    have eo : opB 29 (r n) (r (n + 1)) = if r (n + 1) < r n then nI 1 else nI 0 := rfl
    simp -implicitDefEqProofs (disch := first | assumption | omega) only [b_la_run_315, szS_0, szS_i, szS_r, szS_l, x_cons, x_goto, ob_some, kl_i, kl_r, kl_l, kl_n, push_n, push_s, pop_0, pop_i, pop_r, Int.reduceToNat, List.length_cons, List.length_nil, Nat.reduceAdd, Nat.reduceLeDiff, Nat.zero_add, true_and, nI_n0, nat_le, Nat.add_zero, i_1, i_m1, rt_la_run, x_al0, x_al3, x_getf, x_goto, x_iadd, x_iaload, x_iand, x_iastore, x_icge, x_icle, x_icne, x_idiv, x_ifle, x_ifne, x_il1, x_il2, x_il4, x_il5, x_il6, x_il7, x_il8, x_imul, x_inc4, x_inc5, x_ior, x_iret, x_is4, x_is5, x_is6, x_is7, x_is8, x_isub, x_ldc, x_lsw]
    by_cases h : r (n + 1) < r n
    · rw [if_pos h] at eo
      simp -implicitDefEqProofs (disch := first | assumption | omega) only [h, ↓reduceIte, b_la_run_327, szS_0, szS_i, szS_r, szS_l, x_cons, x_goto, ob_some, kl_i, kl_r, kl_l, kl_n, push_n, push_s, pop_0, pop_i, pop_r, Int.reduceToNat, List.length_cons, List.length_nil, Nat.reduceAdd, Nat.reduceLeDiff, Nat.zero_add, true_and, nI_n0, nat_le, Nat.add_zero, i_1, i_m1, rt_la_run, x_al0, x_al3, x_getf, x_goto, x_iadd, x_iaload, x_iand, x_iastore, x_icge, x_icle, x_icne, x_idiv, x_ifle, x_ifne, x_il1, x_il2, x_il4, x_il5, x_il6, x_il7, x_il8, x_imul, x_inc4, x_inc5, x_ior, x_iret, x_is4, x_is5, x_is6, x_is7, x_is8, x_isub, x_ldc, x_lsw]
      exact fin _ eo.symm
    · rw [if_neg h] at eo
      simp -implicitDefEqProofs (disch := first | assumption | omega) only [h, ↓reduceIte, b_la_run_326, b_la_run_327, szS_0, szS_i, szS_r, szS_l, x_cons, x_goto, ob_some, kl_i, kl_r, kl_l, kl_n, push_n, push_s, pop_0, pop_i, pop_r, Int.reduceToNat, List.length_cons, List.length_nil, Nat.reduceAdd, Nat.reduceLeDiff, Nat.zero_add, true_and, nI_n0, nat_le, Nat.add_zero, i_1, i_m1, rt_la_run, x_al0, x_al3, x_getf, x_goto, x_iadd, x_iaload, x_iand, x_iastore, x_icge, x_icle, x_icne, x_idiv, x_ifle, x_ifne, x_il1, x_il2, x_il4, x_il5, x_il6, x_il7, x_il8, x_imul, x_inc4, x_inc5, x_ior, x_iret, x_is4, x_is5, x_is6, x_is7, x_is8, x_isub, x_ldc, x_lsw]
      exact fin _ eo.symm
  · simp -implicitDefEqProofs (disch := first | assumption | omega) only [show (nI (opC 31) < nI 20000) = False from eq_false (by decide), ↓reduceIte, b_la_run_70, szS_0, szS_i, szS_r, szS_l, x_cons, x_goto, ob_some, kl_i, kl_r, kl_l, kl_n, push_n, push_s, pop_0, pop_i, pop_r, Int.reduceToNat, List.length_cons, List.length_nil, Nat.reduceAdd, Nat.reduceLeDiff, Nat.zero_add, true_and, nI_n0, nat_le, Nat.add_zero, i_1, i_m1, rt_la_run, x_al0, x_al3, x_getf, x_goto, x_iadd, x_iaload, x_iand, x_iastore, x_icge, x_icle, x_icne, x_idiv, x_ifle, x_ifne, x_il1, x_il2, x_il4, x_il5, x_il6, x_il7, x_il8, x_imul, x_inc4, x_inc5, x_ior, x_iret, x_is4, x_is5, x_is6, x_is7, x_is8, x_isub, x_ldc, x_lsw, show (nI (opC 31) = nI 20003) = False from eq_false (by decide), b_la_run_106, nI_ltE, l2, nx, lf_0, lf_1, lf_2, lf_3, lf_4, ls_0, ls_1, ll_3, ld_L3, upw_s, nI_sub, Nat.add_sub_cancel]
    show wp (ev d) P la_run 212 _ _ _
    simp -implicitDefEqProofs (disch := first | assumption | omega) only [b_la_run_212, szS_0, szS_i, szS_r, szS_l, x_cons, x_goto, ob_some, kl_i, kl_r, kl_l, kl_n, push_n, push_s, pop_0, pop_i, pop_r, Int.reduceToNat, List.length_cons, List.length_nil, Nat.reduceAdd, Nat.reduceLeDiff, Nat.zero_add, true_and, nI_n0, nat_le, Nat.add_zero, i_1, i_m1, rt_la_run, x_al0, x_al3, x_getf, x_goto, x_iadd, x_iaload, x_iand, x_iastore, x_icge, x_icle, x_icne, x_idiv, x_ifle, x_ifne, x_il1, x_il2, x_il4, x_il5, x_il6, x_il7, x_il8, x_imul, x_inc4, x_inc5, x_ior, x_iret, x_is4, x_is5, x_is6, x_is7, x_is8, x_isub, x_ldc, x_lsw]
    exact fin _ rfl
  · simp -implicitDefEqProofs (disch := first | assumption | omega) only [show (nI (opC 32) < nI 20000) = False from eq_false (by decide), ↓reduceIte, b_la_run_70, szS_0, szS_i, szS_r, szS_l, x_cons, x_goto, ob_some, kl_i, kl_r, kl_l, kl_n, push_n, push_s, pop_0, pop_i, pop_r, Int.reduceToNat, List.length_cons, List.length_nil, Nat.reduceAdd, Nat.reduceLeDiff, Nat.zero_add, true_and, nI_n0, nat_le, Nat.add_zero, i_1, i_m1, rt_la_run, x_al0, x_al3, x_getf, x_goto, x_iadd, x_iaload, x_iand, x_iastore, x_icge, x_icle, x_icne, x_idiv, x_ifle, x_ifne, x_il1, x_il2, x_il4, x_il5, x_il6, x_il7, x_il8, x_imul, x_inc4, x_inc5, x_ior, x_iret, x_is4, x_is5, x_is6, x_is7, x_is8, x_isub, x_ldc, x_lsw, show (nI (opC 32) = nI 20003) = False from eq_false (by decide), b_la_run_106, nI_ltE, l2, nx, lf_0, lf_1, lf_2, lf_3, lf_4, ls_0, ls_1, ll_3, ld_L3, upw_s, nI_sub, Nat.add_sub_cancel]
    show wp (ev d) P la_run 222 _ _ _
    simp -implicitDefEqProofs (disch := first | assumption | omega) only [b_la_run_222, szS_0, szS_i, szS_r, szS_l, x_cons, x_goto, ob_some, kl_i, kl_r, kl_l, kl_n, push_n, push_s, pop_0, pop_i, pop_r, Int.reduceToNat, List.length_cons, List.length_nil, Nat.reduceAdd, Nat.reduceLeDiff, Nat.zero_add, true_and, nI_n0, nat_le, Nat.add_zero, i_1, i_m1, rt_la_run, x_al0, x_al3, x_getf, x_goto, x_iadd, x_iaload, x_iand, x_iastore, x_icge, x_icle, x_icne, x_idiv, x_ifle, x_ifne, x_il1, x_il2, x_il4, x_il5, x_il6, x_il7, x_il8, x_imul, x_inc4, x_inc5, x_ior, x_iret, x_is4, x_is5, x_is6, x_is7, x_is8, x_isub, x_ldc, x_lsw]
    exact fin _ rfl
theorem ru_div (hB : b = 22 ∨ b = 26 ∨ b = 52 ∨ b = 56 ∨ b = 82 ∨ b = 86) {i0 e n i : Nat} {r : Nat → Int32} {o6 o7 o8 : Option Value} (hi : i < e) (he : e ≤ 400) (hc : g (b + 1) i = nI 20047) (hn : n < 60) (hz : r (n + 1) ≠ 0)
    (H : ∀ o6 o7 o8, wp (ev d) P la_run 6 [some (.ref b), some (.int (nI i0)), some (.int (nI e)), some (.ref 181), some (.int (nI (n + 1))), some (.int (nI (i + 1))), o6, o7, o8] [] (E (upw g (b + 3) (pu r n (r n / r (n + 1)))) q)) :
    wp (ev d) P la_run 6 [some (.ref b), some (.int (nI i0)), some (.int (nI e)), some (.ref 181), some (.int (nI (n + 2))), some (.int (nI i)), o6, o7, o8] [] (E (upw g (b + 3) r) q) := by
  have l2 : 1 < n + 2 := by omega
  have l1 : (nI 20047 < nI 20000) = False := eq_false (by decide)
  have l3 : (nI 20047 = nI 20003) = False := eq_false (by decide)
  have hz2 : (r (n + 1) = nI 0) = False := eq_false hz
  have nx : nI (n + 2) + -1 = nI (n + 1) := by
    rw [addm1, nI_sub (by omega)]
    rfl
  rw [b_la_run_6]
  simp -implicitDefEqProofs (disch := first | assumption | omega) only [szS_0, szS_i, szS_r, szS_l, x_cons, x_goto, ob_some, kl_i, kl_r, kl_l, kl_n, push_n, push_s, pop_0, pop_i, pop_r, Int.reduceToNat, List.length_cons, List.length_nil, Nat.reduceAdd, Nat.reduceLeDiff, Nat.zero_add, true_and, nI_n0, nat_le, Nat.add_zero, i_1, i_m1, rt_la_run, x_al0, x_al3, x_getf, x_goto, x_iadd, x_iaload, x_iand, x_iastore, x_icge, x_icle, x_icne, x_idiv, x_ifle, x_ifne, x_il1, x_il2, x_il4, x_il5, x_il6, x_il7, x_il8, x_imul, x_inc4, x_inc5, x_ior, x_iret, x_is4, x_is5, x_is6, x_is7, x_is8, x_isub, x_ldc, x_lsw, nI_ltE, hi, ↓reduceIte, lf_0, lf_1, lf_2, lf_3, lf_4, ls_0, ls_1, ll_1, ld_L1, upw_o, hc, l1, b_la_run_70, l3, b_la_run_106, l2, nx, ll_3, ld_L3, upw_s, nI_sub, Nat.add_sub_cancel]
  show wp (ev d) P la_run 262 _ _ _
  simp -implicitDefEqProofs (disch := first | assumption | omega) only [b_la_run_262, b_la_run_271, b_la_run_276, b_la_run_329, b_la_run_340, szS_0, szS_i, szS_r, szS_l, x_cons, x_goto, ob_some, kl_i, kl_r, kl_l, kl_n, push_n, push_s, pop_0, pop_i, pop_r, Int.reduceToNat, List.length_cons, List.length_nil, Nat.reduceAdd, Nat.reduceLeDiff, Nat.zero_add, true_and, nI_n0, nat_le, Nat.add_zero, i_1, i_m1, rt_la_run, x_al0, x_al3, x_getf, x_goto, x_iadd, x_iaload, x_iand, x_iastore, x_icge, x_icle, x_icne, x_idiv, x_ifle, x_ifne, x_il1, x_il2, x_il4, x_il5, x_il6, x_il7, x_il8, x_imul, x_inc4, x_inc5, x_ior, x_iret, x_is4, x_is5, x_is6, x_is7, x_is8, x_isub, x_ldc, x_lsw, hz2, ↓reduceIte, lf_0, lf_1, lf_2, lf_3, lf_4, ls_0, ls_1, ll_3, ld_L3, upw_s, nI_sub, Nat.add_sub_cancel, pu_w, nI_add]
  exact H _ _ _
theorem pkR_p {r : Nat → Int32} {k : Nat} {v : Int32} {s : List Int32} (h : s.length ≤ k) (hp : pkR r s) : pkR (pu r k v) s := pkR_u h hp
theorem ru_lp (hB : b = 22 ∨ b = 26 ∨ b = 52 ∨ b = 56 ∨ b = 82 ∨ b = 86) {k : Nat} {ok : Nat → Bool} {F : Nat → Int32} (hA : ∀ s, ok s = true → asI k s < 10 ∧ g 181 (asI k s) = F s) {i0 e : Nat} (he : e ≤ 400) {t : Bool} : ∀ (l : List (Nat × Nat)) (i : Nat) (st : List Int32) (ts : List Bool) (r : Nat → Int32) (o6 o7 o8 : Option Value),
    e = i + (cxL k l).length → cdR (g (b + 1)) i (cxL k l) → tyL l ts = some [t] → nmL ok l → st.length = ts.length → ts.length ≤ 40 → pkR r st →
    (∀ x r', evL F l st = [x] → P (some (.int x)) (E (upw g (b + 3) r') q)) →
    wp (ev d) P la_run 6 [some (.ref b), some (.int (nI i0)), some (.int (nI e)), some (.ref 181), some (.int (nI st.length)), some (.int (nI i)), o6, o7, o8] [] (E (upw g (b + 3) r) q) := by
  intro l
  induction l with
  | nil =>
    intro i st ts r o6 o7 o8 hi hR hT hN hl h40 hp H
    have hT : some ts = some [t] := hT
    cases hT
    have hi : e = i := hi
    subst hi
    match st, hl, hp with
    | [x], _, hp =>
      have hx : r 0 = x := hp.1
      have l1 : ¬ 1 ≤ 0 := by omega
      rw [b_la_run_6]
      simp -implicitDefEqProofs (disch := first | assumption | omega) only [szS_0, szS_i, szS_r, szS_l, x_cons, x_goto, ob_some, kl_i, kl_r, kl_l, kl_n, push_n, push_s, pop_0, pop_i, pop_r, Int.reduceToNat, List.length_cons, List.length_nil, Nat.reduceAdd, Nat.reduceLeDiff, Nat.zero_add, true_and, nI_n0, nat_le, Nat.add_zero, i_1, i_m1, rt_la_run, x_al0, x_al3, x_getf, x_goto, x_iadd, x_iaload, x_iand, x_iastore, x_icge, x_icle, x_icne, x_idiv, x_ifle, x_ifne, x_il1, x_il2, x_il4, x_il5, x_il6, x_il7, x_il8, x_imul, x_inc4, x_inc5, x_ior, x_iret, x_is4, x_is5, x_is6, x_is7, x_is8, x_isub, x_ldc, x_lsw, List.length_nil, nI_ltE, Nat.lt_irrefl, ↓reduceIte, b_la_run_346, b_la_run_361, nI_leE, l1, lf_0, lf_1, lf_2, lf_3, lf_4, ls_0, ls_1, ll_3, ld_L3, upw_s, hx]
      exact H x r rfl
  | cons o l ih =>
    intro i st ts r o6 o7 o8 hi hR hT hN hl h40 hp H
    have hT : (ty1 o ts).bind (tyL l) = some [t] := hT
    obtain ⟨ts', hT1, hT2⟩ := Option.bind_eq_some_iff.mp hT
    obtain ⟨hR1, hR2⟩ := cdR_a (l := cxO k o) (l' := cxL k l) hR
    have hi : e = i + (cxO k o ++ cxL k l).length := hi
    rw [List.length_append] at hi
    have H' : ∀ x r', evL F l (ev1 F o st) = [x] → P (some (.int x)) (E (upw g (b + 3) r') q) := H
    have hN' : nmL ok l := fun o' ho => hN o' (List.mem_cons_of_mem _ ho)
    have ih' := fun st' r' o6 o7 o8 => ih (i + (cxO k o).length) st' ts' r' o6 o7 o8 (by omega) hR2 hT2 hN'
    rcases ty1_c hT1 with ⟨h1, h2, h3, h4⟩ | ⟨h1, h2, h3, s, h4, h5⟩ | ⟨h1, s, h4, h5⟩ | h | h | h
    · subst h4
      have e1 : ∀ v, v = (if o.1 = 0 then nI o.2 else F o.1) → ev1 F o st = v :: st := fun v hv => by
        unfold ev1
        rw [if_pos h1, hv]
      have go : ∀ (v : Nat) (x : Int32), cxO k o = [v] → (v < 10000 ∧ x = nI v ∨ 10000 ≤ v ∧ v < 10010 ∧ x = g 181 (v - 10000)) → x = (if o.1 = 0 then nI o.2 else F o.1) → wp (ev d) P la_run 6 [some (.ref b), some (.int (nI i0)), some (.int (nI e)), some (.ref 181), some (.int (nI st.length)), some (.int (nI i)), o6, o7, o8] [] (E (upw g (b + 3) r) q) := by
        intro v x hv hx hx2
        rw [hv] at hR1 hi ih'
        have hi : e = i + (1 + (cxL k l).length) := hi
        refine ru_push hB (by omega) he hR1.1 (by omega) hx ?_
        exact ih' (x :: st) (pu r st.length x) _ _ _ (by rw [List.length_cons, List.length_cons, hl]) (by rw [List.length_cons]; omega) ⟨pu_s, pkR_p (Nat.le_refl _) hp⟩ fun y r' hy => H' y r' (by rw [e1 x hx2]; exact hy)
      by_cases h0 : o.1 = 0
      · exact go o.2 (nI o.2) (if_pos h0) (Or.inl ⟨by have := h3 h0; omega, rfl⟩) (if_pos h0).symm
      · have ha := hA o.1 (hN o (List.mem_cons_self ..) h1 h0)
        exact go (10000 + asI k o.1) (F o.1) (by unfold cxO; rw [if_neg h0, if_pos h1]) (Or.inr ⟨by omega, by omega, by rw [Nat.add_sub_cancel_left]; exact ha.2.symm⟩) (if_neg h0).symm
    · subst h4
      match st, hl, hp with
      | x :: st, hl, hp =>
        have hl' : st.length = s.length := by simpa using hl
        rw [List.length_cons] at h40
        have hcx : cxO k o = [o.2, 20047] := by
          unfold cxO
          rw [if_neg (by omega), if_neg (by omega), if_pos h1]
        rw [hcx] at hR1 hi ih'
        have hi : e = i + (2 + (cxL k l).length) := hi
        have hnz := nI_ne (a := o.2) (by omega) (by omega)
        have hx : r st.length = x := hp.1
        refine ru_push hB (x := nI o.2) (by omega) he hR1.1 (by rw [List.length_cons]; omega) (Or.inl ⟨by omega, rfl⟩) ?_
        refine ru_div hB (n := st.length) (by omega) he hR1.2.1 (by omega) (by rw [show st.length + 1 = (x :: st).length from rfl, pu_s]; exact hnz) fun o6 o7 o8 => ?_
        rw [show st.length + 1 = (x :: st).length from rfl, pu_s, pu_n (by rw [List.length_cons]; omega), hx]
        exact ih' (x / nI o.2 :: st) _ _ _ _ (by rw [h5, List.length_cons, List.length_cons, hl']) (by rw [h5, List.length_cons]; exact h40) ⟨pu_s, pkR_p (Nat.le_refl _) (pkR_p (by rw [List.length_cons]; omega) hp.2)⟩ fun y r' hy => H' y r' (by
          unfold ev1
          rw [if_neg (by omega), if_pos h1]
          exact hy)
    · subst h4
      match st, hl, hp with
      | x :: st, hl, hp =>
        have hl' : st.length = s.length := by simpa using hl
        rw [List.length_cons] at h40
        have hcx : cxO k o = [20003] := by
          unfold cxO
          rw [if_neg (by omega), if_neg (by omega), if_neg (by omega), if_pos h1]
        rw [hcx] at hR1 hi ih'
        have hi : e = i + (1 + (cxL k l).length) := hi
        have hx : r st.length = x := hp.1
        refine ru_not hB (n := st.length) (by omega) he hR1.1 (by omega) ?_
        rw [hx]
        exact ih' ((nI 1 - x) :: st) _ _ _ _ (by rw [h5, List.length_cons, List.length_cons, hl']) (by rw [h5, List.length_cons]; exact h40) ⟨pu_s, pkR_p (Nat.le_refl _) hp.2⟩ fun y r' hy => H' y r' (by
          unfold ev1
          rw [if_neg (by omega), if_neg (by omega), if_pos h1]
          exact hy)
    all_goals
      have hb : (o.1 = 23 ∨ o.1 = 24 ∨ o.1 = 25 ∨ o.1 = 27 ∨ o.1 = 28 ∨ o.1 = 29 ∨ o.1 = 31 ∨ o.1 = 32) ∧ ∃ t1 t2 t3 s, ts = t1 :: t2 :: s ∧ ts' = t3 :: s := by
        obtain ⟨h1, s, h4, h5⟩ := h
        exact ⟨by omega, _, _, _, s, h4, h5⟩
      clear h
      obtain ⟨h1, t1, t2, t3, s, h4, h5⟩ := hb
      subst h4
      match st, hl, hp with
      | y :: x :: st, hl, hp =>
        have hl' : st.length = s.length := by simpa using hl
        rw [List.length_cons, List.length_cons] at h40
        have hcx : cxO k o = [opC o.1] := by
          unfold cxO
          rw [if_neg (by omega), if_neg (by omega), if_neg (by omega), if_neg (by omega)]
        rw [hcx] at hR1 hi ih'
        have hi : e = i + (1 + (cxL k l).length) := hi
        have hy : r (st.length + 1) = y := hp.1
        have hx : r st.length = x := hp.2.1
        refine ru_bin hB (n := st.length) (by omega) he h1 hR1.1 (by omega) fun o6 o7 o8 => ?_
        rw [hx, hy]
        exact ih' (opB o.1 x y :: st) _ _ _ _ (by rw [h5, List.length_cons, List.length_cons, hl']) (by rw [h5, List.length_cons]; omega) ⟨pu_s, pkR_p (Nat.le_refl _) hp.2.2⟩ fun z r' hz => H' z r' (by
          unfold ev1
          rw [if_neg (by omega), if_neg (by omega), if_neg (by omega)]
          exact hz)
theorem s_run (hB : b = 22 ∨ b = 26 ∨ b = 52 ∨ b = 56 ∨ b = 82 ∨ b = 86) {k : Nat} {ok : Nat → Bool} {F : Nat → Int32} (hA : ∀ s, ok s = true → asI k s < 10 ∧ g 181 (asI k s) = F s) {i e : Nat} (he : e ≤ 400) {t : Bool} {l : List (Nat × Nat)} (hi : e = i + (cxL k l).length) (hR : cdR (g (b + 1)) i (cxL k l)) (hT : tyL l [] = some [t]) (hN : nmL ok l)
    (H : ∀ r, P (some (.int (topL (evL F l [])))) (E (upw g (b + 3) r) q)) : callC (ev (d + 1)) la_run [.ref b, .int (nI i), .int (nI e), .ref 181] (E g q) P := by
  refine in_la_run (by rcases hB with rfl | rfl | rfl | rfl | rfl | rfl <;> rfl) ?_
  rw [b_la_run_0]
  simp -implicitDefEqProofs (disch := first | assumption | omega) only [szS_0, szS_i, szS_r, szS_l, x_cons, x_goto, ob_some, kl_i, kl_r, kl_l, kl_n, push_n, push_s, pop_0, pop_i, pop_r, Int.reduceToNat, List.length_cons, List.length_nil, Nat.reduceAdd, Nat.reduceLeDiff, Nat.zero_add, true_and, nI_n0, nat_le, Nat.add_zero, i_1, i_m1, rt_la_run, x_al0, x_al3, x_getf, x_goto, x_iadd, x_iaload, x_iand, x_iastore, x_icge, x_icle, x_icne, x_idiv, x_ifle, x_ifne, x_il1, x_il2, x_il4, x_il5, x_il6, x_il7, x_il8, x_imul, x_inc4, x_inc5, x_ior, x_iret, x_is4, x_is5, x_is6, x_is7, x_is8, x_isub, x_ldc, x_lsw]
  rw [show E g q = E (upw g (b + 3) (g (b + 3))) q by rw [upw_g]]
  refine ru_lp hB hA he l i [] [] _ none none none hi hR hT hN rfl (Nat.zero_le _) trivial fun x r' hx => ?_
  have := H r'
  rw [hx] at this
  exact this
/-- a law in the class: k which one -/
def lnC (k : Nat) (c st : Nat → Int32) : Nat → Nat → LW → Prop
  | _, _, [] => True
  | j, f, (A, C) :: r => (st (2 * j) = nI f ∧ st (2 * j + 1) = nI (f + (cxL k A).length) ∧ st (2 * j + 2) = nI (f + (cxL k A).length + (cxL k C).length) ∧ f + (cxL k A).length + (cxL k C).length ≤ 400 ∧ cdR c f (cxL k A) ∧ cdR c (f + (cxL k A).length) (cxL k C)) ∧ lnC k c st (j + 1) (f + (cxL k A).length + (cxL k C).length) r
def LC (b k : Nat) (g : Nat → Nat → Int32) (ls : LW) : Prop := g b 0 = nI ls.length ∧ ls.length ≤ 16 ∧ lnC k (g (b + 1)) (g (b + 2)) 0 0 ls ∧ g (b + 2) 0 = nI 0
/-- each line's parts are sorts' way -/
def tyW (ls : LW) : Prop := ∀ p, p ∈ ls → tyL p.1 [] = some [false] ∧ (p.2 = [] ∨ tyL p.2 [] = some [true])
theorem tyW_r {w : Nat → Int32} {k : Nat} : ∀ {ls : LW} {j : Nat}, lnR w k j ls → tyW ls
  | [], _, _ => fun _ h => absurd h List.not_mem_nil
  | (A, C) :: r, j, h => fun p hp => by
    obtain ⟨⟨f, h1, h2, h3, h4, h5, h6, h7, h8⟩, h9⟩ := h
    rcases List.mem_cons.mp hp with rfl | hp
    · exact ⟨h7, h8⟩
    · exact tyW_r h9 p hp
theorem cxL_0 {k : Nat} {l : List (Nat × Nat)} (h : (cxL k l).length = 0) : l = [] := by
  match l with
  | [] => rfl
  | o :: l =>
    have h : (cxO k o ++ cxL k l).length = 0 := h
    rw [List.length_append] at h
    have := cxO_p (k := k) (o := o)
    omega
theorem hel_c {v m : Int32} : (if (if m < v then m else v) < nI 0 then nI 0 else (if m < v then m else v)) = heldI v m := rfl
theorem jmm {v m : Int32} (hm : nI 0 ≤ m) : (if nI 0 < (if v < m then v else m) then (if v < m then v else m) else nI 0) = heldI v m := by
  unfold heldI
  have e1 : (if v < m then v else m) = (if m < v then m else v) := by
    by_cases h1 : v < m
    · rw [if_pos h1, if_neg fun h2 => by
        rw [ltE] at h1 h2
        omega]
    · by_cases h2 : m < v
      · rw [if_neg h1, if_pos h2]
      · rw [if_neg h1, if_neg h2]
        rw [ltE] at h1 h2
        rw [eqE]
        omega
  rw [e1]
  generalize (if m < v then m else v) = x
  by_cases h1 : nI 0 < x
  · rw [if_pos h1, if_neg fun h2 => by
      rw [ltE] at h1 h2
      omega]
  · rw [if_neg h1]
    by_cases h2 : x < nI 0
    · rw [if_pos h2]
    · rw [if_neg h2]
      rw [ltE] at h1 h2
      rw [eqE]
      omega
theorem am_lpC (hB : b = 22 ∨ b = 26 ∨ b = 52 ∨ b = 56 ∨ b = 82 ∨ b = 86) {k : Nat} {ok : Nat → Bool} {F : Nat → Int32} (hA : ∀ s, ok s = true → asI k s < 10 ∧ g 181 (asI k s) = F s) {o : Int32} {m n : Nat} (hm : m < 2147483648) (hn : n ≤ 16) (hl : g b 0 = nI n) : ∀ (l : LW) (j f : Nat) (r : Nat → Int32) (o5 o6 : Option Value), j + l.length = n → lnC k (g (b + 1)) (g (b + 2)) j f l → tyW l → nmW ok l → (∀ r', P (some (.int (saysL F o (nI m) l))) (E (upw g (b + 3) r') q)) →
    wp (ev (d + 1)) P la_amount 3 [some (.ref b), some (.ref 181), some (.int o), some (.int (nI m)), some (.int (nI j)), o5, o6] [] (E (upw g (b + 3) r) q) := by
  intro l
  induction l with
  | nil =>
    intro j f r o5 o6 hj _ _ _ H
    have hj : j = n := hj
    subst hj
    rw [b_la_amount_3]
    simp -implicitDefEqProofs (disch := first | assumption | omega) only [szS_0, szS_i, szS_r, szS_l, x_cons, x_goto, ob_some, kl_i, kl_r, kl_l, kl_n, push_n, push_s, pop_0, pop_i, pop_r, Int.reduceToNat, List.length_cons, List.length_nil, Nat.reduceAdd, Nat.reduceLeDiff, Nat.zero_add, true_and, nI_n0, nat_le, Nat.add_zero, i_1, rt_la_amount, x_al0, x_al1, x_call, x_getf, x_goto, x_iadd, x_iaload, x_iceq, x_icge, x_ifeq, x_il2, x_il3, x_il4, x_il5, x_il6, x_imul, x_inc4, x_iret, x_is4, x_is5, x_is6, x_ldc, lf_0, lf_1, lf_2, lf_3, lf_4, ls_0, ls_1, upw_o, hl, nI_ltE, Nat.lt_irrefl, ↓reduceIte, b_la_amount_88]
    exact H r
  | cons p l ih =>
    intro j f r o5 o6 hj hR hT hN H
    obtain ⟨A, C⟩ := p
    obtain ⟨⟨hf, hfm, hft, h4, hA1, hC1⟩, hR2⟩ := hR
    have hj : j + (l.length + 1) = n := hj
    have hlt : j < n := by omega
    have hT1 := hT (A, C) (List.mem_cons_self ..)
    have hN1 := hN (A, C) (List.mem_cons_self ..)
    have h0m : nI 0 ≤ nI m := by
      rw [nI_leE (by decide) hm]
      exact Nat.zero_le _
    have amt : ∀ r, saysL F o (nI m) ((A, C) :: l) = heldI (topL (evL F A [])) (nI m) → wp (ev (d + 1)) P la_amount 57 [some (.ref b), some (.ref 181), some (.int o), some (.int (nI m)), some (.int (nI j)), some (.int (nI (f + (cxL k A).length))), some (.int (nI (f + (cxL k A).length + (cxL k C).length)))] [] (E (upw g (b + 3) r) q) := by
      intro r hs
      rw [b_la_amount_57]
      simp -implicitDefEqProofs (disch := first | assumption | omega) only [szS_0, szS_i, szS_r, szS_l, x_cons, x_goto, ob_some, kl_i, kl_r, kl_l, kl_n, push_n, push_s, pop_0, pop_i, pop_r, Int.reduceToNat, List.length_cons, List.length_nil, Nat.reduceAdd, Nat.reduceLeDiff, Nat.zero_add, true_and, nI_n0, nat_le, Nat.add_zero, i_1, rt_la_amount, x_al0, x_al1, x_call, x_getf, x_goto, x_iadd, x_iaload, x_iceq, x_icge, x_ifeq, x_il2, x_il3, x_il4, x_il5, x_il6, x_imul, x_inc4, x_iret, x_is4, x_is5, x_is6, x_ldc, lf_0, lf_1, lf_2, lf_3, lf_4, ls_0, ls_1, ll_2, ld_L2, upw_o, nI_mul, hf]
      refine s_run hB (k := k) (ok := ok) (F := F) (fun s hs => by rw [upw_o (by omega)]; exact hA s hs) (l := A) (by omega) rfl (by rw [upw_o (by omega)]; exact hA1) hT1.1 hN1.1 fun r' => ?_
      rw [upw_w]
      simp -implicitDefEqProofs (disch := first | assumption | omega) only [szS_0, szS_i, szS_r, szS_l, x_cons, x_goto, ob_some, kl_i, kl_r, kl_l, kl_n, push_n, push_s, pop_0, pop_i, pop_r, Int.reduceToNat, List.length_cons, List.length_nil, Nat.reduceAdd, Nat.reduceLeDiff, Nat.zero_add, true_and, nI_n0, nat_le, Nat.add_zero, i_1, rt_la_amount, x_al0, x_al1, x_call, x_getf, x_goto, x_iadd, x_iaload, x_iceq, x_icge, x_ifeq, x_il2, x_il3, x_il4, x_il5, x_il6, x_imul, x_inc4, x_iret, x_is4, x_is5, x_is6, x_ldc, s_jmin, s_jmax, jmm]
      have := H r'
      rw [hs] at this
      exact this
    rw [b_la_amount_3]
    simp -implicitDefEqProofs (disch := first | assumption | omega) only [szS_0, szS_i, szS_r, szS_l, x_cons, x_goto, ob_some, kl_i, kl_r, kl_l, kl_n, push_n, push_s, pop_0, pop_i, pop_r, Int.reduceToNat, List.length_cons, List.length_nil, Nat.reduceAdd, Nat.reduceLeDiff, Nat.zero_add, true_and, nI_n0, nat_le, Nat.add_zero, i_1, rt_la_amount, x_al0, x_al1, x_call, x_getf, x_goto, x_iadd, x_iaload, x_iceq, x_icge, x_ifeq, x_il2, x_il3, x_il4, x_il5, x_il6, x_imul, x_inc4, x_iret, x_is4, x_is5, x_is6, x_ldc, lf_0, lf_1, lf_2, lf_3, lf_4, ls_0, ls_1, ll_2, ld_L2, upw_o, hl, nI_ltE, hlt, ↓reduceIte, nI_mul, nI_add, hfm, hft, nI_eqE]
    by_cases hC0 : (cxL k C).length = 0
    · have hC : C = [] := cxL_0 hC0
      have e : (f + (cxL k A).length = f + (cxL k A).length + (cxL k C).length) = True := eq_true (by omega)
      simp only [e, ↓reduceIte]
      exact amt r (if_pos (Or.inl hC))
    · have hC : C ≠ [] := fun e => hC0 (by rw [e]; rfl)
      have e : (f + (cxL k A).length = f + (cxL k A).length + (cxL k C).length) = False := eq_false (by omega)
      simp only [e, ↓reduceIte]
      have hTC := hT1.2.resolve_left hC
      refine s_run hB (k := k) (ok := ok) (F := F) (fun s hs => by rw [upw_o (by omega)]; exact hA s hs) (l := C) (by omega) rfl (by rw [upw_o (by omega)]; exact hC1) hTC hN1.2 fun r' => ?_
      rw [upw_w]
      have h01 := (evL_1 (F := F) hTC).2 rfl
      simp -implicitDefEqProofs (disch := first | assumption | omega) only [szS_0, szS_i, szS_r, szS_l, x_cons, x_goto, ob_some, kl_i, kl_r, kl_l, kl_n, push_n, push_s, pop_0, pop_i, pop_r, Int.reduceToNat, List.length_cons, List.length_nil, Nat.reduceAdd, Nat.reduceLeDiff, Nat.zero_add, true_and, nI_n0, nat_le, Nat.add_zero, i_1, rt_la_amount, x_al0, x_al1, x_call, x_getf, x_goto, x_iadd, x_iaload, x_iceq, x_icge, x_ifeq, x_il2, x_il3, x_il4, x_il5, x_il6, x_imul, x_inc4, x_iret, x_is4, x_is5, x_is6, x_ldc]
      by_cases h1 : topL (evL F C []) = nI 0
      · have h1' : ¬ topL (evL F C []) = nI 1 := by
          rw [h1]
          decide
        simp only [h1, ↓reduceIte]
        simp -implicitDefEqProofs (disch := first | assumption | omega) only [b_la_amount_82, szS_0, szS_i, szS_r, szS_l, x_cons, x_goto, ob_some, kl_i, kl_r, kl_l, kl_n, push_n, push_s, pop_0, pop_i, pop_r, Int.reduceToNat, List.length_cons, List.length_nil, Nat.reduceAdd, Nat.reduceLeDiff, Nat.zero_add, true_and, nI_n0, nat_le, Nat.add_zero, i_1, rt_la_amount, x_al0, x_al1, x_call, x_getf, x_goto, x_iadd, x_iaload, x_iceq, x_icge, x_ifeq, x_il2, x_il3, x_il4, x_il5, x_il6, x_imul, x_inc4, x_iret, x_is4, x_is5, x_is6, x_ldc, nI_add]
        refine ih (j + 1) _ r' _ _ (by omega) hR2 (fun p hp => hT p (List.mem_cons_of_mem _ hp)) (fun p hp => hN p (List.mem_cons_of_mem _ hp)) fun r2 => ?_
        have := H r2
        rw [show saysL F o (nI m) ((A, C) :: l) = saysL F o (nI m) l from if_neg fun h => h.elim hC h1'] at this
        exact this
      · simp only [h1, ↓reduceIte]
        exact amt r' (if_pos (Or.inr (h01.resolve_left h1)))
theorem s_amount (hB : b = 22 ∨ b = 26 ∨ b = 52 ∨ b = 56 ∨ b = 82 ∨ b = 86) {k : Nat} {ok : Nat → Bool} {F : Nat → Int32} (hA : ∀ s, ok s = true → asI k s < 10 ∧ g 181 (asI k s) = F s) {o : Int32} {m : Nat} (hm : m < 2147483648) {ls : LW} (hL : LC b k g ls) (hT : tyW ls) (hN : nmW ok ls) (H : ∀ r, P (some (.int (saysL F o (nI m) ls))) (E (upw g (b + 3) r) q)) :
    callC (ev (d + 2)) la_amount [.ref b, .ref 181, .int o, .int (nI m)] (E g q) P := by
  refine in_la_amount (by rcases hB with rfl | rfl | rfl | rfl | rfl | rfl <;> rfl) ?_
  rw [b_la_amount_0]
  simp -implicitDefEqProofs (disch := first | assumption | omega) only [szS_0, szS_i, szS_r, szS_l, x_cons, x_goto, ob_some, kl_i, kl_r, kl_l, kl_n, push_n, push_s, pop_0, pop_i, pop_r, Int.reduceToNat, List.length_cons, List.length_nil, Nat.reduceAdd, Nat.reduceLeDiff, Nat.zero_add, true_and, nI_n0, nat_le, Nat.add_zero, i_1, rt_la_amount, x_al0, x_al1, x_call, x_getf, x_goto, x_iadd, x_iaload, x_iceq, x_icge, x_ifeq, x_il2, x_il3, x_il4, x_il5, x_il6, x_imul, x_inc4, x_iret, x_is4, x_is5, x_is6, x_ldc]
  rw [show E g q = E (upw g (b + 3) (g (b + 3))) q by rw [upw_g]]
  exact am_lpC hB hA hm hL.2.1 hL.1 ls 0 0 _ none none (Nat.zero_add _) hL.2.2.1 hT hN H
end CL
