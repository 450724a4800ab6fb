/-! both objects are made; the law's start -/
section MK
variable {d N m : Nat} {g : Nat → Nat → Int32} {q : Nat → Nat → Int64} {P : QT}
theorem cf_lp {a n : Nat} {v : Int32} (hk : kd a = (0, n)) (ha : a < N) (hn : n < 2147483648) (H : ∀ r, (∀ k, k < n → r k = v) → P none (EC N m (upw g a r) q)) : ∀ (j i : Nat) (r : Nat → Int32), i + j = n → (∀ k, k < i → r k = v) →
    wp (ev d) P ja_fill 5 [some (.ref a), some (.int v), some (.int (nI i)), some (.int (nI n))] [] (EC N m (upw g a r) q) := by
  intro j
  induction j with
  | zero =>
    intro i r hi hr
    have hi : i = n := hi
    subst hi
    rw [b_ja_fill_5]
    simp -implicitDefEqProofs (disch := first | assumption | omega) only [szS_0, szS_i, szS_r, szS_l, x_cons, x_goto, ob_some, kl_i, kl_r, kl_l, kl_n, push_n, push_s, pop_0, pop_i, pop_r, Int.reduceToNat, List.length_cons, List.length_nil, Nat.reduceAdd, Nat.reduceLeDiff, Nat.zero_add, true_and, nI_n0, nat_le, Nat.add_zero, i_1, rt_ja_fill, x_al0, x_alen, x_goto, x_iastore, x_icge, x_il1, x_il2, x_il3, x_inc2, x_is2, x_is3, x_ldc, x_vret, nI_ltE, Nat.lt_irrefl, ↓reduceIte, b_ja_fill_20]
    exact H r hr
  | succ j ih =>
    intro i r hi hr
    have hi' : i < n := by omega
    have es : ∀ G : Nat → Nat → Int32, ist (EC N m G q) a (nI i) v = some (EC N m (up2 G a i v) q) := fun G => ce_st hk ha hi' hn
    rw [b_ja_fill_5]
    simp -implicitDefEqProofs (disch := first | assumption | omega) only [szS_0, szS_i, szS_r, szS_l, x_cons, x_goto, ob_some, kl_i, kl_r, kl_l, kl_n, push_n, push_s, pop_0, pop_i, pop_r, Int.reduceToNat, List.length_cons, List.length_nil, Nat.reduceAdd, Nat.reduceLeDiff, Nat.zero_add, true_and, nI_n0, nat_le, Nat.add_zero, i_1, rt_ja_fill, x_al0, x_alen, x_goto, x_iastore, x_icge, x_il1, x_il2, x_il3, x_inc2, x_is2, x_is3, x_ldc, x_vret, nI_ltE, hi', ↓reduceIte, es, nI_add, pu_w]
    refine ih (i + 1) _ (by omega) fun k hk => ?_
    unfold pu
    split
    · rfl
    · exact hr k (by omega)
theorem cc_fill {a n : Nat} {v : Int32} (hk : kd a = (0, n)) (ha : a < N) (hn : n < 2147483648) (H : ∀ r, (∀ k, k < n → r k = v) → P none (EC N m (upw g a r) q)) : callC (ev (d + 1)) ja_fill [.ref a, .int v] (EC N m g q) P := by
  refine in_ja_fill rfl ?_
  have el : aln (EC N m g q) a = some n := ce_al hk (by decide) ha
  rw [b_ja_fill_0]
  simp -implicitDefEqProofs (disch := first | assumption | omega) only [szS_0, szS_i, szS_r, szS_l, x_cons, x_goto, ob_some, kl_i, kl_r, kl_l, kl_n, push_n, push_s, pop_0, pop_i, pop_r, Int.reduceToNat, List.length_cons, List.length_nil, Nat.reduceAdd, Nat.reduceLeDiff, Nat.zero_add, true_and, nI_n0, nat_le, Nat.add_zero, i_1, rt_ja_fill, x_al0, x_alen, x_goto, x_iastore, x_icge, x_il1, x_il2, x_il3, x_inc2, x_is2, x_is3, x_ldc, x_vret, el]
  rw [show EC N m g q = EC N m (upw g a (g a)) q by rw [upw_g]]
  exact cf_lp hk ha hn H n 0 _ (Nat.zero_add _) fun k hk => absurd hk (Nat.not_lt_zero k)
theorem cs_dclear (H : ∀ g', (∀ b, b < 2 ∨ 7 ≤ b → g' b = g b) → g' 2 0 = nI 0 → (∀ k, k < 16 → g' 3 k = nI 0 ∧ g' 4 k = nI 0) → (∀ k, k < 48 → g' 5 k = nI 0) → P none (EC 196 200 g' q)) : callC (ev (d + 2)) de_clear [.ref 2] (EC 196 200 g q) P := by
  refine in_de_clear rfl ?_
  rw [b_de_clear_0]
  simp -implicitDefEqProofs (disch := first | assumption | omega | decide +kernel) only [szS_0, szS_i, szS_r, szS_l, x_cons, x_goto, ob_some, kl_i, kl_r, kl_l, kl_n, push_n, push_s, pop_0, pop_i, pop_r, Int.reduceToNat, List.length_cons, List.length_nil, Nat.reduceAdd, Nat.reduceLeDiff, Nat.zero_add, true_and, nI_n0, nat_le, Nat.add_zero, rt_de_clear, x_al0, x_call, x_getf, x_ldc, x_m1, x_putf, x_vret, ce_putI, Nat.reduceMod, pu_g, ce_getR 3]
  refine cc_fill (a := 3) (n := 16) rfl (by decide) (by decide) fun r1 h1 => ?_
  simp -implicitDefEqProofs (disch := first | assumption | omega | decide +kernel) only [szS_0, szS_i, szS_r, szS_l, x_cons, x_goto, ob_some, kl_i, kl_r, kl_l, kl_n, push_n, push_s, pop_0, pop_i, pop_r, Int.reduceToNat, List.length_cons, List.length_nil, Nat.reduceAdd, Nat.reduceLeDiff, Nat.zero_add, true_and, nI_n0, nat_le, Nat.add_zero, rt_de_clear, x_al0, x_call, x_getf, x_ldc, x_m1, x_putf, x_vret, ce_getR 4]
  refine cc_fill (a := 4) (n := 16) rfl (by decide) (by decide) fun r2 h2 => ?_
  simp -implicitDefEqProofs (disch := first | assumption | omega | decide +kernel) only [szS_0, szS_i, szS_r, szS_l, x_cons, x_goto, ob_some, kl_i, kl_r, kl_l, kl_n, push_n, push_s, pop_0, pop_i, pop_r, Int.reduceToNat, List.length_cons, List.length_nil, Nat.reduceAdd, Nat.reduceLeDiff, Nat.zero_add, true_and, nI_n0, nat_le, Nat.add_zero, rt_de_clear, x_al0, x_call, x_getf, x_ldc, x_m1, x_putf, x_vret, ce_getR 5]
  refine cc_fill (a := 5) (n := 48) rfl (by decide) (by decide) fun r3 h3 => ?_
  simp -implicitDefEqProofs (disch := first | assumption | omega | decide +kernel) only [szS_0, szS_i, szS_r, szS_l, x_cons, x_goto, ob_some, kl_i, kl_r, kl_l, kl_n, push_n, push_s, pop_0, pop_i, pop_r, Int.reduceToNat, List.length_cons, List.length_nil, Nat.reduceAdd, Nat.reduceLeDiff, Nat.zero_add, true_and, nI_n0, nat_le, Nat.add_zero, rt_de_clear, x_al0, x_call, x_getf, x_ldc, x_m1, x_putf, x_vret, ce_getR 6]
  refine cc_fill (a := 6) (n := 256) rfl (by decide) (by decide) fun r4 h4 => ?_
  simp -implicitDefEqProofs (disch := first | assumption | omega) only [szS_0, szS_i, szS_r, szS_l, x_cons, x_goto, ob_some, kl_i, kl_r, kl_l, kl_n, push_n, push_s, pop_0, pop_i, pop_r, Int.reduceToNat, List.length_cons, List.length_nil, Nat.reduceAdd, Nat.reduceLeDiff, Nat.zero_add, true_and, nI_n0, nat_le, Nat.add_zero, rt_de_clear, x_al0, x_call, x_getf, x_ldc, x_m1, x_putf, x_vret]
  refine H _ (fun b hb => by rw [upw_o (by omega), upw_o (by omega), upw_o (by omega), upw_o (by omega), upw_o (by omega)]) ?_ (fun k hk => ⟨?_, ?_⟩) fun k hk => ?_
  · rw [upw_o (by decide), upw_o (by decide), upw_o (by decide), upw_o (by decide), upw_s, pu_s]
  · rw [upw_o (by decide), upw_o (by decide), upw_o (by decide), upw_s, h1 k hk]
  · rw [upw_o (by decide), upw_o (by decide), upw_s, h2 k hk]
  · rw [upw_o (by decide), upw_s, h3 k hk]
theorem cs_sclear (H : ∀ g', (∀ b, b < 7 ∨ 22 ≤ b ∨ b = 8 ∨ b = 9 → g' b = g b) → (g' 7 0 = nI 0 ∧ g' 7 1 = nI 0 ∧ g' 7 2 = nI 0 ∧ g' 7 4 = nI 0 ∧ g' 7 3 = g 7 3) → (∀ k, k < 16 → g' 10 k = nI 0 ∧ g' 11 k = nI 0 ∧ g' 12 k = nI 0 ∧ g' 13 k = nI 0 ∧ g' 14 k = nI 0 ∧ g' 15 k = nI 0 ∧ g' 16 k = nI 0 ∧ g' 17 k = nI 0) → (∀ k, k < 16 → g' 18 k = nI 0 ∧ g' 19 k = nI 0) → (∀ k, k < 48 → g' 20 k = nI 0) → (∀ k, k < 256 → g' 21 k = nI 0) → P none (EC 196 200 g' q)) : callC (ev (d + 2)) st_clear [.ref 7] (EC 196 200 g q) P := by
  refine in_st_clear rfl ?_
  have al : ∀ g, aln (EC 196 200 g q) 9 = some 8 := fun g => ce_al rfl (by decide) (by decide)
  have rl : ∀ g (k b : Nat), (decide (k < 8) && decide (tauQ 9 k < 200) && decide (R0 9 k = some b)) = true → rld (EC 196 200 g q) 9 (nI k) = some (.ref b) := fun g k b h => by
    simp only [Bool.and_eq_true, decide_eq_true_eq] at h
    exact ce_rl (n := 8) rfl (by decide) h.1.1 (by decide) h.1.2 h.2
  rw [b_st_clear_0]
  simp -implicitDefEqProofs (disch := first | assumption | omega | decide +kernel) only [szS_0, szS_i, szS_r, szS_l, x_cons, x_goto, ob_some, kl_i, kl_r, kl_l, kl_n, push_n, push_s, pop_0, pop_i, pop_r, Int.reduceToNat, List.length_cons, List.length_nil, Nat.reduceAdd, Nat.reduceLeDiff, Nat.zero_add, true_and, nI_n0, nat_le, Nat.add_zero, i_1, rt_st_clear, x_aaload, x_al0, x_alen, x_call, x_getf, x_goto, x_icge, x_il1, x_inc1, x_is1, x_ldc, x_putf, x_vret, ce_putI, Nat.reduceMod, pu_g, pu_w, upw_s, upw_w]
  rw [b_st_clear_22]
  simp -implicitDefEqProofs (disch := first | assumption | omega | decide +kernel) only [szS_0, szS_i, szS_r, szS_l, x_cons, x_goto, ob_some, kl_i, kl_r, kl_l, kl_n, push_n, push_s, pop_0, pop_i, pop_r, Int.reduceToNat, List.length_cons, List.length_nil, Nat.reduceAdd, Nat.reduceLeDiff, Nat.zero_add, true_and, nI_n0, nat_le, Nat.add_zero, i_1, rt_st_clear, x_aaload, x_al0, x_alen, x_call, x_getf, x_goto, x_icge, x_il1, x_inc1, x_is1, x_ldc, x_putf, x_vret, ce_getR 9, al, nI_ltE, Nat.reduceLT, ↓reduceIte, rl _ 0 10 rfl]
  refine cc_fill (a := 10) (n := 16) rfl (by decide) (by decide) fun r0 h0 => ?_
  simp -implicitDefEqProofs (disch := first | assumption | omega) only [szS_0, szS_i, szS_r, szS_l, x_cons, x_goto, ob_some, kl_i, kl_r, kl_l, kl_n, push_n, push_s, pop_0, pop_i, pop_r, Int.reduceToNat, List.length_cons, List.length_nil, Nat.reduceAdd, Nat.reduceLeDiff, Nat.zero_add, true_and, nI_n0, nat_le, Nat.add_zero, i_1, rt_st_clear, x_aaload, x_al0, x_alen, x_call, x_getf, x_goto, x_icge, x_il1, x_inc1, x_is1, x_ldc, x_putf, x_vret, nI_add]
  rw [b_st_clear_22]
  simp -implicitDefEqProofs (disch := first | assumption | omega | decide +kernel) only [szS_0, szS_i, szS_r, szS_l, x_cons, x_goto, ob_some, kl_i, kl_r, kl_l, kl_n, push_n, push_s, pop_0, pop_i, pop_r, Int.reduceToNat, List.length_cons, List.length_nil, Nat.reduceAdd, Nat.reduceLeDiff, Nat.zero_add, true_and, nI_n0, nat_le, Nat.add_zero, i_1, rt_st_clear, x_aaload, x_al0, x_alen, x_call, x_getf, x_goto, x_icge, x_il1, x_inc1, x_is1, x_ldc, x_putf, x_vret, ce_getR 9, al, nI_ltE, Nat.reduceLT, ↓reduceIte, rl _ 1 11 rfl]
  refine cc_fill (a := 11) (n := 16) rfl (by decide) (by decide) fun r1 h1 => ?_
  simp -implicitDefEqProofs (disch := first | assumption | omega) only [szS_0, szS_i, szS_r, szS_l, x_cons, x_goto, ob_some, kl_i, kl_r, kl_l, kl_n, push_n, push_s, pop_0, pop_i, pop_r, Int.reduceToNat, List.length_cons, List.length_nil, Nat.reduceAdd, Nat.reduceLeDiff, Nat.zero_add, true_and, nI_n0, nat_le, Nat.add_zero, i_1, rt_st_clear, x_aaload, x_al0, x_alen, x_call, x_getf, x_goto, x_icge, x_il1, x_inc1, x_is1, x_ldc, x_putf, x_vret, nI_add]
  rw [b_st_clear_22]
  simp -implicitDefEqProofs (disch := first | assumption | omega | decide +kernel) only [szS_0, szS_i, szS_r, szS_l, x_cons, x_goto, ob_some, kl_i, kl_r, kl_l, kl_n, push_n, push_s, pop_0, pop_i, pop_r, Int.reduceToNat, List.length_cons, List.length_nil, Nat.reduceAdd, Nat.reduceLeDiff, Nat.zero_add, true_and, nI_n0, nat_le, Nat.add_zero, i_1, rt_st_clear, x_aaload, x_al0, x_alen, x_call, x_getf, x_goto, x_icge, x_il1, x_inc1, x_is1, x_ldc, x_putf, x_vret, ce_getR 9, al, nI_ltE, Nat.reduceLT, ↓reduceIte, rl _ 2 12 rfl]
  refine cc_fill (a := 12) (n := 16) rfl (by decide) (by decide) fun r2 h2 => ?_
  simp -implicitDefEqProofs (disch := first | assumption | omega) only [szS_0, szS_i, szS_r, szS_l, x_cons, x_goto, ob_some, kl_i, kl_r, kl_l, kl_n, push_n, push_s, pop_0, pop_i, pop_r, Int.reduceToNat, List.length_cons, List.length_nil, Nat.reduceAdd, Nat.reduceLeDiff, Nat.zero_add, true_and, nI_n0, nat_le, Nat.add_zero, i_1, rt_st_clear, x_aaload, x_al0, x_alen, x_call, x_getf, x_goto, x_icge, x_il1, x_inc1, x_is1, x_ldc, x_putf, x_vret, nI_add]
  rw [b_st_clear_22]
  simp -implicitDefEqProofs (disch := first | assumption | omega | decide +kernel) only [szS_0, szS_i, szS_r, szS_l, x_cons, x_goto, ob_some, kl_i, kl_r, kl_l, kl_n, push_n, push_s, pop_0, pop_i, pop_r, Int.reduceToNat, List.length_cons, List.length_nil, Nat.reduceAdd, Nat.reduceLeDiff, Nat.zero_add, true_and, nI_n0, nat_le, Nat.add_zero, i_1, rt_st_clear, x_aaload, x_al0, x_alen, x_call, x_getf, x_goto, x_icge, x_il1, x_inc1, x_is1, x_ldc, x_putf, x_vret, ce_getR 9, al, nI_ltE, Nat.reduceLT, ↓reduceIte, rl _ 3 13 rfl]
  refine cc_fill (a := 13) (n := 16) rfl (by decide) (by decide) fun r3 h3 => ?_
  simp -implicitDefEqProofs (disch := first | assumption | omega) only [szS_0, szS_i, szS_r, szS_l, x_cons, x_goto, ob_some, kl_i, kl_r, kl_l, kl_n, push_n, push_s, pop_0, pop_i, pop_r, Int.reduceToNat, List.length_cons, List.length_nil, Nat.reduceAdd, Nat.reduceLeDiff, Nat.zero_add, true_and, nI_n0, nat_le, Nat.add_zero, i_1, rt_st_clear, x_aaload, x_al0, x_alen, x_call, x_getf, x_goto, x_icge, x_il1, x_inc1, x_is1, x_ldc, x_putf, x_vret, nI_add]
  rw [b_st_clear_22]
  simp -implicitDefEqProofs (disch := first | assumption | omega | decide +kernel) only [szS_0, szS_i, szS_r, szS_l, x_cons, x_goto, ob_some, kl_i, kl_r, kl_l, kl_n, push_n, push_s, pop_0, pop_i, pop_r, Int.reduceToNat, List.length_cons, List.length_nil, Nat.reduceAdd, Nat.reduceLeDiff, Nat.zero_add, true_and, nI_n0, nat_le, Nat.add_zero, i_1, rt_st_clear, x_aaload, x_al0, x_alen, x_call, x_getf, x_goto, x_icge, x_il1, x_inc1, x_is1, x_ldc, x_putf, x_vret, ce_getR 9, al, nI_ltE, Nat.reduceLT, ↓reduceIte, rl _ 4 14 rfl]
  refine cc_fill (a := 14) (n := 16) rfl (by decide) (by decide) fun r4 h4 => ?_
  simp -implicitDefEqProofs (disch := first | assumption | omega) only [szS_0, szS_i, szS_r, szS_l, x_cons, x_goto, ob_some, kl_i, kl_r, kl_l, kl_n, push_n, push_s, pop_0, pop_i, pop_r, Int.reduceToNat, List.length_cons, List.length_nil, Nat.reduceAdd, Nat.reduceLeDiff, Nat.zero_add, true_and, nI_n0, nat_le, Nat.add_zero, i_1, rt_st_clear, x_aaload, x_al0, x_alen, x_call, x_getf, x_goto, x_icge, x_il1, x_inc1, x_is1, x_ldc, x_putf, x_vret, nI_add]
  rw [b_st_clear_22]
  simp -implicitDefEqProofs (disch := first | assumption | omega | decide +kernel) only [szS_0, szS_i, szS_r, szS_l, x_cons, x_goto, ob_some, kl_i, kl_r, kl_l, kl_n, push_n, push_s, pop_0, pop_i, pop_r, Int.reduceToNat, List.length_cons, List.length_nil, Nat.reduceAdd, Nat.reduceLeDiff, Nat.zero_add, true_and, nI_n0, nat_le, Nat.add_zero, i_1, rt_st_clear, x_aaload, x_al0, x_alen, x_call, x_getf, x_goto, x_icge, x_il1, x_inc1, x_is1, x_ldc, x_putf, x_vret, ce_getR 9, al, nI_ltE, Nat.reduceLT, ↓reduceIte, rl _ 5 15 rfl]
  refine cc_fill (a := 15) (n := 16) rfl (by decide) (by decide) fun r5 h5 => ?_
  simp -implicitDefEqProofs (disch := first | assumption | omega) only [szS_0, szS_i, szS_r, szS_l, x_cons, x_goto, ob_some, kl_i, kl_r, kl_l, kl_n, push_n, push_s, pop_0, pop_i, pop_r, Int.reduceToNat, List.length_cons, List.length_nil, Nat.reduceAdd, Nat.reduceLeDiff, Nat.zero_add, true_and, nI_n0, nat_le, Nat.add_zero, i_1, rt_st_clear, x_aaload, x_al0, x_alen, x_call, x_getf, x_goto, x_icge, x_il1, x_inc1, x_is1, x_ldc, x_putf, x_vret, nI_add]
  rw [b_st_clear_22]
  simp -implicitDefEqProofs (disch := first | assumption | omega | decide +kernel) only [szS_0, szS_i, szS_r, szS_l, x_cons, x_goto, ob_some, kl_i, kl_r, kl_l, kl_n, push_n, push_s, pop_0, pop_i, pop_r, Int.reduceToNat, List.length_cons, List.length_nil, Nat.reduceAdd, Nat.reduceLeDiff, Nat.zero_add, true_and, nI_n0, nat_le, Nat.add_zero, i_1, rt_st_clear, x_aaload, x_al0, x_alen, x_call, x_getf, x_goto, x_icge, x_il1, x_inc1, x_is1, x_ldc, x_putf, x_vret, ce_getR 9, al, nI_ltE, Nat.reduceLT, ↓reduceIte, rl _ 6 16 rfl]
  refine cc_fill (a := 16) (n := 16) rfl (by decide) (by decide) fun r6 h6 => ?_
  simp -implicitDefEqProofs (disch := first | assumption | omega) only [szS_0, szS_i, szS_r, szS_l, x_cons, x_goto, ob_some, kl_i, kl_r, kl_l, kl_n, push_n, push_s, pop_0, pop_i, pop_r, Int.reduceToNat, List.length_cons, List.length_nil, Nat.reduceAdd, Nat.reduceLeDiff, Nat.zero_add, true_and, nI_n0, nat_le, Nat.add_zero, i_1, rt_st_clear, x_aaload, x_al0, x_alen, x_call, x_getf, x_goto, x_icge, x_il1, x_inc1, x_is1, x_ldc, x_putf, x_vret, nI_add]
  rw [b_st_clear_22]
  simp -implicitDefEqProofs (disch := first | assumption | omega | decide +kernel) only [szS_0, szS_i, szS_r, szS_l, x_cons, x_goto, ob_some, kl_i, kl_r, kl_l, kl_n, push_n, push_s, pop_0, pop_i, pop_r, Int.reduceToNat, List.length_cons, List.length_nil, Nat.reduceAdd, Nat.reduceLeDiff, Nat.zero_add, true_and, nI_n0, nat_le, Nat.add_zero, i_1, rt_st_clear, x_aaload, x_al0, x_alen, x_call, x_getf, x_goto, x_icge, x_il1, x_inc1, x_is1, x_ldc, x_putf, x_vret, ce_getR 9, al, nI_ltE, Nat.reduceLT, ↓reduceIte, rl _ 7 17 rfl]
  refine cc_fill (a := 17) (n := 16) rfl (by decide) (by decide) fun r7 h7 => ?_
  simp -implicitDefEqProofs (disch := first | assumption | omega) only [szS_0, szS_i, szS_r, szS_l, x_cons, x_goto, ob_some, kl_i, kl_r, kl_l, kl_n, push_n, push_s, pop_0, pop_i, pop_r, Int.reduceToNat, List.length_cons, List.length_nil, Nat.reduceAdd, Nat.reduceLeDiff, Nat.zero_add, true_and, nI_n0, nat_le, Nat.add_zero, i_1, rt_st_clear, x_aaload, x_al0, x_alen, x_call, x_getf, x_goto, x_icge, x_il1, x_inc1, x_is1, x_ldc, x_putf, x_vret, nI_add]
  rw [b_st_clear_22]
  simp -implicitDefEqProofs (disch := first | assumption | omega | decide +kernel) only [szS_0, szS_i, szS_r, szS_l, x_cons, x_goto, ob_some, kl_i, kl_r, kl_l, kl_n, push_n, push_s, pop_0, pop_i, pop_r, Int.reduceToNat, List.length_cons, List.length_nil, Nat.reduceAdd, Nat.reduceLeDiff, Nat.zero_add, true_and, nI_n0, nat_le, Nat.add_zero, i_1, rt_st_clear, x_aaload, x_al0, x_alen, x_call, x_getf, x_goto, x_icge, x_il1, x_inc1, x_is1, x_ldc, x_putf, x_vret, ce_getR 9, al, nI_ltE, Nat.lt_irrefl, ↓reduceIte, b_st_clear_47, ce_getR 18]
  refine cc_fill (a := 18) (n := 16) rfl (by decide) (by decide) fun r8 h8 => ?_
  simp -implicitDefEqProofs (disch := first | assumption | omega | decide +kernel) only [szS_0, szS_i, szS_r, szS_l, x_cons, x_goto, ob_some, kl_i, kl_r, kl_l, kl_n, push_n, push_s, pop_0, pop_i, pop_r, Int.reduceToNat, List.length_cons, List.length_nil, Nat.reduceAdd, Nat.reduceLeDiff, Nat.zero_add, true_and, nI_n0, nat_le, Nat.add_zero, i_1, rt_st_clear, x_aaload, x_al0, x_alen, x_call, x_getf, x_goto, x_icge, x_il1, x_inc1, x_is1, x_ldc, x_putf, x_vret, ce_getR 19]
  refine cc_fill (a := 19) (n := 16) rfl (by decide) (by decide) fun r9 h9 => ?_
  simp -implicitDefEqProofs (disch := first | assumption | omega | decide +kernel) only [szS_0, szS_i, szS_r, szS_l, x_cons, x_goto, ob_some, kl_i, kl_r, kl_l, kl_n, push_n, push_s, pop_0, pop_i, pop_r, Int.reduceToNat, List.length_cons, List.length_nil, Nat.reduceAdd, Nat.reduceLeDiff, Nat.zero_add, true_and, nI_n0, nat_le, Nat.add_zero, i_1, rt_st_clear, x_aaload, x_al0, x_alen, x_call, x_getf, x_goto, x_icge, x_il1, x_inc1, x_is1, x_ldc, x_putf, x_vret, ce_getR 20]
  refine cc_fill (a := 20) (n := 48) rfl (by decide) (by decide) fun r10 h10 => ?_
  simp -implicitDefEqProofs (disch := first | assumption | omega | decide +kernel) only [szS_0, szS_i, szS_r, szS_l, x_cons, x_goto, ob_some, kl_i, kl_r, kl_l, kl_n, push_n, push_s, pop_0, pop_i, pop_r, Int.reduceToNat, List.length_cons, List.length_nil, Nat.reduceAdd, Nat.reduceLeDiff, Nat.zero_add, true_and, nI_n0, nat_le, Nat.add_zero, i_1, rt_st_clear, x_aaload, x_al0, x_alen, x_call, x_getf, x_goto, x_icge, x_il1, x_inc1, x_is1, x_ldc, x_putf, x_vret, ce_getR 21]
  refine cc_fill (a := 21) (n := 256) rfl (by decide) (by decide) fun r11 h11 => ?_
  simp -implicitDefEqProofs (disch := first | assumption | omega | decide +kernel) only [szS_0, szS_i, szS_r, szS_l, x_cons, x_goto, ob_some, kl_i, kl_r, kl_l, kl_n, push_n, push_s, pop_0, pop_i, pop_r, Int.reduceToNat, List.length_cons, List.length_nil, Nat.reduceAdd, Nat.reduceLeDiff, Nat.zero_add, true_and, nI_n0, nat_le, Nat.add_zero, i_1, rt_st_clear, x_aaload, x_al0, x_alen, x_call, x_getf, x_goto, x_icge, x_il1, x_inc1, x_is1, x_ldc, x_putf, x_vret]
  refine H _ (fun b hb => by rw [upw_o (by omega), upw_o (by omega), upw_o (by omega), upw_o (by omega), upw_o (by omega), upw_o (by omega), upw_o (by omega), upw_o (by omega), upw_o (by omega), upw_o (by omega), upw_o (by omega), upw_o (by omega), upw_o (by omega)]) ⟨?_, ?_, ?_, ?_, ?_⟩ (fun k hk => ⟨?_, ?_, ?_, ?_, ?_, ?_, ?_, ?_⟩) (fun k hk => ⟨?_, ?_⟩) (fun k hk => ?_) fun k hk => ?_
  · rw [upw_o (by decide), upw_o (by decide), upw_o (by decide), upw_o (by decide), upw_o (by decide), upw_o (by decide), upw_o (by decide), upw_o (by decide), upw_o (by decide), upw_o (by decide), upw_o (by decide), upw_o (by decide), upw_s, pu_n (by decide), pu_n (by decide), pu_n (by decide), pu_s]
  · rw [upw_o (by decide), upw_o (by decide), upw_o (by decide), upw_o (by decide), upw_o (by decide), upw_o (by decide), upw_o (by decide), upw_o (by decide), upw_o (by decide), upw_o (by decide), upw_o (by decide), upw_o (by decide), upw_s, pu_n (by decide), pu_n (by decide), pu_s]
  · rw [upw_o (by decide), upw_o (by decide), upw_o (by decide), upw_o (by decide), upw_o (by decide), upw_o (by decide), upw_o (by decide), upw_o (by decide), upw_o (by decide), upw_o (by decide), upw_o (by decide), upw_o (by decide), upw_s, pu_n (by decide), pu_s]
  · rw [upw_o (by decide), upw_o (by decide), upw_o (by decide), upw_o (by decide), upw_o (by decide), upw_o (by decide), upw_o (by decide), upw_o (by decide), upw_o (by decide), upw_o (by decide), upw_o (by decide), upw_o (by decide), upw_s, pu_s]
  · rw [upw_o (by decide), upw_o (by decide), upw_o (by decide), upw_o (by decide), upw_o (by decide), upw_o (by decide), upw_o (by decide), upw_o (by decide), upw_o (by decide), upw_o (by decide), upw_o (by decide), upw_o (by decide), upw_s, pu_n (by decide), pu_n (by decide), pu_n (by decide), pu_n (by decide)]
  · rw [upw_o (by decide), upw_o (by decide), upw_o (by decide), upw_o (by decide), upw_o (by decide), upw_o (by decide), upw_o (by decide), upw_o (by decide), upw_o (by decide), upw_o (by decide), upw_o (by decide), upw_s, h0 k hk]
  · rw [upw_o (by decide), upw_o (by decide), upw_o (by decide), upw_o (by decide), upw_o (by decide), upw_o (by decide), upw_o (by decide), upw_o (by decide), upw_o (by decide), upw_o (by decide), upw_s, h1 k hk]
  · rw [upw_o (by decide), upw_o (by decide), upw_o (by decide), upw_o (by decide), upw_o (by decide), upw_o (by decide), upw_o (by decide), upw_o (by decide), upw_o (by decide), upw_s, h2 k hk]
  · rw [upw_o (by decide), upw_o (by decide), upw_o (by decide), upw_o (by decide), upw_o (by decide), upw_o (by decide), upw_o (by decide), upw_o (by decide), upw_s, h3 k hk]
  · rw [upw_o (by decide), upw_o (by decide), upw_o (by decide), upw_o (by decide), upw_o (by decide), upw_o (by decide), upw_o (by decide), upw_s, h4 k hk]
  · rw [upw_o (by decide), upw_o (by decide), upw_o (by decide), upw_o (by decide), upw_o (by decide), upw_o (by decide), upw_s, h5 k hk]
  · rw [upw_o (by decide), upw_o (by decide), upw_o (by decide), upw_o (by decide), upw_o (by decide), upw_s, h6 k hk]
  · rw [upw_o (by decide), upw_o (by decide), upw_o (by decide), upw_o (by decide), upw_s, h7 k hk]
  · rw [upw_o (by decide), upw_o (by decide), upw_o (by decide), upw_s, h8 k hk]
  · rw [upw_o (by decide), upw_o (by decide), upw_s, h9 k hk]
  · rw [upw_o (by decide), upw_s, h10 k hk]
  · rw [upw_s, h11 k hk]
/-- the object begins at sea -/
def BAS (g g' : Nat → Nat → Int32) : Prop := (∀ b, b < 2 ∨ 22 ≤ b → g' b = g b) ∧ g' 2 0 = nI 1 ∧ (g' 7 0 = nI 0 ∧ g' 7 1 = nI 0 ∧ g' 7 2 = nI 0 ∧ g' 7 4 = nI 0 ∧ g' 7 3 = g 7 3) ∧ (g' 8 0 = nI 100 ∧ ∀ k, k ≠ 0 → g' 8 k = g 8 k) ∧ (g' 3 0 = nI 2 ∧ ∀ k, 1 ≤ k → k < 16 → g' 3 k = nI 0) ∧ (∀ k, k < 16 → g' 4 k = nI 0) ∧ (∀ k, k < 48 → g' 5 k = nI 0) ∧ (g' 6 0 = nI 0 ∧ ∀ k, 1 ≤ k → k < 16 → g' 6 k = -1) ∧ (∀ k, k < 16 → g' 10 k = nI 0 ∧ g' 11 k = nI 0 ∧ g' 12 k = nI 0 ∧ g' 13 k = nI 0 ∧ g' 14 k = nI 0 ∧ g' 15 k = nI 0 ∧ g' 16 k = nI 0 ∧ g' 17 k = nI 0) ∧ ∀ k, k < 256 → g' 21 k = nI 0
theorem s_atSea (H : ∀ g', BAS g g' → P none (EC 196 200 g' q)) : callC (ev (d + 4)) to_beginAtSea [.ref 1] (EC 196 200 g q) P := by
  refine in_to_beginAtSea rfl ?_
  rw [b_to_beginAtSea_0]
  simp -implicitDefEqProofs (disch := first | assumption | omega) only [szS_0, szS_i, szS_r, szS_l, x_cons, x_goto, ob_some, kl_i, kl_r, kl_l, kl_n, push_n, push_s, pop_0, pop_i, pop_r, Int.reduceToNat, List.length_cons, List.length_nil, Nat.reduceAdd, Nat.reduceLeDiff, Nat.zero_add, true_and, nI_n0, nat_le, Nat.add_zero, rt_to_beginAtSea, x_al0, x_call, x_getf, x_iastore, x_ldc, x_putf, x_vret]
  refine in_to_clearDelta rfl ?_
  rw [b_to_clearDelta_0]
  simp -implicitDefEqProofs (disch := first | assumption | omega | decide +kernel) only [szS_0, szS_i, szS_r, szS_l, x_cons, x_goto, ob_some, kl_i, kl_r, kl_l, kl_n, push_n, push_s, pop_0, pop_i, pop_r, Int.reduceToNat, List.length_cons, List.length_nil, Nat.reduceAdd, Nat.reduceLeDiff, Nat.zero_add, true_and, nI_n0, nat_le, Nat.add_zero, rt_to_clearDelta, x_al0, x_call, x_getf, x_vret, ce_getR 2]
  refine cs_dclear (d := d) fun g1 a1 a2 a3 a4 => ?_
  simp -implicitDefEqProofs (disch := first | assumption | omega | decide +kernel) only [szS_0, szS_i, szS_r, szS_l, x_cons, x_goto, ob_some, kl_i, kl_r, kl_l, kl_n, push_n, push_s, pop_0, pop_i, pop_r, Int.reduceToNat, List.length_cons, List.length_nil, Nat.reduceAdd, Nat.reduceLeDiff, Nat.zero_add, true_and, nI_n0, nat_le, Nat.add_zero, rt_to_clearDelta, x_al0, x_call, x_getf, x_vret, ce_getR 7]
  refine cs_sclear (d := d) fun g2 b1 b2 b3 b4 b5 b6 => ?_
  have s3 : ∀ g k x, k < 16 → ist (EC 196 200 g q) 3 (nI k) x = some (EC 196 200 (up2 g 3 k x) q) := fun g k x h => ce_st (n := 16) rfl (by decide) h (by decide)
  have s8 : ∀ g k x, k < 4 → ist (EC 196 200 g q) 8 (nI k) x = some (EC 196 200 (up2 g 8 k x) q) := fun g k x h => ce_st (n := 4) rfl (by decide) h (by decide)
  have s6 : ∀ g k x, k < 256 → ist (EC 196 200 g q) 6 (nI k) x = some (EC 196 200 (up2 g 6 k x) q) := fun g k x h => ce_st (n := 256) rfl (by decide) h (by decide)
  have l4 : ∀ g k, k < 16 → ild (EC 196 200 g q) 4 (nI k) = some (.int (g 4 k)) := fun g k h => ce_ld (n := 16) rfl (by decide) h (by decide)
  obtain ⟨g3, hg3⟩ : ∃ g3, g3 = upw (upw g2 2 (pu (g2 2) 0 (nI 1))) 3 (pu (g2 3) 0 (nI 2)) := ⟨_, rfl⟩
  have o3 : ∀ b, b ≠ 2 → b ≠ 3 → g3 b = g2 b := fun b b2 b3 => by rw [hg3, upw_o b3, upw_o b2]
  simp -implicitDefEqProofs (disch := first | assumption | omega | decide +kernel) only [szS_0, szS_i, szS_r, szS_l, x_cons, x_goto, ob_some, kl_i, kl_r, kl_l, kl_n, push_n, push_s, pop_0, pop_i, pop_r, Int.reduceToNat, List.length_cons, List.length_nil, Nat.reduceAdd, Nat.reduceLeDiff, Nat.zero_add, true_and, nI_n0, nat_le, Nat.add_zero, rt_to_clearDelta, x_al0, x_call, x_getf, x_vret, szS_0, szS_i, szS_r, szS_l, x_cons, x_goto, ob_some, kl_i, kl_r, kl_l, kl_n, push_n, push_s, pop_0, pop_i, pop_r, Int.reduceToNat, List.length_cons, List.length_nil, Nat.reduceAdd, Nat.reduceLeDiff, Nat.zero_add, true_and, nI_n0, nat_le, Nat.add_zero, rt_to_beginAtSea, x_al0, x_call, x_getf, x_iastore, x_ldc, x_putf, x_vret, ce_getR 2, ce_getR 3, ce_putI, Nat.reduceMod, pu_g, s3, upw_o, upw_s]
  rw [← hg3]
  refine in_de_measure rfl ?_
  rw [b_de_measure_0]
  simp -implicitDefEqProofs (disch := first | assumption | omega | decide +kernel) only [szS_0, szS_i, szS_r, szS_l, x_cons, x_goto, ob_some, kl_i, kl_r, kl_l, kl_n, push_n, push_s, pop_0, pop_i, pop_r, Int.reduceToNat, List.length_cons, List.length_nil, Nat.reduceAdd, Nat.reduceLeDiff, Nat.zero_add, true_and, nI_n0, nat_le, Nat.add_zero, i_1, i_m1, rt_de_measure, x_al0, x_call, x_getf, x_goto, x_iadd, x_iaload, x_iastore, x_icge, x_iflt, x_il1, x_il2, x_imul, x_inc1, x_inc2, x_is1, x_is2, x_isub, x_ldc, x_m1, x_vret, ce_getR 6]
  refine cc_fill (a := 6) (n := 256) rfl (by decide) (by decide) fun r6 h6 => ?_
  have e2 : g3 2 0 = nI 1 := by rw [hg3, upw_o (by decide), upw_s, pu_s]
  have e4 : g3 4 0 = nI 0 := by rw [o3 4 (by decide) (by decide), b1 4 (by decide)]; exact (a3 0 (by decide)).2
  have z1 : nI 1 - nI 1 = nI 0 := by decide
  have z2 : (nI 0 < nI 0) = False := eq_false (by decide)
  have z3 : nI 0 + -1 = -1 := by decide
  have z4 : ((-1 : Int32) < nI 0) = True := eq_true (by decide)
  simp -implicitDefEqProofs (disch := first | assumption | omega | decide +kernel) only [szS_0, szS_i, szS_r, szS_l, x_cons, x_goto, ob_some, kl_i, kl_r, kl_l, kl_n, push_n, push_s, pop_0, pop_i, pop_r, Int.reduceToNat, List.length_cons, List.length_nil, Nat.reduceAdd, Nat.reduceLeDiff, Nat.zero_add, true_and, nI_n0, nat_le, Nat.add_zero, i_1, i_m1, rt_de_measure, x_al0, x_call, x_getf, x_goto, x_iadd, x_iaload, x_iastore, x_icge, x_iflt, x_il1, x_il2, x_imul, x_inc1, x_inc2, x_is1, x_is2, x_isub, x_ldc, x_m1, x_vret, ce_getI, Nat.reduceMod, upw_o, e2, z1]
  rw [b_de_measure_15]
  simp -implicitDefEqProofs (disch := first | assumption | omega | decide +kernel) only [szS_0, szS_i, szS_r, szS_l, x_cons, x_goto, ob_some, kl_i, kl_r, kl_l, kl_n, push_n, push_s, pop_0, pop_i, pop_r, Int.reduceToNat, List.length_cons, List.length_nil, Nat.reduceAdd, Nat.reduceLeDiff, Nat.zero_add, true_and, nI_n0, nat_le, Nat.add_zero, i_1, i_m1, rt_de_measure, x_al0, x_call, x_getf, x_goto, x_iadd, x_iaload, x_iastore, x_icge, x_iflt, x_il1, x_il2, x_imul, x_inc1, x_inc2, x_is1, x_is2, x_isub, x_ldc, x_m1, x_vret, z2, ↓reduceIte, ce_getR 6, nI_mul, nI_add, s6, pu_w]
  rw [b_de_measure_33]
  simp -implicitDefEqProofs (disch := first | assumption | omega | decide +kernel) only [szS_0, szS_i, szS_r, szS_l, x_cons, x_goto, ob_some, kl_i, kl_r, kl_l, kl_n, push_n, push_s, pop_0, pop_i, pop_r, Int.reduceToNat, List.length_cons, List.length_nil, Nat.reduceAdd, Nat.reduceLeDiff, Nat.zero_add, true_and, nI_n0, nat_le, Nat.add_zero, i_1, i_m1, rt_de_measure, x_al0, x_call, x_getf, x_goto, x_iadd, x_iaload, x_iastore, x_icge, x_iflt, x_il1, x_il2, x_imul, x_inc1, x_inc2, x_is1, x_is2, x_isub, x_ldc, x_m1, x_vret, ce_getR 4, l4, upw_o, e4, z2, ↓reduceIte, b_de_measure_64, z3]
  rw [b_de_measure_15]
  simp -implicitDefEqProofs (disch := first | assumption | omega | decide +kernel) only [szS_0, szS_i, szS_r, szS_l, x_cons, x_goto, ob_some, kl_i, kl_r, kl_l, kl_n, push_n, push_s, pop_0, pop_i, pop_r, Int.reduceToNat, List.length_cons, List.length_nil, Nat.reduceAdd, Nat.reduceLeDiff, Nat.zero_add, true_and, nI_n0, nat_le, Nat.add_zero, i_1, i_m1, rt_de_measure, x_al0, x_call, x_getf, x_goto, x_iadd, x_iaload, x_iastore, x_icge, x_iflt, x_il1, x_il2, x_imul, x_inc1, x_inc2, x_is1, x_is2, x_isub, x_ldc, x_m1, x_vret, z4, ↓reduceIte, b_de_measure_70]
  simp -implicitDefEqProofs (disch := first | assumption | omega | decide +kernel) only [szS_0, szS_i, szS_r, szS_l, x_cons, x_goto, ob_some, kl_i, kl_r, kl_l, kl_n, push_n, push_s, pop_0, pop_i, pop_r, Int.reduceToNat, List.length_cons, List.length_nil, Nat.reduceAdd, Nat.reduceLeDiff, Nat.zero_add, true_and, nI_n0, nat_le, Nat.add_zero, rt_to_beginAtSea, x_al0, x_call, x_getf, x_iastore, x_ldc, x_putf, x_vret, ce_getR 7, ce_getR 8, s8, pu_g, upw_o]
  have q1 : ∀ b, b < 2 ∨ 22 ≤ b → g3 b = g b := fun b hb => by rw [o3 b (by omega) (by omega), b1 b (by omega), a1 b (by omega)]
  refine H _ ⟨fun b hb => by rw [upw_o (by omega), upw_o (by omega)]; exact q1 b hb, ?_, ⟨?_, ?_, ?_, ?_, ?_⟩, ⟨?_, fun k hk => ?_⟩, ⟨?_, fun k hk1 hk2 => ?_⟩, fun k hk => ?_, fun k hk => ?_, ⟨?_, fun k hk1 hk2 => ?_⟩, fun k hk => ?_, fun k hk => ?_⟩
  · rw [upw_o (by decide), upw_o (by decide)]; exact e2
  · rw [upw_o (by decide), upw_o (by decide), o3 7 (by decide) (by decide)]; exact b2.1
  · rw [upw_o (by decide), upw_o (by decide), o3 7 (by decide) (by decide)]; exact b2.2.1
  · rw [upw_o (by decide), upw_o (by decide), o3 7 (by decide) (by decide)]; exact b2.2.2.1
  · rw [upw_o (by decide), upw_o (by decide), o3 7 (by decide) (by decide)]; exact b2.2.2.2.1
  · rw [upw_o (by decide), upw_o (by decide), o3 7 (by decide) (by decide), b2.2.2.2.2, a1 7 (by decide)]
  · rw [upw_s, pu_s]
  · rw [upw_s, pu_n hk, o3 8 (by decide) (by decide), b1 8 (by decide), a1 8 (by decide)]
  · rw [upw_o (by decide), upw_o (by decide), hg3, upw_s, pu_s]
  · rw [upw_o (by decide), upw_o (by decide), hg3, upw_s, pu_n (by omega), b1 3 (by decide)]; exact (a3 k hk2).1
  · rw [upw_o (by decide), upw_o (by decide), o3 4 (by decide) (by decide), b1 4 (by decide)]; exact (a3 k hk).2
  · rw [upw_o (by decide), upw_o (by decide), o3 5 (by decide) (by decide), b1 5 (by decide)]; exact a4 k hk
  · rw [upw_o (by decide), upw_s, pu_s]
  · rw [upw_o (by decide), upw_s, pu_n (by omega)]; exact h6 k (by omega)
  · rw [upw_o (by decide), upw_o (by decide), upw_o (by decide), upw_o (by decide), upw_o (by decide), upw_o (by decide), upw_o (by decide), upw_o (by decide), upw_o (by decide), upw_o (by decide), upw_o (by decide), upw_o (by decide), upw_o (by decide), upw_o (by decide), upw_o (by decide), upw_o (by decide)]
    rw [o3 10 (by decide) (by decide), o3 11 (by decide) (by decide), o3 12 (by decide) (by decide), o3 13 (by decide) (by decide), o3 14 (by decide) (by decide), o3 15 (by decide) (by decide), o3 16 (by decide) (by decide), o3 17 (by decide) (by decide)]
    exact b3 k hk
  · rw [upw_o (by decide), upw_o (by decide), o3 21 (by decide) (by decide)]; exact b6 k hk
/-- the class's object -/
theorem s_vinit (H : ∀ g', BAS (up2 (up2 g 168 3 (-1)) 0 9 (nI 0)) g' → P none (EC 196 200 g' q)) : callC (ev (d + 5)) vr_init [.ref 0] (EC 1 0 g q) P := by
  refine in_vr_init rfl ?_
  rw [b_vr_init_0]
  simp -implicitDefEqProofs (disch := first | assumption | omega | decide +kernel) only [szS_0, szS_i, szS_r, szS_l, x_cons, x_goto, ob_some, kl_i, kl_r, kl_l, kl_n, push_n, push_s, pop_0, pop_i, pop_r, Int.reduceToNat, List.length_cons, List.length_nil, Nat.reduceAdd, Nat.reduceLeDiff, Nat.zero_add, true_and, nI_n0, nat_le, Nat.add_zero, rt_vr_init, x_al0, x_call, x_dupi, x_dupr, x_getf, x_ldc, x_putf, x_vret, c_oi, ce_new, i_to_init_1, i_to_init_31, i_to_init_61, i_ps_init_91, i_re_init_168, i_pa_init_173, i_ri_init_174, i_th_init_182, i_co_init_184, ce_putR mc_vr, ce_getR 168, ce_getR 174, ce_getR 61, ce_getR 1, ce_putI, Nat.reduceMod]
  refine s_atSea fun g1 h1 => ?_
  simp -implicitDefEqProofs (disch := first | assumption | omega) only [szS_0, szS_i, szS_r, szS_l, x_cons, x_goto, ob_some, kl_i, kl_r, kl_l, kl_n, push_n, push_s, pop_0, pop_i, pop_r, Int.reduceToNat, List.length_cons, List.length_nil, Nat.reduceAdd, Nat.reduceLeDiff, Nat.zero_add, true_and, nI_n0, nat_le, Nat.add_zero, rt_vr_init, x_al0, x_call, x_dupi, x_dupr, x_getf, x_ldc, x_putf, x_vret]
  exact H g1 h1
def vSea : Nat → Nat := fun f => if f = 0 then 2 else 0
theorem dlK_sea : dlK [vSea] := by
  refine ⟨by decide, by decide, ⟨0, ⟨⟨⟨by decide, fun a ha => absurd ha (Nat.not_lt_zero a), fun a _ ha => ?_, by decide, by decide, Or.inl rfl⟩, by decide, fun h => absurd h (by decide), fun h => absurd h (by decide), fun _ => rfl, by decide, by decide, fun _ => ⟨rfl, rfl⟩⟩, rfl⟩⟩, fun v hv a ha => ?_⟩
  · show (if 2 + a = 0 then 2 else 0) = 0
    rw [if_neg (by omega)]
  · rw [List.mem_singleton.mp hv] at ha
    exact absurd ha (Nat.not_lt_zero a)
/-- the reference's object -/
theorem s_minit (h3 : ∀ k, k < 8 → g 203 k = nI 0) (H : ∀ g', (∀ b, b < 196 ∨ 204 ≤ b ∨ b = 198 → g' b = g b) → g' 197 = dlR (pu (g 197) 6 (nI 100)) [vSea] → g' 196 4 = nI 0 → (∀ k, k ≠ 4 → k ≠ 15 → k ≠ 26 → g' 196 k = g 196 k) → g' 196 26 = -1 → P none (E g' q)) : callC (ev (d + 4)) mo_init [.ref 196] (EC 197 200 g q) P := by
  refine in_mo_init rfl ?_
  have s97 : ∀ g k x, k < 2955 → ist (EC 220 223 g q) 197 (nI k) x = some (EC 220 223 (up2 g 197 k x) q) := fun g k x h => ce_st (n := 2955) rfl (by decide) h (by decide)
  have s203 : ∀ g k x, k < 128 → ist (EC 220 223 g q) 203 (nI k) x = some (EC 220 223 (up2 g 203 k x) q) := fun g k x h => ce_st (n := 128) rfl (by decide) h (by decide)
  rw [b_mo_init_0]
  simp -implicitDefEqProofs (disch := first | assumption | omega | decide +kernel) only [szS_0, szS_i, szS_r, szS_l, x_cons, x_goto, ob_some, kl_i, kl_r, kl_l, kl_n, push_n, push_s, pop_0, pop_i, pop_r, Int.reduceToNat, List.length_cons, List.length_nil, Nat.reduceAdd, Nat.reduceLeDiff, Nat.zero_add, true_and, nI_n0, nat_le, Nat.add_zero, rt_mo_init, x_al0, x_call, x_getf, x_iastore, x_ldc, x_m1, x_putf, x_vret, c_oi, ce_arr, ce_putR mc_mo, ce_putI, Nat.reduceMod, ce_getR 197, ce_getR 203, s97, s203]
  rw [EC_E]
  obtain ⟨g1, hg1⟩ : ∃ g1, g1 = up2 (up2 (up2 (up2 g 196 26 (-1)) 197 6 (nI 100)) 196 15 (nI 1)) 203 0 (nI 2) := ⟨_, rfl⟩
  rw [← hg1]
  have e97 : g1 197 = pu (g 197) 6 (nI 100) := by
    rw [hg1]
    funext k
    rw [up2_o (by decide), up2_o (by decide)]
    unfold pu
    by_cases h : k = 6
    · rw [h, up2_s, if_pos rfl]
    · rw [up2_n h, up2_o (by decide), if_neg h]
  have e15 : g1 196 15 = nI 1 := by rw [hg1, up2_o (by decide), up2_s]
  refine s_putsDelta (d := d + 1) (L := [vSea]) (by decide) e97 e15 ⟨fun f hf => ?_, trivial⟩ ?_
  · rw [hg1]
    by_cases f0 : f = 0
    · rw [f0, show 8 * 0 + 0 = 0 from rfl, up2_s]
      rfl
    · rw [show 8 * 0 + f = f by omega, up2_n f0, up2_o (by decide), up2_o (by decide), up2_o (by decide), h3 f (by omega)]
      unfold vSea
      rw [if_neg f0]
  · simp -implicitDefEqProofs (disch := first | assumption | omega) only [szS_0, szS_i, szS_r, szS_l, x_cons, x_goto, ob_some, kl_i, kl_r, kl_l, kl_n, push_n, push_s, pop_0, pop_i, pop_r, Int.reduceToNat, List.length_cons, List.length_nil, Nat.reduceAdd, Nat.reduceLeDiff, Nat.zero_add, true_and, nI_n0, nat_le, Nat.add_zero, rt_mo_init, x_al0, x_call, x_getf, x_iastore, x_ldc, x_m1, x_putf, x_vret]
    refine H _ (fun b hb => ?_) ?_ ?_ (fun k k1 k2 k3 => ?_) ?_
    · rw [upw_o (by omega), upw_o (by omega), hg1, up2_o (by omega), up2_o (by omega), up2_o (by omega), up2_o (by omega)]
    · rw [upw_o (by decide), upw_s]
    · rw [upw_s, pu_s]
    · rw [upw_s, pu_n k1, hg1, up2_o (by decide), up2_n k2, up2_o (by decide), up2_n k3]
    · rw [upw_s, pu_n (by decide), hg1, up2_o (by decide), up2_n (by decide), up2_o (by decide), up2_s]
end MK
