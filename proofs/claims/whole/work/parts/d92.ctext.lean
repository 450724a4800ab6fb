/-! a text, told to the class -/
section CTX
variable {d : Nat} {g : Nat → Nat → Int32} {q : Nat → Nat → Int64} {P : QT}
/-- the spare one's nodes and their state are cleared -/
def CLR (g g' : Nat → Nat → Int32) : Prop := (∀ b, b < 62 ∨ 82 ≤ b ∨ b = 68 ∨ b = 69 → g' b = g b) ∧ g' 62 0 = nI 0 ∧ (g' 67 0 = nI 0 ∧ g' 67 1 = nI 0 ∧ g' 67 2 = nI 0 ∧ g' 67 4 = nI 0 ∧ g' 67 3 = g 67 3) ∧ (∀ k, k < 16 → g' 63 k = nI 0 ∧ g' 64 k = nI 0) ∧ (∀ k, k < 48 → g' 65 k = nI 0) ∧ (∀ k, k < 16 → g' 70 k = nI 0 ∧ g' 71 k = nI 0 ∧ g' 72 k = nI 0 ∧ g' 73 k = nI 0 ∧ g' 74 k = nI 0 ∧ g' 75 k = nI 0 ∧ g' 76 k = nI 0 ∧ g' 77 k = nI 0) ∧ (∀ k, k < 16 → g' 78 k = nI 0 ∧ g' 79 k = nI 0) ∧ (∀ k, k < 48 → g' 80 k = nI 0) ∧ ∀ k, k < 256 → g' 81 k = nI 0
theorem s_dclear (H : ∀ g', (∀ b, b < 62 ∨ 67 ≤ b → g' b = g b) → g' 62 0 = nI 0 → (∀ k, k < 16 → g' 63 k = nI 0 ∧ g' 64 k = nI 0) → (∀ k, k < 48 → g' 65 k = nI 0) → P none (E g' q)) : callC (ev (d + 2)) de_clear [.ref 62] (E g q) P := by
  refine in_de_clear rfl ?_
  rw [b_de_clear_0]
  simp -implicitDefEqProofs (disch := first | assumption | omega) only [szS_0, szS_i, szS_r, szS_l, x_cons, x_goto, ob_some, kl_i, kl_r, kl_l, kl_n, push_n, push_s, pop_0, pop_i, pop_r, Int.reduceToNat, List.length_cons, List.length_nil, Nat.reduceAdd, Nat.reduceLeDiff, Nat.zero_add, true_and, nI_n0, nat_le, Nat.add_zero, rt_de_clear, x_al0, x_call, x_getf, x_ldc, x_m1, x_putf, x_vret, fd_62_0, sf_62_0, fd_62_1, fd_62_2, fd_62_3, fd_62_4, pu_g]
  refine s_fill (a := 63) (n := 16) rfl (by decide) (by decide) fun r1 h1 => ?_
  simp -implicitDefEqProofs (disch := first | assumption | omega) only [szS_0, szS_i, szS_r, szS_l, x_cons, x_goto, ob_some, kl_i, kl_r, kl_l, kl_n, push_n, push_s, pop_0, pop_i, pop_r, Int.reduceToNat, List.length_cons, List.length_nil, Nat.reduceAdd, Nat.reduceLeDiff, Nat.zero_add, true_and, nI_n0, nat_le, Nat.add_zero, rt_de_clear, x_al0, x_call, x_getf, x_ldc, x_m1, x_putf, x_vret, fd_62_0, sf_62_0, fd_62_1, fd_62_2, fd_62_3, fd_62_4]
  refine s_fill (a := 64) (n := 16) rfl (by decide) (by decide) fun r2 h2 => ?_
  simp -implicitDefEqProofs (disch := first | assumption | omega) only [szS_0, szS_i, szS_r, szS_l, x_cons, x_goto, ob_some, kl_i, kl_r, kl_l, kl_n, push_n, push_s, pop_0, pop_i, pop_r, Int.reduceToNat, List.length_cons, List.length_nil, Nat.reduceAdd, Nat.reduceLeDiff, Nat.zero_add, true_and, nI_n0, nat_le, Nat.add_zero, rt_de_clear, x_al0, x_call, x_getf, x_ldc, x_m1, x_putf, x_vret, fd_62_0, sf_62_0, fd_62_1, fd_62_2, fd_62_3, fd_62_4]
  refine s_fill (a := 65) (n := 48) rfl (by decide) (by decide) fun r3 h3 => ?_
  simp -implicitDefEqProofs (disch := first | assumption | omega) only [szS_0, szS_i, szS_r, szS_l, x_cons, x_goto, ob_some, kl_i, kl_r, kl_l, kl_n, push_n, push_s, pop_0, pop_i, pop_r, Int.reduceToNat, List.length_cons, List.length_nil, Nat.reduceAdd, Nat.reduceLeDiff, Nat.zero_add, true_and, nI_n0, nat_le, Nat.add_zero, rt_de_clear, x_al0, x_call, x_getf, x_ldc, x_m1, x_putf, x_vret, fd_62_0, sf_62_0, fd_62_1, fd_62_2, fd_62_3, fd_62_4]
  refine s_fill (a := 66) (n := 256) rfl (by decide) (by decide) fun r4 h4 => ?_
  simp -implicitDefEqProofs (disch := first | assumption | omega) only [szS_0, szS_i, szS_r, szS_l, x_cons, x_goto, ob_some, kl_i, kl_r, kl_l, kl_n, push_n, push_s, pop_0, pop_i, pop_r, Int.reduceToNat, List.length_cons, List.length_nil, Nat.reduceAdd, Nat.reduceLeDiff, Nat.zero_add, true_and, nI_n0, nat_le, Nat.add_zero, rt_de_clear, x_al0, x_call, x_getf, x_ldc, x_m1, x_putf, x_vret]
  refine H _ (fun b hb => by rw [upw_o (by omega), upw_o (by omega), upw_o (by omega), upw_o (by omega), upw_o (by omega)]) ?_ (fun k hk => ⟨?_, ?_⟩) fun k hk => ?_
  · rw [upw_o (by decide), upw_o (by decide), upw_o (by decide), upw_o (by decide), upw_s, pu_s]
  · rw [upw_o (by decide), upw_o (by decide), upw_o (by decide), upw_s, h1 k hk]
  · rw [upw_o (by decide), upw_o (by decide), upw_s, h2 k hk]
  · rw [upw_o (by decide), upw_s, h3 k hk]
theorem s_sclear (H : ∀ g', (∀ b, b < 67 ∨ 82 ≤ b ∨ b = 68 ∨ b = 69 → g' b = g b) → (g' 67 0 = nI 0 ∧ g' 67 1 = nI 0 ∧ g' 67 2 = nI 0 ∧ g' 67 4 = nI 0 ∧ g' 67 3 = g 67 3) → (∀ k, k < 16 → g' 70 k = nI 0 ∧ g' 71 k = nI 0 ∧ g' 72 k = nI 0 ∧ g' 73 k = nI 0 ∧ g' 74 k = nI 0 ∧ g' 75 k = nI 0 ∧ g' 76 k = nI 0 ∧ g' 77 k = nI 0) → (∀ k, k < 16 → g' 78 k = nI 0 ∧ g' 79 k = nI 0) → (∀ k, k < 48 → g' 80 k = nI 0) → (∀ k, k < 256 → g' 81 k = nI 0) → P none (E g' q)) : callC (ev (d + 2)) st_clear [.ref 67] (E g q) P := by
  refine in_st_clear rfl ?_
  have al : ∀ g, aln (E g q) 69 = some 8 := fun g => by
    unfold aln
    rw [show kd 69 = (3, 8) from rfl, if_pos (by decide), if_pos (show 69 < nxt (E g q) from (by decide : 69 < 220))]
  rw [b_st_clear_0]
  simp -implicitDefEqProofs (disch := first | assumption | omega) only [szS_0, szS_i, szS_r, szS_l, x_cons, x_goto, ob_some, kl_i, kl_r, kl_l, kl_n, push_n, push_s, pop_0, pop_i, pop_r, Int.reduceToNat, List.length_cons, List.length_nil, Nat.reduceAdd, Nat.reduceLeDiff, Nat.zero_add, true_and, nI_n0, nat_le, Nat.add_zero, i_1, rt_st_clear, x_aaload, x_al0, x_alen, x_call, x_getf, x_goto, x_icge, x_il1, x_inc1, x_is1, x_ldc, x_putf, x_vret, fd_67_0, sf_67_0, fd_67_1, sf_67_1, fd_67_2, sf_67_2, fd_67_3, sf_67_3, fd_67_4, sf_67_4, fd_67_5, fd_67_6, fd_67_7, fd_67_8, fd_67_9, fd_67_10, pu_g, pu_w, upw_s, upw_w]
  rw [b_st_clear_22]
  simp -implicitDefEqProofs (disch := first | assumption | omega) only [szS_0, szS_i, szS_r, szS_l, x_cons, x_goto, ob_some, kl_i, kl_r, kl_l, kl_n, push_n, push_s, pop_0, pop_i, pop_r, Int.reduceToNat, List.length_cons, List.length_nil, Nat.reduceAdd, Nat.reduceLeDiff, Nat.zero_add, true_and, nI_n0, nat_le, Nat.add_zero, i_1, rt_st_clear, x_aaload, x_al0, x_alen, x_call, x_getf, x_goto, x_icge, x_il1, x_inc1, x_is1, x_ldc, x_putf, x_vret, fd_67_0, sf_67_0, fd_67_1, sf_67_1, fd_67_2, sf_67_2, fd_67_3, sf_67_3, fd_67_4, sf_67_4, fd_67_5, fd_67_6, fd_67_7, fd_67_8, fd_67_9, fd_67_10, al, nI_ltE, Nat.reduceLT, ↓reduceIte, ld_69_0, ld_69_1, ld_69_2, ld_69_3, ld_69_4, ld_69_5, ld_69_6, ld_69_7]
  refine s_fill (a := 70) (n := 16) rfl (by decide) (by decide) fun r0 h0 => ?_
  simp -implicitDefEqProofs (disch := first | assumption | omega) only [szS_0, szS_i, szS_r, szS_l, x_cons, x_goto, ob_some, kl_i, kl_r, kl_l, kl_n, push_n, push_s, pop_0, pop_i, pop_r, Int.reduceToNat, List.length_cons, List.length_nil, Nat.reduceAdd, Nat.reduceLeDiff, Nat.zero_add, true_and, nI_n0, nat_le, Nat.add_zero, i_1, rt_st_clear, x_aaload, x_al0, x_alen, x_call, x_getf, x_goto, x_icge, x_il1, x_inc1, x_is1, x_ldc, x_putf, x_vret, nI_add]
  rw [b_st_clear_22]
  simp -implicitDefEqProofs (disch := first | assumption | omega) only [szS_0, szS_i, szS_r, szS_l, x_cons, x_goto, ob_some, kl_i, kl_r, kl_l, kl_n, push_n, push_s, pop_0, pop_i, pop_r, Int.reduceToNat, List.length_cons, List.length_nil, Nat.reduceAdd, Nat.reduceLeDiff, Nat.zero_add, true_and, nI_n0, nat_le, Nat.add_zero, i_1, rt_st_clear, x_aaload, x_al0, x_alen, x_call, x_getf, x_goto, x_icge, x_il1, x_inc1, x_is1, x_ldc, x_putf, x_vret, fd_67_0, sf_67_0, fd_67_1, sf_67_1, fd_67_2, sf_67_2, fd_67_3, sf_67_3, fd_67_4, sf_67_4, fd_67_5, fd_67_6, fd_67_7, fd_67_8, fd_67_9, fd_67_10, al, nI_ltE, Nat.reduceLT, ↓reduceIte, ld_69_0, ld_69_1, ld_69_2, ld_69_3, ld_69_4, ld_69_5, ld_69_6, ld_69_7]
  refine s_fill (a := 71) (n := 16) rfl (by decide) (by decide) fun r1 h1 => ?_
  simp -implicitDefEqProofs (disch := first | assumption | omega) only [szS_0, szS_i, szS_r, szS_l, x_cons, x_goto, ob_some, kl_i, kl_r, kl_l, kl_n, push_n, push_s, pop_0, pop_i, pop_r, Int.reduceToNat, List.length_cons, List.length_nil, Nat.reduceAdd, Nat.reduceLeDiff, Nat.zero_add, true_and, nI_n0, nat_le, Nat.add_zero, i_1, rt_st_clear, x_aaload, x_al0, x_alen, x_call, x_getf, x_goto, x_icge, x_il1, x_inc1, x_is1, x_ldc, x_putf, x_vret, nI_add]
  rw [b_st_clear_22]
  simp -implicitDefEqProofs (disch := first | assumption | omega) only [szS_0, szS_i, szS_r, szS_l, x_cons, x_goto, ob_some, kl_i, kl_r, kl_l, kl_n, push_n, push_s, pop_0, pop_i, pop_r, Int.reduceToNat, List.length_cons, List.length_nil, Nat.reduceAdd, Nat.reduceLeDiff, Nat.zero_add, true_and, nI_n0, nat_le, Nat.add_zero, i_1, rt_st_clear, x_aaload, x_al0, x_alen, x_call, x_getf, x_goto, x_icge, x_il1, x_inc1, x_is1, x_ldc, x_putf, x_vret, fd_67_0, sf_67_0, fd_67_1, sf_67_1, fd_67_2, sf_67_2, fd_67_3, sf_67_3, fd_67_4, sf_67_4, fd_67_5, fd_67_6, fd_67_7, fd_67_8, fd_67_9, fd_67_10, al, nI_ltE, Nat.reduceLT, ↓reduceIte, ld_69_0, ld_69_1, ld_69_2, ld_69_3, ld_69_4, ld_69_5, ld_69_6, ld_69_7]
  refine s_fill (a := 72) (n := 16) rfl (by decide) (by decide) fun r2 h2 => ?_
  simp -implicitDefEqProofs (disch := first | assumption | omega) only [szS_0, szS_i, szS_r, szS_l, x_cons, x_goto, ob_some, kl_i, kl_r, kl_l, kl_n, push_n, push_s, pop_0, pop_i, pop_r, Int.reduceToNat, List.length_cons, List.length_nil, Nat.reduceAdd, Nat.reduceLeDiff, Nat.zero_add, true_and, nI_n0, nat_le, Nat.add_zero, i_1, rt_st_clear, x_aaload, x_al0, x_alen, x_call, x_getf, x_goto, x_icge, x_il1, x_inc1, x_is1, x_ldc, x_putf, x_vret, nI_add]
  rw [b_st_clear_22]
  simp -implicitDefEqProofs (disch := first | assumption | omega) only [szS_0, szS_i, szS_r, szS_l, x_cons, x_goto, ob_some, kl_i, kl_r, kl_l, kl_n, push_n, push_s, pop_0, pop_i, pop_r, Int.reduceToNat, List.length_cons, List.length_nil, Nat.reduceAdd, Nat.reduceLeDiff, Nat.zero_add, true_and, nI_n0, nat_le, Nat.add_zero, i_1, rt_st_clear, x_aaload, x_al0, x_alen, x_call, x_getf, x_goto, x_icge, x_il1, x_inc1, x_is1, x_ldc, x_putf, x_vret, fd_67_0, sf_67_0, fd_67_1, sf_67_1, fd_67_2, sf_67_2, fd_67_3, sf_67_3, fd_67_4, sf_67_4, fd_67_5, fd_67_6, fd_67_7, fd_67_8, fd_67_9, fd_67_10, al, nI_ltE, Nat.reduceLT, ↓reduceIte, ld_69_0, ld_69_1, ld_69_2, ld_69_3, ld_69_4, ld_69_5, ld_69_6, ld_69_7]
  refine s_fill (a := 73) (n := 16) rfl (by decide) (by decide) fun r3 h3 => ?_
  simp -implicitDefEqProofs (disch := first | assumption | omega) only [szS_0, szS_i, szS_r, szS_l, x_cons, x_goto, ob_some, kl_i, kl_r, kl_l, kl_n, push_n, push_s, pop_0, pop_i, pop_r, Int.reduceToNat, List.length_cons, List.length_nil, Nat.reduceAdd, Nat.reduceLeDiff, Nat.zero_add, true_and, nI_n0, nat_le, Nat.add_zero, i_1, rt_st_clear, x_aaload, x_al0, x_alen, x_call, x_getf, x_goto, x_icge, x_il1, x_inc1, x_is1, x_ldc, x_putf, x_vret, nI_add]
  rw [b_st_clear_22]
  simp -implicitDefEqProofs (disch := first | assumption | omega) only [szS_0, szS_i, szS_r, szS_l, x_cons, x_goto, ob_some, kl_i, kl_r, kl_l, kl_n, push_n, push_s, pop_0, pop_i, pop_r, Int.reduceToNat, List.length_cons, List.length_nil, Nat.reduceAdd, Nat.reduceLeDiff, Nat.zero_add, true_and, nI_n0, nat_le, Nat.add_zero, i_1, rt_st_clear, x_aaload, x_al0, x_alen, x_call, x_getf, x_goto, x_icge, x_il1, x_inc1, x_is1, x_ldc, x_putf, x_vret, fd_67_0, sf_67_0, fd_67_1, sf_67_1, fd_67_2, sf_67_2, fd_67_3, sf_67_3, fd_67_4, sf_67_4, fd_67_5, fd_67_6, fd_67_7, fd_67_8, fd_67_9, fd_67_10, al, nI_ltE, Nat.reduceLT, ↓reduceIte, ld_69_0, ld_69_1, ld_69_2, ld_69_3, ld_69_4, ld_69_5, ld_69_6, ld_69_7]
  refine s_fill (a := 74) (n := 16) rfl (by decide) (by decide) fun r4 h4 => ?_
  simp -implicitDefEqProofs (disch := first | assumption | omega) only [szS_0, szS_i, szS_r, szS_l, x_cons, x_goto, ob_some, kl_i, kl_r, kl_l, kl_n, push_n, push_s, pop_0, pop_i, pop_r, Int.reduceToNat, List.length_cons, List.length_nil, Nat.reduceAdd, Nat.reduceLeDiff, Nat.zero_add, true_and, nI_n0, nat_le, Nat.add_zero, i_1, rt_st_clear, x_aaload, x_al0, x_alen, x_call, x_getf, x_goto, x_icge, x_il1, x_inc1, x_is1, x_ldc, x_putf, x_vret, nI_add]
  rw [b_st_clear_22]
  simp -implicitDefEqProofs (disch := first | assumption | omega) only [szS_0, szS_i, szS_r, szS_l, x_cons, x_goto, ob_some, kl_i, kl_r, kl_l, kl_n, push_n, push_s, pop_0, pop_i, pop_r, Int.reduceToNat, List.length_cons, List.length_nil, Nat.reduceAdd, Nat.reduceLeDiff, Nat.zero_add, true_and, nI_n0, nat_le, Nat.add_zero, i_1, rt_st_clear, x_aaload, x_al0, x_alen, x_call, x_getf, x_goto, x_icge, x_il1, x_inc1, x_is1, x_ldc, x_putf, x_vret, fd_67_0, sf_67_0, fd_67_1, sf_67_1, fd_67_2, sf_67_2, fd_67_3, sf_67_3, fd_67_4, sf_67_4, fd_67_5, fd_67_6, fd_67_7, fd_67_8, fd_67_9, fd_67_10, al, nI_ltE, Nat.reduceLT, ↓reduceIte, ld_69_0, ld_69_1, ld_69_2, ld_69_3, ld_69_4, ld_69_5, ld_69_6, ld_69_7]
  refine s_fill (a := 75) (n := 16) rfl (by decide) (by decide) fun r5 h5 => ?_
  simp -implicitDefEqProofs (disch := first | assumption | omega) only [szS_0, szS_i, szS_r, szS_l, x_cons, x_goto, ob_some, kl_i, kl_r, kl_l, kl_n, push_n, push_s, pop_0, pop_i, pop_r, Int.reduceToNat, List.length_cons, List.length_nil, Nat.reduceAdd, Nat.reduceLeDiff, Nat.zero_add, true_and, nI_n0, nat_le, Nat.add_zero, i_1, rt_st_clear, x_aaload, x_al0, x_alen, x_call, x_getf, x_goto, x_icge, x_il1, x_inc1, x_is1, x_ldc, x_putf, x_vret, nI_add]
  rw [b_st_clear_22]
  simp -implicitDefEqProofs (disch := first | assumption | omega) only [szS_0, szS_i, szS_r, szS_l, x_cons, x_goto, ob_some, kl_i, kl_r, kl_l, kl_n, push_n, push_s, pop_0, pop_i, pop_r, Int.reduceToNat, List.length_cons, List.length_nil, Nat.reduceAdd, Nat.reduceLeDiff, Nat.zero_add, true_and, nI_n0, nat_le, Nat.add_zero, i_1, rt_st_clear, x_aaload, x_al0, x_alen, x_call, x_getf, x_goto, x_icge, x_il1, x_inc1, x_is1, x_ldc, x_putf, x_vret, fd_67_0, sf_67_0, fd_67_1, sf_67_1, fd_67_2, sf_67_2, fd_67_3, sf_67_3, fd_67_4, sf_67_4, fd_67_5, fd_67_6, fd_67_7, fd_67_8, fd_67_9, fd_67_10, al, nI_ltE, Nat.reduceLT, ↓reduceIte, ld_69_0, ld_69_1, ld_69_2, ld_69_3, ld_69_4, ld_69_5, ld_69_6, ld_69_7]
  refine s_fill (a := 76) (n := 16) rfl (by decide) (by decide) fun r6 h6 => ?_
  simp -implicitDefEqProofs (disch := first | assumption | omega) only [szS_0, szS_i, szS_r, szS_l, x_cons, x_goto, ob_some, kl_i, kl_r, kl_l, kl_n, push_n, push_s, pop_0, pop_i, pop_r, Int.reduceToNat, List.length_cons, List.length_nil, Nat.reduceAdd, Nat.reduceLeDiff, Nat.zero_add, true_and, nI_n0, nat_le, Nat.add_zero, i_1, rt_st_clear, x_aaload, x_al0, x_alen, x_call, x_getf, x_goto, x_icge, x_il1, x_inc1, x_is1, x_ldc, x_putf, x_vret, nI_add]
  rw [b_st_clear_22]
  simp -implicitDefEqProofs (disch := first | assumption | omega) only [szS_0, szS_i, szS_r, szS_l, x_cons, x_goto, ob_some, kl_i, kl_r, kl_l, kl_n, push_n, push_s, pop_0, pop_i, pop_r, Int.reduceToNat, List.length_cons, List.length_nil, Nat.reduceAdd, Nat.reduceLeDiff, Nat.zero_add, true_and, nI_n0, nat_le, Nat.add_zero, i_1, rt_st_clear, x_aaload, x_al0, x_alen, x_call, x_getf, x_goto, x_icge, x_il1, x_inc1, x_is1, x_ldc, x_putf, x_vret, fd_67_0, sf_67_0, fd_67_1, sf_67_1, fd_67_2, sf_67_2, fd_67_3, sf_67_3, fd_67_4, sf_67_4, fd_67_5, fd_67_6, fd_67_7, fd_67_8, fd_67_9, fd_67_10, al, nI_ltE, Nat.reduceLT, ↓reduceIte, ld_69_0, ld_69_1, ld_69_2, ld_69_3, ld_69_4, ld_69_5, ld_69_6, ld_69_7]
  refine s_fill (a := 77) (n := 16) rfl (by decide) (by decide) fun r7 h7 => ?_
  simp -implicitDefEqProofs (disch := first | assumption | omega) only [szS_0, szS_i, szS_r, szS_l, x_cons, x_goto, ob_some, kl_i, kl_r, kl_l, kl_n, push_n, push_s, pop_0, pop_i, pop_r, Int.reduceToNat, List.length_cons, List.length_nil, Nat.reduceAdd, Nat.reduceLeDiff, Nat.zero_add, true_and, nI_n0, nat_le, Nat.add_zero, i_1, rt_st_clear, x_aaload, x_al0, x_alen, x_call, x_getf, x_goto, x_icge, x_il1, x_inc1, x_is1, x_ldc, x_putf, x_vret, nI_add]
  rw [b_st_clear_22]
  simp -implicitDefEqProofs (disch := first | assumption | omega) only [szS_0, szS_i, szS_r, szS_l, x_cons, x_goto, ob_some, kl_i, kl_r, kl_l, kl_n, push_n, push_s, pop_0, pop_i, pop_r, Int.reduceToNat, List.length_cons, List.length_nil, Nat.reduceAdd, Nat.reduceLeDiff, Nat.zero_add, true_and, nI_n0, nat_le, Nat.add_zero, i_1, rt_st_clear, x_aaload, x_al0, x_alen, x_call, x_getf, x_goto, x_icge, x_il1, x_inc1, x_is1, x_ldc, x_putf, x_vret, fd_67_0, sf_67_0, fd_67_1, sf_67_1, fd_67_2, sf_67_2, fd_67_3, sf_67_3, fd_67_4, sf_67_4, fd_67_5, fd_67_6, fd_67_7, fd_67_8, fd_67_9, fd_67_10, al, nI_ltE, Nat.lt_irrefl, ↓reduceIte, b_st_clear_47]
  refine s_fill (a := 78) (n := 16) rfl (by decide) (by decide) fun r8 h8 => ?_
  simp -implicitDefEqProofs (disch := first | assumption | omega) only [szS_0, szS_i, szS_r, szS_l, x_cons, x_goto, ob_some, kl_i, kl_r, kl_l, kl_n, push_n, push_s, pop_0, pop_i, pop_r, Int.reduceToNat, List.length_cons, List.length_nil, Nat.reduceAdd, Nat.reduceLeDiff, Nat.zero_add, true_and, nI_n0, nat_le, Nat.add_zero, i_1, rt_st_clear, x_aaload, x_al0, x_alen, x_call, x_getf, x_goto, x_icge, x_il1, x_inc1, x_is1, x_ldc, x_putf, x_vret, fd_67_0, sf_67_0, fd_67_1, sf_67_1, fd_67_2, sf_67_2, fd_67_3, sf_67_3, fd_67_4, sf_67_4, fd_67_5, fd_67_6, fd_67_7, fd_67_8, fd_67_9, fd_67_10]
  refine s_fill (a := 79) (n := 16) rfl (by decide) (by decide) fun r9 h9 => ?_
  simp -implicitDefEqProofs (disch := first | assumption | omega) only [szS_0, szS_i, szS_r, szS_l, x_cons, x_goto, ob_some, kl_i, kl_r, kl_l, kl_n, push_n, push_s, pop_0, pop_i, pop_r, Int.reduceToNat, List.length_cons, List.length_nil, Nat.reduceAdd, Nat.reduceLeDiff, Nat.zero_add, true_and, nI_n0, nat_le, Nat.add_zero, i_1, rt_st_clear, x_aaload, x_al0, x_alen, x_call, x_getf, x_goto, x_icge, x_il1, x_inc1, x_is1, x_ldc, x_putf, x_vret, fd_67_0, sf_67_0, fd_67_1, sf_67_1, fd_67_2, sf_67_2, fd_67_3, sf_67_3, fd_67_4, sf_67_4, fd_67_5, fd_67_6, fd_67_7, fd_67_8, fd_67_9, fd_67_10]
  refine s_fill (a := 80) (n := 48) rfl (by decide) (by decide) fun r10 h10 => ?_
  simp -implicitDefEqProofs (disch := first | assumption | omega) only [szS_0, szS_i, szS_r, szS_l, x_cons, x_goto, ob_some, kl_i, kl_r, kl_l, kl_n, push_n, push_s, pop_0, pop_i, pop_r, Int.reduceToNat, List.length_cons, List.length_nil, Nat.reduceAdd, Nat.reduceLeDiff, Nat.zero_add, true_and, nI_n0, nat_le, Nat.add_zero, i_1, rt_st_clear, x_aaload, x_al0, x_alen, x_call, x_getf, x_goto, x_icge, x_il1, x_inc1, x_is1, x_ldc, x_putf, x_vret, fd_67_0, sf_67_0, fd_67_1, sf_67_1, fd_67_2, sf_67_2, fd_67_3, sf_67_3, fd_67_4, sf_67_4, fd_67_5, fd_67_6, fd_67_7, fd_67_8, fd_67_9, fd_67_10]
  refine s_fill (a := 81) (n := 256) rfl (by decide) (by decide) fun r11 h11 => ?_
  simp -implicitDefEqProofs (disch := first | assumption | omega) only [szS_0, szS_i, szS_r, szS_l, x_cons, x_goto, ob_some, kl_i, kl_r, kl_l, kl_n, push_n, push_s, pop_0, pop_i, pop_r, Int.reduceToNat, List.length_cons, List.length_nil, Nat.reduceAdd, Nat.reduceLeDiff, Nat.zero_add, true_and, nI_n0, nat_le, Nat.add_zero, i_1, rt_st_clear, x_aaload, x_al0, x_alen, x_call, x_getf, x_goto, x_icge, x_il1, x_inc1, x_is1, x_ldc, x_putf, x_vret, fd_67_0, sf_67_0, fd_67_1, sf_67_1, fd_67_2, sf_67_2, fd_67_3, sf_67_3, fd_67_4, sf_67_4, fd_67_5, fd_67_6, fd_67_7, fd_67_8, fd_67_9, fd_67_10]
  refine H _ (fun b hb => by rw [upw_o (by omega), upw_o (by omega), upw_o (by omega), upw_o (by omega), upw_o (by omega), upw_o (by omega), upw_o (by omega), upw_o (by omega), upw_o (by omega), upw_o (by omega), upw_o (by omega), upw_o (by omega), upw_o (by omega)]) ⟨?_, ?_, ?_, ?_, ?_⟩ (fun k hk => ⟨?_, ?_, ?_, ?_, ?_, ?_, ?_, ?_⟩) (fun k hk => ⟨?_, ?_⟩) (fun k hk => ?_) fun k hk => ?_
  · rw [upw_o (by decide), upw_o (by decide), upw_o (by decide), upw_o (by decide), upw_o (by decide), upw_o (by decide), upw_o (by decide), upw_o (by decide), upw_o (by decide), upw_o (by decide), upw_o (by decide), upw_o (by decide), upw_s, pu_n (by decide), pu_n (by decide), pu_n (by decide), pu_s]
  · rw [upw_o (by decide), upw_o (by decide), upw_o (by decide), upw_o (by decide), upw_o (by decide), upw_o (by decide), upw_o (by decide), upw_o (by decide), upw_o (by decide), upw_o (by decide), upw_o (by decide), upw_o (by decide), upw_s, pu_n (by decide), pu_n (by decide), pu_s]
  · rw [upw_o (by decide), upw_o (by decide), upw_o (by decide), upw_o (by decide), upw_o (by decide), upw_o (by decide), upw_o (by decide), upw_o (by decide), upw_o (by decide), upw_o (by decide), upw_o (by decide), upw_o (by decide), upw_s, pu_n (by decide), pu_s]
  · rw [upw_o (by decide), upw_o (by decide), upw_o (by decide), upw_o (by decide), upw_o (by decide), upw_o (by decide), upw_o (by decide), upw_o (by decide), upw_o (by decide), upw_o (by decide), upw_o (by decide), upw_o (by decide), upw_s, pu_s]
  · rw [upw_o (by decide), upw_o (by decide), upw_o (by decide), upw_o (by decide), upw_o (by decide), upw_o (by decide), upw_o (by decide), upw_o (by decide), upw_o (by decide), upw_o (by decide), upw_o (by decide), upw_o (by decide), upw_s, pu_n (by decide), pu_n (by decide), pu_n (by decide), pu_n (by decide)]
  · rw [upw_o (by decide), upw_o (by decide), upw_o (by decide), upw_o (by decide), upw_o (by decide), upw_o (by decide), upw_o (by decide), upw_o (by decide), upw_o (by decide), upw_o (by decide), upw_o (by decide), upw_s, h0 k hk]
  · rw [upw_o (by decide), upw_o (by decide), upw_o (by decide), upw_o (by decide), upw_o (by decide), upw_o (by decide), upw_o (by decide), upw_o (by decide), upw_o (by decide), upw_o (by decide), upw_s, h1 k hk]
  · rw [upw_o (by decide), upw_o (by decide), upw_o (by decide), upw_o (by decide), upw_o (by decide), upw_o (by decide), upw_o (by decide), upw_o (by decide), upw_o (by decide), upw_s, h2 k hk]
  · rw [upw_o (by decide), upw_o (by decide), upw_o (by decide), upw_o (by decide), upw_o (by decide), upw_o (by decide), upw_o (by decide), upw_o (by decide), upw_s, h3 k hk]
  · rw [upw_o (by decide), upw_o (by decide), upw_o (by decide), upw_o (by decide), upw_o (by decide), upw_o (by decide), upw_o (by decide), upw_s, h4 k hk]
  · rw [upw_o (by decide), upw_o (by decide), upw_o (by decide), upw_o (by decide), upw_o (by decide), upw_o (by decide), upw_s, h5 k hk]
  · rw [upw_o (by decide), upw_o (by decide), upw_o (by decide), upw_o (by decide), upw_o (by decide), upw_s, h6 k hk]
  · rw [upw_o (by decide), upw_o (by decide), upw_o (by decide), upw_o (by decide), upw_s, h7 k hk]
  · rw [upw_o (by decide), upw_o (by decide), upw_o (by decide), upw_s, h8 k hk]
  · rw [upw_o (by decide), upw_o (by decide), upw_s, h9 k hk]
  · rw [upw_o (by decide), upw_s, h10 k hk]
  · rw [upw_s, h11 k hk]
theorem s_clrD (H : ∀ g', CLR g g' → P none (E g' q)) : callC (ev (d + 3)) to_clearDelta [.ref 61] (E g q) P := by
  refine in_to_clearDelta rfl ?_
  rw [b_to_clearDelta_0]
  simp -implicitDefEqProofs (disch := first | assumption | omega) only [szS_0, szS_i, szS_r, szS_l, x_cons, x_goto, ob_some, kl_i, kl_r, kl_l, kl_n, push_n, push_s, pop_0, pop_i, pop_r, Int.reduceToNat, List.length_cons, List.length_nil, Nat.reduceAdd, Nat.reduceLeDiff, Nat.zero_add, true_and, nI_n0, nat_le, Nat.add_zero, rt_to_clearDelta, x_al0, x_call, x_getf, x_vret, fd_61_0, fd_61_1, fd_61_2, fd_61_3, fd_61_4]
  refine s_dclear (d := d) fun g1 a1 a2 a3 a4 => ?_
  simp -implicitDefEqProofs (disch := first | assumption | omega) only [szS_0, szS_i, szS_r, szS_l, x_cons, x_goto, ob_some, kl_i, kl_r, kl_l, kl_n, push_n, push_s, pop_0, pop_i, pop_r, Int.reduceToNat, List.length_cons, List.length_nil, Nat.reduceAdd, Nat.reduceLeDiff, Nat.zero_add, true_and, nI_n0, nat_le, Nat.add_zero, rt_to_clearDelta, x_al0, x_call, x_getf, x_vret, fd_61_0, fd_61_1, fd_61_2, fd_61_3, fd_61_4]
  refine s_sclear (d := d) fun g2 b1 b2 b3 b4 b5 b6 => ?_
  simp -implicitDefEqProofs (disch := first | assumption | omega) only [szS_0, szS_i, szS_r, szS_l, x_cons, x_goto, ob_some, kl_i, kl_r, kl_l, kl_n, push_n, push_s, pop_0, pop_i, pop_r, Int.reduceToNat, List.length_cons, List.length_nil, Nat.reduceAdd, Nat.reduceLeDiff, Nat.zero_add, true_and, nI_n0, nat_le, Nat.add_zero, rt_to_clearDelta, x_al0, x_call, x_getf, x_vret]
  refine H g2 ⟨fun b hb => by rw [b1 b (by omega), a1 b (by omega)], by rw [b1 62 (by decide)]; exact a2, ⟨b2.1, b2.2.1, b2.2.2.1, b2.2.2.2.1, by rw [b2.2.2.2.2, a1 67 (by decide)]⟩, fun k hk => by rw [b1 63 (by decide), b1 64 (by decide)]; exact a3 k hk, fun k hk => by rw [b1 65 (by decide)]; exact a4 k hk, b3, b4, b5, b6⟩
theorem of_lp {L : List (Nat → Nat)} (hl : L.length ≤ 16) (h62 : g 62 0 = nI L.length) (hD : cDs g 0 L) (h2 : ∀ n, n < L.length → ndL L n 0 ≤ 2) (H : ∀ r, (∀ n, n < L.length → r n = nI (if ndL L n 0 = 0 then 1 else 0)) → P none (E (upw g 78 r) q)) : ∀ (j i : Nat) (r : Nat → Int32), i + j = L.length → (∀ n, n < i → r n = nI (if ndL L n 0 = 0 then 1 else 0)) →
    wp (ev d) P to_openFirstArms 2 [some (.ref 61), some (.int (nI i))] [] (E (upw g 78 r) q) := by
  intro j
  induction j with
  | zero =>
    intro i r hi h1
    have hi : i = L.length := hi
    subst hi
    rw [b_to_openFirstArms_2]
    simp -implicitDefEqProofs (disch := first | assumption | omega) only [szS_0, szS_i, szS_r, szS_l, x_cons, x_goto, ob_some, kl_i, kl_r, kl_l, kl_n, push_n, push_s, pop_0, pop_i, pop_r, Int.reduceToNat, List.length_cons, List.length_nil, Nat.reduceAdd, Nat.reduceLeDiff, Nat.zero_add, true_and, nI_n0, nat_le, Nat.add_zero, i_1, rt_to_openFirstArms, x_al0, x_getf, x_goto, x_iaload, x_iastore, x_icge, x_ifne, x_il1, x_inc1, x_is1, x_ldc, x_vret, fd_61_0, fd_61_1, fd_61_2, fd_61_3, fd_61_4, fd_62_0, sf_62_0, fd_62_1, fd_62_2, fd_62_3, fd_62_4, upw_o, h62, nI_ltE, Nat.lt_irrefl, ↓reduceIte, b_to_openFirstArms_45]
    exact H r h1
  | succ j ih =>
    intro i r hi h1
    have hi' : i < L.length := by omega
    have D := cDs_n hD hi'
    rw [Nat.zero_add] at D
    have e0 := D.1
    have go : ∀ x : Nat, x = (if ndL L i 0 = 0 then 1 else 0) → wp (ev d) P to_openFirstArms 38 [some (.ref 61), some (.int (nI i))] [.int (nI x), .int (nI i), .ref 78] (E (upw g 78 r) q) := fun x hx => by
      rw [b_to_openFirstArms_38]
      simp -implicitDefEqProofs (disch := first | assumption | omega) only [szS_0, szS_i, szS_r, szS_l, x_cons, x_goto, ob_some, kl_i, kl_r, kl_l, kl_n, push_n, push_s, pop_0, pop_i, pop_r, Int.reduceToNat, List.length_cons, List.length_nil, Nat.reduceAdd, Nat.reduceLeDiff, Nat.zero_add, true_and, nI_n0, nat_le, Nat.add_zero, i_1, rt_to_openFirstArms, x_al0, x_getf, x_goto, x_iaload, x_iastore, x_icge, x_ifne, x_il1, x_inc1, x_is1, x_ldc, x_vret, ld_78, sd_78, ln_78, pu_w, nI_add]
      refine ih (i + 1) _ (by omega) fun n hn => ?_
      by_cases e : n = i
      · rw [e, pu_s, hx]
      · rw [pu_n e]
        exact h1 n (by omega)
    have hb := h2 i hi'
    rw [b_to_openFirstArms_2]
    simp -implicitDefEqProofs (disch := first | assumption | omega) only [szS_0, szS_i, szS_r, szS_l, x_cons, x_goto, ob_some, kl_i, kl_r, kl_l, kl_n, push_n, push_s, pop_0, pop_i, pop_r, Int.reduceToNat, List.length_cons, List.length_nil, Nat.reduceAdd, Nat.reduceLeDiff, Nat.zero_add, true_and, nI_n0, nat_le, Nat.add_zero, i_1, rt_to_openFirstArms, x_al0, x_getf, x_goto, x_iaload, x_iastore, x_icge, x_ifne, x_il1, x_inc1, x_is1, x_ldc, x_vret, fd_61_0, fd_61_1, fd_61_2, fd_61_3, fd_61_4, fd_62_0, sf_62_0, fd_62_1, fd_62_2, fd_62_3, fd_62_4, fd_67_0, sf_67_0, fd_67_1, sf_67_1, fd_67_2, sf_67_2, fd_67_3, sf_67_3, fd_67_4, sf_67_4, fd_67_5, fd_67_6, fd_67_7, fd_67_8, fd_67_9, fd_67_10, upw_o, h62, nI_ltE, hi', ↓reduceIte, ld_63, sd_63, ln_63, e0, nI_eqE]
    by_cases c : ndL L i 0 = 0
    · have := go 1 (by rw [if_pos c])
      simp only [c, ↓reduceIte]
      try simp -implicitDefEqProofs (disch := first | assumption | omega) only [szS_0, szS_i, szS_r, szS_l, x_cons, x_goto, ob_some, kl_i, kl_r, kl_l, kl_n, push_n, push_s, pop_0, pop_i, pop_r, Int.reduceToNat, List.length_cons, List.length_nil, Nat.reduceAdd, Nat.reduceLeDiff, Nat.zero_add, true_and, nI_n0, nat_le, Nat.add_zero, i_1, rt_to_openFirstArms, x_al0, x_getf, x_goto, x_iaload, x_iastore, x_icge, x_ifne, x_il1, x_inc1, x_is1, x_ldc, x_vret]
      exact this
    · have := go 0 (by rw [if_neg c])
      simp only [c, ↓reduceIte]
      try simp -implicitDefEqProofs (disch := first | assumption | omega) only [b_to_openFirstArms_37, szS_0, szS_i, szS_r, szS_l, x_cons, x_goto, ob_some, kl_i, kl_r, kl_l, kl_n, push_n, push_s, pop_0, pop_i, pop_r, Int.reduceToNat, List.length_cons, List.length_nil, Nat.reduceAdd, Nat.reduceLeDiff, Nat.zero_add, true_and, nI_n0, nat_le, Nat.add_zero, i_1, rt_to_openFirstArms, x_al0, x_getf, x_goto, x_iaload, x_iastore, x_icge, x_ifne, x_il1, x_inc1, x_is1, x_ldc, x_vret]
      exact this
/-- a delta that was told stands in the spare one -/
theorem Tc_dl {w : Nat → Int32} {L : List (Nat → Nat)} {g0 g1 g2 g3 g4 g5 : Nat → Nat → Int32} {V M : LW} (hw : WI w) (hL : dlK L) (c1 : cqT 61 1 g0 g1) (hx : Tx true 1 w g0) (hc : Tc 1 w g0) (hl : CL 1 g0 V M) (c2 : CLR g1 g2) (f3 : ∀ a, a ≠ 168 → a ≠ 170 → a ≠ 171 → a ≠ 172 → a ≠ 62 → a ≠ 63 → a ≠ 64 → a ≠ 65 → a ≠ 70 → a ≠ 71 → g3 a = g2 a) (e62 : g3 62 0 = nI L.length) (hD : cDs g3 0 L) (hz : ∀ x, L.length ≤ x → x < 16 → zR x g3 ∧ g3 63 x = g2 63 x) {r : Nat → Int32} (h4 : g4 = upw g3 78 r) (hr : ∀ n, n < L.length → r n = nI (if ndL L n 0 = 0 then 1 else 0)) (f5 : ∀ c, c ≠ 66 → g5 c = g4 c) (e5 : ∀ s m, s < nn (dlR w L) → m < 16 → g5 66 (s * 16 + m) = nN (far (dlR w L) s m)) :
    Tc 61 (dlR w L) g5 ∧ Tx true 61 (dlR w L) g5 ∧ CL 61 g5 V M := by
  obtain ⟨k1, k2, k3, k4, k5, k6, k7, k8, k9⟩ := c2
  obtain ⟨hl16, hl0, ⟨G', hk⟩, hall⟩ := hL
  have hg : ∀ b, b ≠ 66 → b ≠ 78 → g5 b = g3 b := fun b b1 b2 => by rw [f5 b b1, h4, upw_o b2]
  have hf : ∀ b, (72 ≤ b ∧ b ≠ 78 ∧ b < 168) ∨ b = 67 ∨ b = 68 → g5 b = g2 b := fun b hb => by rw [hg b (by omega) (by omega), f3 b (by omega) (by omega) (by omega) (by omega) (by omega) (by omega) (by omega) (by omega) (by omega) (by omega)]
  have e78 : g5 78 = r := by rw [f5 78 (by decide), h4, upw_s]
  have zD : ∀ v : Nat → Nat, ∀ f, 6 ≤ f → f ≠ 10 → f ≠ 11 → dFv v f = 0 := fun v f h1 h2 h3 => by
    unfold dFv
    rw [if_neg (by omega), if_neg (by omega), if_neg h2, if_neg h3]
  have z0 : ∀ n f, n < 16 → 6 ≤ f → f < 20 → f ≠ 10 → f ≠ 11 → dlR w L (10 + 20 * n + f) = nI 0 := fun n f hn h1 h4 h2 h3 => by
    rw [dlR_n hl16 hn h4]
    split
    · rw [zD _ f h1 h2 h3]
    · rfl
  have enn : nn (dlR w L) = L.length := by
    unfold nn vN
    rw [show dlR w L 0 = nI L.length from rfl, ix_nI (by omega)]
  refine ⟨⟨⟨?_, ?_, ?_, ?_, ?_, ?_⟩, fun n hn => ?_, fun n a hn ha => ?_, e5, fun n hn hs => ?_, fun n hn => ?_, fun k hk => ?_⟩, ⟨⟨?_, fun k hk => ?_⟩, ?_, ?_, ?_⟩, CL_c (CL_cp c1 hl) fun a a1 a2 a3 => ?_⟩
  · show g5 62 0 = dlR w L 0
    rw [hg 62 (by decide) (by decide)]
    exact e62
  · show g5 67 0 = dlR w L 1
    rw [hf 67 (by omega), k3.1, dlR_z hl16 (by omega)]
  · show g5 67 1 = dlR w L 4
    rw [hf 67 (by omega), k3.2.1, dlR_z hl16 (by omega)]
  · show g5 67 2 = dlR w L 3
    rw [hf 67 (by omega), k3.2.2.1, dlR_z hl16 (by omega)]
  · show g5 68 0 = dlR w L 6
    rw [hf 68 (by omega), k1 68 (by omega), dlR_o hl16 (by omega)]
    exact (c1.2.2.1.2.1 0 (by decide)).trans hc.1.2.2.2.2.1
  · show g5 68 1 = dlR w L 7
    rw [hf 68 (by omega), k1 68 (by omega), dlR_o hl16 (by omega)]
    exact (c1.2.2.1.2.1 1 (by decide)).trans hc.1.2.2.2.2.2
  · show g5 63 n = dlR w L (10 + 20 * n) ∧ g5 64 n = dlR w L (10 + 20 * n + 1)
    have q0 := dlR_n (w := w) (f := 0) hl16 hn (by decide)
    have q1 := dlR_n (w := w) (f := 1) hl16 hn (by decide)
    rw [Nat.add_zero] at q0
    rw [q0, q1, hg 63 (by decide) (by decide), hg 64 (by decide) (by decide)]
    by_cases h : n < L.length
    · have D := cDs_n hD h
      rw [Nat.zero_add] at D
      rw [if_pos h, if_pos h]
      exact ⟨D.1, D.2.1⟩
    · have Z := hz n (by omega) hn
      rw [if_neg h, if_neg h, Z.2]
      exact ⟨(k4 n hn).1, Z.1.1⟩
  · show g5 65 (n * 3 + a) = dlR w L (10 + 20 * n + (2 + a))
    rw [dlR_n hl16 hn (by omega), hg 65 (by decide) (by decide)]
    by_cases h : n < L.length
    · have D := cDs_n hD h
      rw [Nat.zero_add] at D
      rw [if_pos h, D.2.2.1 a ha]
      unfold dFv
      rw [if_pos (by omega)]
    · have Z := hz n (by omega) hn
      rw [if_neg h]
      exact Z.1.2.1 a ha
  · have hn : n < nn (dlR w L) := hn
    rw [enn] at hn
    have hn16 : n < 16 := by omega
    show g5 78 n = dlR w L (10 + 20 * n + 5) ∧ g5 79 n = dlR w L (10 + 20 * n + 6) ∧ ∀ a, a < 3 → g5 80 (n * 3 + a) = dlR w L (10 + 20 * n + (7 + a))
    obtain ⟨G1, hb⟩ := nsK_n hk hn
    have hs0 : ndL L n 0 = 0 := by
      have e := dlR_n (w := w) (f := 0) hl16 hn16 (by decide)
      rw [if_pos hn] at e
      have : fd (dlR w L) n 0 = dFv (ndL L n) 0 := by
        unfold fd vN
        rw [e, ix_nI (by have := dFv_l hb 0; omega)]
      rw [hs] at this
      exact this.symm
    refine ⟨?_, ?_, fun a ha => ?_⟩
    · rw [e78, hr n hn, dlR_n hl16 hn16 (by decide), if_pos hs0, if_pos hn]
      rfl
    · rw [hf 79 (by omega), z0 n 6 hn16 (by decide) (by decide) (by decide) (by decide)]
      exact (k7 n hn16).2
    · rw [hf 80 (by omega), z0 n (7 + a) hn16 (by omega) (by omega) (by omega) (by omega)]
      exact k8 _ (by omega)
  · show g5 70 n = dlR w L (10 + 20 * n + 10) ∧ g5 71 n = dlR w L (10 + 20 * n + 11) ∧ g5 72 n = dlR w L (10 + 20 * n + 15) ∧ g5 73 n = dlR w L (10 + 20 * n + 16) ∧ g5 74 n = dlR w L (10 + 20 * n + 12) ∧ g5 75 n = dlR w L (10 + 20 * n + 13) ∧ g5 76 n = dlR w L (10 + 20 * n + 14) ∧ g5 77 n = dlR w L (10 + 20 * n + 17)
    obtain ⟨-, -, y2, y3, y4, y5, y6, y7⟩ := k6 n hn
    have zz := fun f h1 h2 h3 h4 => z0 n f hn h1 h2 h3 h4
    rw [zz 15 (by decide) (by decide) (by decide) (by decide), zz 16 (by decide) (by decide) (by decide) (by decide), zz 12 (by decide) (by decide) (by decide) (by decide), zz 13 (by decide) (by decide) (by decide) (by decide), zz 14 (by decide) (by decide) (by decide) (by decide), zz 17 (by decide) (by decide) (by decide) (by decide), hf 72 (by omega), hf 73 (by omega), hf 74 (by omega), hf 75 (by omega), hf 76 (by omega), hf 77 (by omega)]
    refine ⟨?_, ?_, y2, y3, y4, y5, y6, y7⟩
    · rw [hg 70 (by decide) (by decide), dlR_n hl16 hn (by decide)]
      by_cases h : n < L.length
      · have D := cDs_n hD h
        rw [Nat.zero_add] at D
        rw [if_pos h]
        exact D.2.2.2.1
      · rw [if_neg h]
        exact (hz n (by omega) hn).1.2.2.1
    · rw [hg 71 (by decide) (by decide), dlR_n hl16 hn (by decide)]
      by_cases h : n < L.length
      · have D := cDs_n hD h
        rw [Nat.zero_add] at D
        rw [if_pos h]
        exact D.2.2.2.2
      · rw [if_neg h]
        exact (hz n (by omega) hn).1.2.2.2
  · show g5 81 k = dlR w L (340 + k)
    rw [hf 81 (by omega), k9 k hk, dlR_z hl16 (by omega)]
  · show g5 67 4 = dlR w L 2
    rw [hf 67 (by omega), k3.2.2.2.1, dlR_z hl16 (by omega)]
  · show g5 90 k = dlR w L (600 + k)
    have hx1 : g0 7 4 = w 2 ∧ ∀ k, k < 600 → g0 30 k = w (600 + k) := hx.1
    rw [hf 90 (by omega), k1 90 (by omega), dlR_o hl16 (by omega)]
    exact (c1.2.2.2.2.2 k hk).trans (hx1.2 k hk)
  · show g5 67 3 = dlR w L 5
    have hx2 : g0 7 3 = w 5 ∧ g0 8 2 = w 8 ∧ g0 8 3 = w 9 := hx.2
    rw [hf 67 (by omega), k3.2.2.2.2, dlR_o hl16 (by omega)]
    exact (c1.2.2.1.1 3 (by decide)).trans hx2.1
  · show g5 68 2 = dlR w L 8
    have hx2 : g0 7 3 = w 5 ∧ g0 8 2 = w 8 ∧ g0 8 3 = w 9 := hx.2
    rw [hf 68 (by omega), k1 68 (by omega), dlR_o hl16 (by omega)]
    exact (c1.2.2.1.2.1 2 (by decide)).trans hx2.2.1
  · show g5 68 3 = dlR w L 9
    have hx2 : g0 7 3 = w 5 ∧ g0 8 2 = w 8 ∧ g0 8 3 = w 9 := hx.2
    rw [hf 68 (by omega), k1 68 (by omega), dlR_o hl16 (by omega)]
    exact (c1.2.2.1.2.1 3 (by decide)).trans hx2.2.2
  · rw [hf a (by omega), k1 a (by omega)]
end CTX
