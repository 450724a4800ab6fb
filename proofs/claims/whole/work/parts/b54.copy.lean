/-! what the class copies; rows over any State: made by wip/whole/tools/p54.py -/
section SR
variable {g : Nat → Nat → Int32} {q : Nat → Nat → Int64} {x : Int32} {k y s : Nat}
theorem sq_0 (hS : s = 7 ∨ s = 37 ∨ s = 67 ∨ s = 93 ∨ s = 108 ∨ s = 123 ∨ s = 138 ∨ s = 153) : fld (E g q) s 700 = some (.int (g s 0)) := by
  rcases hS with rfl | rfl | rfl | rfl | rfl | rfl | rfl | rfl
  · exact fd_7_0
  · exact fd_37_0
  · exact fd_67_0
  · exact fd_93_0
  · exact fd_108_0
  · exact fd_123_0
  · exact fd_138_0
  · exact fd_153_0
theorem sp_0 (hS : s = 7 ∨ s = 37 ∨ s = 67 ∨ s = 93 ∨ s = 108 ∨ s = 123 ∨ s = 138 ∨ s = 153) : sfd y (E g q) s 700 (.int x) = some (E (up2 g s 0 x) q) := by
  rcases hS with rfl | rfl | rfl | rfl | rfl | rfl | rfl | rfl
  · exact sf_7_0
  · exact sf_37_0
  · exact sf_67_0
  · exact sf_93_0
  · exact sf_108_0
  · exact sf_123_0
  · exact sf_138_0
  · exact sf_153_0
theorem sq_1 (hS : s = 7 ∨ s = 37 ∨ s = 67 ∨ s = 93 ∨ s = 108 ∨ s = 123 ∨ s = 138 ∨ s = 153) : fld (E g q) s 701 = some (.int (g s 1)) := by
  rcases hS with rfl | rfl | rfl | rfl | rfl | rfl | rfl | rfl
  · exact fd_7_1
  · exact fd_37_1
  · exact fd_67_1
  · exact fd_93_1
  · exact fd_108_1
  · exact fd_123_1
  · exact fd_138_1
  · exact fd_153_1
theorem sp_1 (hS : s = 7 ∨ s = 37 ∨ s = 67 ∨ s = 93 ∨ s = 108 ∨ s = 123 ∨ s = 138 ∨ s = 153) : sfd y (E g q) s 701 (.int x) = some (E (up2 g s 1 x) q) := by
  rcases hS with rfl | rfl | rfl | rfl | rfl | rfl | rfl | rfl
  · exact sf_7_1
  · exact sf_37_1
  · exact sf_67_1
  · exact sf_93_1
  · exact sf_108_1
  · exact sf_123_1
  · exact sf_138_1
  · exact sf_153_1
theorem sq_2 (hS : s = 7 ∨ s = 37 ∨ s = 67 ∨ s = 93 ∨ s = 108 ∨ s = 123 ∨ s = 138 ∨ s = 153) : fld (E g q) s 702 = some (.int (g s 2)) := by
  rcases hS with rfl | rfl | rfl | rfl | rfl | rfl | rfl | rfl
  · exact fd_7_2
  · exact fd_37_2
  · exact fd_67_2
  · exact fd_93_2
  · exact fd_108_2
  · exact fd_123_2
  · exact fd_138_2
  · exact fd_153_2
theorem sp_2 (hS : s = 7 ∨ s = 37 ∨ s = 67 ∨ s = 93 ∨ s = 108 ∨ s = 123 ∨ s = 138 ∨ s = 153) : sfd y (E g q) s 702 (.int x) = some (E (up2 g s 2 x) q) := by
  rcases hS with rfl | rfl | rfl | rfl | rfl | rfl | rfl | rfl
  · exact sf_7_2
  · exact sf_37_2
  · exact sf_67_2
  · exact sf_93_2
  · exact sf_108_2
  · exact sf_123_2
  · exact sf_138_2
  · exact sf_153_2
theorem sq_3 (hS : s = 7 ∨ s = 37 ∨ s = 67 ∨ s = 93 ∨ s = 108 ∨ s = 123 ∨ s = 138 ∨ s = 153) : fld (E g q) s 703 = some (.int (g s 3)) := by
  rcases hS with rfl | rfl | rfl | rfl | rfl | rfl | rfl | rfl
  · exact fd_7_3
  · exact fd_37_3
  · exact fd_67_3
  · exact fd_93_3
  · exact fd_108_3
  · exact fd_123_3
  · exact fd_138_3
  · exact fd_153_3
theorem sp_3 (hS : s = 7 ∨ s = 37 ∨ s = 67 ∨ s = 93 ∨ s = 108 ∨ s = 123 ∨ s = 138 ∨ s = 153) : sfd y (E g q) s 703 (.int x) = some (E (up2 g s 3 x) q) := by
  rcases hS with rfl | rfl | rfl | rfl | rfl | rfl | rfl | rfl
  · exact sf_7_3
  · exact sf_37_3
  · exact sf_67_3
  · exact sf_93_3
  · exact sf_108_3
  · exact sf_123_3
  · exact sf_138_3
  · exact sf_153_3
theorem sq_4 (hS : s = 7 ∨ s = 37 ∨ s = 67 ∨ s = 93 ∨ s = 108 ∨ s = 123 ∨ s = 138 ∨ s = 153) : fld (E g q) s 704 = some (.int (g s 4)) := by
  rcases hS with rfl | rfl | rfl | rfl | rfl | rfl | rfl | rfl
  · exact fd_7_4
  · exact fd_37_4
  · exact fd_67_4
  · exact fd_93_4
  · exact fd_108_4
  · exact fd_123_4
  · exact fd_138_4
  · exact fd_153_4
theorem sp_4 (hS : s = 7 ∨ s = 37 ∨ s = 67 ∨ s = 93 ∨ s = 108 ∨ s = 123 ∨ s = 138 ∨ s = 153) : sfd y (E g q) s 704 (.int x) = some (E (up2 g s 4 x) q) := by
  rcases hS with rfl | rfl | rfl | rfl | rfl | rfl | rfl | rfl
  · exact sf_7_4
  · exact sf_37_4
  · exact sf_67_4
  · exact sf_93_4
  · exact sf_108_4
  · exact sf_123_4
  · exact sf_138_4
  · exact sf_153_4
theorem sq_5 (hS : s = 7 ∨ s = 37 ∨ s = 67 ∨ s = 93 ∨ s = 108 ∨ s = 123 ∨ s = 138 ∨ s = 153) : fld (E g q) s 705 = some (.ref (s + 1)) := by
  rcases hS with rfl | rfl | rfl | rfl | rfl | rfl | rfl | rfl
  · exact fd_7_5
  · exact fd_37_5
  · exact fd_67_5
  · exact fd_93_5
  · exact fd_108_5
  · exact fd_123_5
  · exact fd_138_5
  · exact fd_153_5
theorem sq_6 (hS : s = 7 ∨ s = 37 ∨ s = 67 ∨ s = 93 ∨ s = 108 ∨ s = 123 ∨ s = 138 ∨ s = 153) : fld (E g q) s 706 = some (.ref (s + 2)) := by
  rcases hS with rfl | rfl | rfl | rfl | rfl | rfl | rfl | rfl
  · exact fd_7_6
  · exact fd_37_6
  · exact fd_67_6
  · exact fd_93_6
  · exact fd_108_6
  · exact fd_123_6
  · exact fd_138_6
  · exact fd_153_6
theorem sq_7 (hS : s = 7 ∨ s = 37 ∨ s = 67 ∨ s = 93 ∨ s = 108 ∨ s = 123 ∨ s = 138 ∨ s = 153) : fld (E g q) s 707 = some (.ref (s + 11)) := by
  rcases hS with rfl | rfl | rfl | rfl | rfl | rfl | rfl | rfl
  · exact fd_7_7
  · exact fd_37_7
  · exact fd_67_7
  · exact fd_93_7
  · exact fd_108_7
  · exact fd_123_7
  · exact fd_138_7
  · exact fd_153_7
theorem sq_8 (hS : s = 7 ∨ s = 37 ∨ s = 67 ∨ s = 93 ∨ s = 108 ∨ s = 123 ∨ s = 138 ∨ s = 153) : fld (E g q) s 708 = some (.ref (s + 12)) := by
  rcases hS with rfl | rfl | rfl | rfl | rfl | rfl | rfl | rfl
  · exact fd_7_8
  · exact fd_37_8
  · exact fd_67_8
  · exact fd_93_8
  · exact fd_108_8
  · exact fd_123_8
  · exact fd_138_8
  · exact fd_153_8
theorem sq_9 (hS : s = 7 ∨ s = 37 ∨ s = 67 ∨ s = 93 ∨ s = 108 ∨ s = 123 ∨ s = 138 ∨ s = 153) : fld (E g q) s 709 = some (.ref (s + 13)) := by
  rcases hS with rfl | rfl | rfl | rfl | rfl | rfl | rfl | rfl
  · exact fd_7_9
  · exact fd_37_9
  · exact fd_67_9
  · exact fd_93_9
  · exact fd_108_9
  · exact fd_123_9
  · exact fd_138_9
  · exact fd_153_9
theorem sq_10 (hS : s = 7 ∨ s = 37 ∨ s = 67 ∨ s = 93 ∨ s = 108 ∨ s = 123 ∨ s = 138 ∨ s = 153) : fld (E g q) s 710 = some (.ref (s + 14)) := by
  rcases hS with rfl | rfl | rfl | rfl | rfl | rfl | rfl | rfl
  · exact fd_7_10
  · exact fd_37_10
  · exact fd_67_10
  · exact fd_93_10
  · exact fd_108_10
  · exact fd_123_10
  · exact fd_138_10
  · exact fd_153_10
theorem sk_1 (hS : s = 7 ∨ s = 37 ∨ s = 67 ∨ s = 93 ∨ s = 108 ∨ s = 123 ∨ s = 138 ∨ s = 153) : kd (s + 1) = (0, 4) := by
  rcases hS with rfl | rfl | rfl | rfl | rfl | rfl | rfl | rfl <;> rfl
theorem sn_1 (hS : s = 7 ∨ s = 37 ∨ s = 67 ∨ s = 93 ∨ s = 108 ∨ s = 123 ∨ s = 138 ∨ s = 153) : aln (E g q) (s + 1) = some 4 := by
  rcases hS with rfl | rfl | rfl | rfl | rfl | rfl | rfl | rfl <;> exact alA rfl (by decide)
theorem sk_11 (hS : s = 7 ∨ s = 37 ∨ s = 67 ∨ s = 93 ∨ s = 108 ∨ s = 123 ∨ s = 138 ∨ s = 153) : kd (s + 11) = (0, 16) := by
  rcases hS with rfl | rfl | rfl | rfl | rfl | rfl | rfl | rfl <;> rfl
theorem sn_11 (hS : s = 7 ∨ s = 37 ∨ s = 67 ∨ s = 93 ∨ s = 108 ∨ s = 123 ∨ s = 138 ∨ s = 153) : aln (E g q) (s + 11) = some 16 := by
  rcases hS with rfl | rfl | rfl | rfl | rfl | rfl | rfl | rfl <;> exact alA rfl (by decide)
theorem sk_12 (hS : s = 7 ∨ s = 37 ∨ s = 67 ∨ s = 93 ∨ s = 108 ∨ s = 123 ∨ s = 138 ∨ s = 153) : kd (s + 12) = (0, 16) := by
  rcases hS with rfl | rfl | rfl | rfl | rfl | rfl | rfl | rfl <;> rfl
theorem sn_12 (hS : s = 7 ∨ s = 37 ∨ s = 67 ∨ s = 93 ∨ s = 108 ∨ s = 123 ∨ s = 138 ∨ s = 153) : aln (E g q) (s + 12) = some 16 := by
  rcases hS with rfl | rfl | rfl | rfl | rfl | rfl | rfl | rfl <;> exact alA rfl (by decide)
theorem sk_13 (hS : s = 7 ∨ s = 37 ∨ s = 67 ∨ s = 93 ∨ s = 108 ∨ s = 123 ∨ s = 138 ∨ s = 153) : kd (s + 13) = (0, 48) := by
  rcases hS with rfl | rfl | rfl | rfl | rfl | rfl | rfl | rfl <;> rfl
theorem sn_13 (hS : s = 7 ∨ s = 37 ∨ s = 67 ∨ s = 93 ∨ s = 108 ∨ s = 123 ∨ s = 138 ∨ s = 153) : aln (E g q) (s + 13) = some 48 := by
  rcases hS with rfl | rfl | rfl | rfl | rfl | rfl | rfl | rfl <;> exact alA rfl (by decide)
theorem sk_14 (hS : s = 7 ∨ s = 37 ∨ s = 67 ∨ s = 93 ∨ s = 108 ∨ s = 123 ∨ s = 138 ∨ s = 153) : kd (s + 14) = (0, 256) := by
  rcases hS with rfl | rfl | rfl | rfl | rfl | rfl | rfl | rfl <;> rfl
theorem sn_14 (hS : s = 7 ∨ s = 37 ∨ s = 67 ∨ s = 93 ∨ s = 108 ∨ s = 123 ∨ s = 138 ∨ s = 153) : aln (E g q) (s + 14) = some 256 := by
  rcases hS with rfl | rfl | rfl | rfl | rfl | rfl | rfl | rfl <;> exact alA rfl (by decide)
theorem sn_2 (hS : s = 7 ∨ s = 37 ∨ s = 67 ∨ s = 93 ∨ s = 108 ∨ s = 123 ∨ s = 138 ∨ s = 153) : aln (E g q) (s + 2) = some 8 := by
  have e : kd (s + 2) = (3, 8) ∧ s + 2 < 220 := by
    rcases hS with rfl | rfl | rfl | rfl | rfl | rfl | rfl | rfl <;> exact ⟨rfl, by decide⟩
  unfold aln
  rw [e.1]
  exact if_pos e.2
theorem sk_v (hS : s = 7 ∨ s = 37 ∨ s = 67 ∨ s = 93 ∨ s = 108 ∨ s = 123 ∨ s = 138 ∨ s = 153) (hk : k < 8) : kd (s + 3 + k) = (0, 16) := by
  have h : k = 0 ∨ k = 1 ∨ k = 2 ∨ k = 3 ∨ k = 4 ∨ k = 5 ∨ k = 6 ∨ k = 7 := by omega
  rcases h with rfl | rfl | rfl | rfl | rfl | rfl | rfl | rfl <;> rcases hS with rfl | rfl | rfl | rfl | rfl | rfl | rfl | rfl <;> rfl
theorem sr_v (hS : s = 7 ∨ s = 37 ∨ s = 67 ∨ s = 93 ∨ s = 108 ∨ s = 123 ∨ s = 138 ∨ s = 153) (hk : k < 8) : rld (E g q) (s + 2) (nI k) = some (.ref (s + 3 + k)) := by
  have h : k = 0 ∨ k = 1 ∨ k = 2 ∨ k = 3 ∨ k = 4 ∨ k = 5 ∨ k = 6 ∨ k = 7 := by omega
  rcases h with rfl | rfl | rfl | rfl | rfl | rfl | rfl | rfl <;> rcases hS with rfl | rfl | rfl | rfl | rfl | rfl | rfl | rfl <;> exact rdA (n := 8) rfl (by decide) (by decide) (by decide) rfl
theorem sl_v (hS : s = 7 ∨ s = 37 ∨ s = 67 ∨ s = 93 ∨ s = 108 ∨ s = 123 ∨ s = 138 ∨ s = 153) (hk : k < 8) {m : Nat} (hm : m < 16) : ild (E g q) (s + 3 + k) (nI m) = some (.int (g (s + 3 + k) m)) := ldA (sk_v hS hk) (by omega) hm (by decide)
theorem sd_v (hS : s = 7 ∨ s = 37 ∨ s = 67 ∨ s = 93 ∨ s = 108 ∨ s = 123 ∨ s = 138 ∨ s = 153) (hk : k < 8) {m : Nat} (hm : m < 16) : ist (E g q) (s + 3 + k) (nI m) x = some (E (up2 g (s + 3 + k) m x) q) := stA (sk_v hS hk) (by omega) hm (by decide)
end SR
def cqD (t s : Nat) (g g' : Nat → Nat → Int32) : Prop := g' (t + 1) 0 = g (s + 1) 0 ∧ (∀ k, k < 16 → g' (t + 2) k = g (s + 2) k) ∧ (∀ k, k < 16 → g' (t + 3) k = g (s + 3) k) ∧ (∀ k, k < 48 → g' (t + 4) k = g (s + 4) k) ∧ ∀ k, k < 256 → g' (t + 5) k = g (s + 5) k
def cqS (s s' : Nat) (g g' : Nat → Nat → Int32) : Prop := (∀ k, k < 5 → g' s k = g s' k) ∧ (∀ k, k < 4 → g' (s + 1) k = g (s' + 1) k) ∧ (∀ i k, i < 8 → k < 16 → g' (s + 3 + i) k = g (s' + 3 + i) k) ∧ (∀ k, k < 16 → g' (s + 11) k = g (s' + 11) k) ∧ (∀ k, k < 16 → g' (s + 12) k = g (s' + 12) k) ∧ (∀ k, k < 48 → g' (s + 13) k = g (s' + 13) k) ∧ ∀ k, k < 256 → g' (s + 14) k = g (s' + 14) k
def cqL (b b' : Nat) (g g' : Nat → Nat → Int32) : Prop := g' b 0 = g b' 0 ∧ g' b 1 = g b' 1 ∧ (∀ k, k < 400 → g' (b + 1) k = g (b' + 1) k) ∧ ∀ k, k < 33 → g' (b + 2) k = g (b' + 2) k
def cqT (t s : Nat) (g g' : Nat → Nat → Int32) : Prop := (∀ b, b < t ∨ t + 30 ≤ b → g' b = g b) ∧ cqD t s g g' ∧ cqS (t + 6) (s + 6) g g' ∧ cqL (t + 21) (s + 21) g g' ∧ cqL (t + 25) (s + 25) g g' ∧ ∀ k, k < 600 → g' (t + 29) k = g (s + 29) k
section CC
variable {d : Nat} {g : Nat → Nat → Int32} {q : Nat → Nat → Int64} {P : QT} {t s b : Nat}
theorem s_dcopy (hT : t = 1 ∨ t = 31 ∨ t = 61) (hS : s = 1 ∨ s = 31 ∨ s = 61) (hd : t + 30 ≤ s ∨ s + 30 ≤ t) (H : ∀ g', (∀ b, b < t + 1 ∨ t + 5 < b → g' b = g b) → cqD t s g g' → P none (E g' q)) :
    callC (ev (d + 2)) de_copyFrom [.ref (t + 1), .ref (s + 1)] (E g q) P := by
  refine in_de_copyFrom (by rcases hT with rfl | rfl | rfl <;> rfl) ?_
  have lt : t < 100 := by omega
  have ls : s < 100 := by omega
  rw [b_de_copyFrom_0]
  simp -implicitDefEqProofs (disch := first | assumption | omega) only [szS_0, szS_i, szS_r, szS_l, x_cons, x_goto, ob_some, kl_i, kl_r, kl_l, kl_n, push_n, push_s, pop_0, pop_i, pop_r, Int.reduceToNat, List.length_cons, List.length_nil, Nat.reduceAdd, Nat.reduceLeDiff, Nat.zero_add, true_and, nI_n0, nat_le, Nat.add_zero, rt_de_copyFrom, x_al0, x_al1, x_alen, x_call, x_getf, x_ldc, x_putf, x_vret, tf_1_0, tf_1_1, tf_1_2, tf_1_3, tf_1_4, ts_1_0, tn_2, tn_3, tn_4, tn_5]
  refine s_cp (tk_2 hS) (tk_2 hT) (by omega) (by omega) (Nat.le_refl _) (Nat.le_refl _) (by decide) fun r1 h1 => ?_
  simp -implicitDefEqProofs (disch := first | assumption | omega) only [szS_0, szS_i, szS_r, szS_l, x_cons, x_goto, ob_some, kl_i, kl_r, kl_l, kl_n, push_n, push_s, pop_0, pop_i, pop_r, Int.reduceToNat, List.length_cons, List.length_nil, Nat.reduceAdd, Nat.reduceLeDiff, Nat.zero_add, true_and, nI_n0, nat_le, Nat.add_zero, rt_de_copyFrom, x_al0, x_al1, x_alen, x_call, x_getf, x_ldc, x_putf, x_vret, tf_1_0, tf_1_1, tf_1_2, tf_1_3, tf_1_4, ts_1_0, tn_2, tn_3, tn_4, tn_5]
  refine s_cp (tk_3 hS) (tk_3 hT) (by omega) (by omega) (Nat.le_refl _) (Nat.le_refl _) (by decide) fun r2 h2 => ?_
  simp -implicitDefEqProofs (disch := first | assumption | omega) only [szS_0, szS_i, szS_r, szS_l, x_cons, x_goto, ob_some, kl_i, kl_r, kl_l, kl_n, push_n, push_s, pop_0, pop_i, pop_r, Int.reduceToNat, List.length_cons, List.length_nil, Nat.reduceAdd, Nat.reduceLeDiff, Nat.zero_add, true_and, nI_n0, nat_le, Nat.add_zero, rt_de_copyFrom, x_al0, x_al1, x_alen, x_call, x_getf, x_ldc, x_putf, x_vret, tf_1_0, tf_1_1, tf_1_2, tf_1_3, tf_1_4, ts_1_0, tn_2, tn_3, tn_4, tn_5]
  refine s_cp (tk_4 hS) (tk_4 hT) (by omega) (by omega) (Nat.le_refl _) (Nat.le_refl _) (by decide) fun r3 h3 => ?_
  simp -implicitDefEqProofs (disch := first | assumption | omega) only [szS_0, szS_i, szS_r, szS_l, x_cons, x_goto, ob_some, kl_i, kl_r, kl_l, kl_n, push_n, push_s, pop_0, pop_i, pop_r, Int.reduceToNat, List.length_cons, List.length_nil, Nat.reduceAdd, Nat.reduceLeDiff, Nat.zero_add, true_and, nI_n0, nat_le, Nat.add_zero, rt_de_copyFrom, x_al0, x_al1, x_alen, x_call, x_getf, x_ldc, x_putf, x_vret, tf_1_0, tf_1_1, tf_1_2, tf_1_3, tf_1_4, ts_1_0, tn_2, tn_3, tn_4, tn_5]
  refine s_cp (tk_5 hS) (tk_5 hT) (by omega) (by omega) (Nat.le_refl _) (Nat.le_refl _) (by decide) fun r4 h4 => ?_
  simp -implicitDefEqProofs (disch := first | assumption | omega) only [szS_0, szS_i, szS_r, szS_l, x_cons, x_goto, ob_some, kl_i, kl_r, kl_l, kl_n, push_n, push_s, pop_0, pop_i, pop_r, Int.reduceToNat, List.length_cons, List.length_nil, Nat.reduceAdd, Nat.reduceLeDiff, Nat.zero_add, true_and, nI_n0, nat_le, Nat.add_zero, rt_de_copyFrom, x_al0, x_al1, x_alen, x_call, x_getf, x_ldc, x_putf, x_vret]
  clear hT hS
  refine H _ (fun b hb => ?_) ⟨?_, fun k hk => ?_, fun k hk => ?_, fun k hk => ?_, fun k hk => ?_⟩
  · rw [upw_o (by omega), upw_o (by omega), upw_o (by omega), upw_o (by omega), up2_o (by omega)]
  · rw [upw_o (by omega), upw_o (by omega), upw_o (by omega), upw_o (by omega), up2_s]
  · rw [upw_o (by omega), upw_o (by omega), upw_o (by omega), upw_s, h1, if_pos hk, up2_o (by omega)]
  · rw [upw_o (by omega), upw_o (by omega), upw_s, h2, if_pos hk, upw_o (by omega), up2_o (by omega)]
  · rw [upw_o (by omega), upw_s, h3, if_pos hk, upw_o (by omega), upw_o (by omega), up2_o (by omega)]
  · rw [upw_s, h4, if_pos hk, upw_o (by omega), upw_o (by omega), upw_o (by omega), up2_o (by omega)]
theorem sc_lp (hS : s = 7 ∨ s = 37 ∨ s = 67 ∨ s = 93 ∨ s = 108 ∨ s = 123 ∨ s = 138 ∨ s = 153) {s' : Nat} (hS' : s' = 7 ∨ s' = 37 ∨ s' = 67 ∨ s' = 93 ∨ s' = 108 ∨ s' = 123 ∨ s' = 138 ∨ s' = 153) (hd : s + 15 ≤ s' ∨ s' + 15 ≤ s) {g0 : Nat → Nat → Int32}
    (H : ∀ g', (∀ b, b < s + 3 ∨ s + 10 < b → g' b = g0 b) → (∀ i k, i < 8 → k < 16 → g' (s + 3 + i) k = g0 (s' + 3 + i) k) → wp (ev (d + 1)) P st_copyFrom 94 [some (.ref s), some (.ref s'), some (.int (nI 8))] [] (E g' q)) :
    ∀ (j n : Nat) (g : Nat → Nat → Int32), n + j = 8 → (∀ b, b < s + 3 ∨ s + 10 < b → g b = g0 b) → (∀ i k, i < n → k < 16 → g (s + 3 + i) k = g0 (s' + 3 + i) k) →
    wp (ev (d + 1)) P st_copyFrom 60 [some (.ref s), some (.ref s'), some (.int (nI n))] [] (E g q) := by
  have lt : s < 200 := by omega
  have ls : s' < 200 := by omega
  intro j
  induction j with
  | zero =>
    intro n g hn hf hr
    have hn : n = 8 := hn
    subst hn
    rw [b_st_copyFrom_60]
    simp -implicitDefEqProofs (disch := first | assumption | omega) only [szS_0, szS_i, szS_r, szS_l, x_cons, x_goto, ob_some, kl_i, kl_r, kl_l, kl_n, push_n, push_s, pop_0, pop_i, pop_r, Int.reduceToNat, List.length_cons, List.length_nil, Nat.reduceAdd, Nat.reduceLeDiff, Nat.zero_add, true_and, nI_n0, nat_le, Nat.add_zero, i_1, rt_st_copyFrom, x_aaload, x_al0, x_al1, x_alen, x_call, x_getf, x_goto, x_icge, x_il2, x_inc2, x_is2, x_ldc, x_putf, x_vret, sq_6, sn_2, nI_ltE, Nat.lt_irrefl, ↓reduceIte]
    exact H g hf fun i k hi hk => hr i k hi hk
  | succ j ih =>
    intro n g hn hf hr
    have hn' : n < 8 := by omega
    rw [b_st_copyFrom_60]
    simp -implicitDefEqProofs (disch := first | assumption | omega) only [szS_0, szS_i, szS_r, szS_l, x_cons, x_goto, ob_some, kl_i, kl_r, kl_l, kl_n, push_n, push_s, pop_0, pop_i, pop_r, Int.reduceToNat, List.length_cons, List.length_nil, Nat.reduceAdd, Nat.reduceLeDiff, Nat.zero_add, true_and, nI_n0, nat_le, Nat.add_zero, i_1, rt_st_copyFrom, x_aaload, x_al0, x_al1, x_alen, x_call, x_getf, x_goto, x_icge, x_il2, x_inc2, x_is2, x_ldc, x_putf, x_vret, sq_6, sn_2, sr_v, nI_ltE, hn', ↓reduceIte]
    refine s_cp (sk_v hS' hn') (sk_v hS hn') (by omega) (by omega) (Nat.le_refl _) (Nat.le_refl _) (by decide) fun r h => ?_
    simp -implicitDefEqProofs (disch := first | assumption | omega) only [szS_0, szS_i, szS_r, szS_l, x_cons, x_goto, ob_some, kl_i, kl_r, kl_l, kl_n, push_n, push_s, pop_0, pop_i, pop_r, Int.reduceToNat, List.length_cons, List.length_nil, Nat.reduceAdd, Nat.reduceLeDiff, Nat.zero_add, true_and, nI_n0, nat_le, Nat.add_zero, i_1, rt_st_copyFrom, x_aaload, x_al0, x_al1, x_alen, x_call, x_getf, x_goto, x_icge, x_il2, x_inc2, x_is2, x_ldc, x_putf, x_vret, nI_add]
    clear hS hS'
    refine ih (n + 1) _ (by omega) (fun b hb => by rw [upw_o (by omega)]; exact hf b hb) fun i k hi hk => ?_
    by_cases e : i = n
    · rw [e, upw_s, h, if_pos hk, hf _ (by omega)]
    · rw [upw_o (by omega)]
      exact hr i k (by omega) hk
theorem s_scopy (hS : s = 7 ∨ s = 37 ∨ s = 67 ∨ s = 93 ∨ s = 108 ∨ s = 123 ∨ s = 138 ∨ s = 153) {s' : Nat} (hS' : s' = 7 ∨ s' = 37 ∨ s' = 67 ∨ s' = 93 ∨ s' = 108 ∨ s' = 123 ∨ s' = 138 ∨ s' = 153) (hd : s + 15 ≤ s' ∨ s' + 15 ≤ s) (H : ∀ g', (∀ b, b < s ∨ s + 14 < b → g' b = g b) → cqS s s' g g' → P none (E g' q)) :
    callC (ev (d + 2)) st_copyFrom [.ref s, .ref s'] (E g q) P := by
  refine in_st_copyFrom (by rcases hS with rfl | rfl | rfl | rfl | rfl | rfl | rfl | rfl <;> rfl) ?_
  have lt : s < 200 := by omega
  have ls : s' < 200 := by omega
  rw [b_st_copyFrom_0]
  simp -implicitDefEqProofs (disch := first | assumption | omega) only [szS_0, szS_i, szS_r, szS_l, x_cons, x_goto, ob_some, kl_i, kl_r, kl_l, kl_n, push_n, push_s, pop_0, pop_i, pop_r, Int.reduceToNat, List.length_cons, List.length_nil, Nat.reduceAdd, Nat.reduceLeDiff, Nat.zero_add, true_and, nI_n0, nat_le, Nat.add_zero, i_1, rt_st_copyFrom, x_aaload, x_al0, x_al1, x_alen, x_call, x_getf, x_goto, x_icge, x_il2, x_inc2, x_is2, x_ldc, x_putf, x_vret, sq_0, sq_1, sq_2, sq_3, sq_4, sq_5, sp_0, sp_1, sp_2, sp_3, sp_4, sn_1]
  refine s_cp (sk_1 hS') (sk_1 hS) (by omega) (by omega) (Nat.le_refl _) (Nat.le_refl _) (by decide) fun r1 h1 => ?_
  simp -implicitDefEqProofs (disch := first | assumption | omega) only [szS_0, szS_i, szS_r, szS_l, x_cons, x_goto, ob_some, kl_i, kl_r, kl_l, kl_n, push_n, push_s, pop_0, pop_i, pop_r, Int.reduceToNat, List.length_cons, List.length_nil, Nat.reduceAdd, Nat.reduceLeDiff, Nat.zero_add, true_and, nI_n0, nat_le, Nat.add_zero, i_1, rt_st_copyFrom, x_aaload, x_al0, x_al1, x_alen, x_call, x_getf, x_goto, x_icge, x_il2, x_inc2, x_is2, x_ldc, x_putf, x_vret]
  refine sc_lp hS hS' hd (fun g2 f2 c2 => ?_) 8 0 _ rfl (fun _ _ => rfl) fun i k hi _ => absurd hi (Nat.not_lt_zero i)
  rw [b_st_copyFrom_94]
  simp -implicitDefEqProofs (disch := first | assumption | omega) only [szS_0, szS_i, szS_r, szS_l, x_cons, x_goto, ob_some, kl_i, kl_r, kl_l, kl_n, push_n, push_s, pop_0, pop_i, pop_r, Int.reduceToNat, List.length_cons, List.length_nil, Nat.reduceAdd, Nat.reduceLeDiff, Nat.zero_add, true_and, nI_n0, nat_le, Nat.add_zero, i_1, rt_st_copyFrom, x_aaload, x_al0, x_al1, x_alen, x_call, x_getf, x_goto, x_icge, x_il2, x_inc2, x_is2, x_ldc, x_putf, x_vret, sq_7, sq_8, sq_9, sq_10, sn_11, sn_12, sn_13, sn_14]
  refine s_cp (sk_11 hS') (sk_11 hS) (by omega) (by omega) (Nat.le_refl _) (Nat.le_refl _) (by decide) fun r3 h3 => ?_
  simp -implicitDefEqProofs (disch := first | assumption | omega) only [szS_0, szS_i, szS_r, szS_l, x_cons, x_goto, ob_some, kl_i, kl_r, kl_l, kl_n, push_n, push_s, pop_0, pop_i, pop_r, Int.reduceToNat, List.length_cons, List.length_nil, Nat.reduceAdd, Nat.reduceLeDiff, Nat.zero_add, true_and, nI_n0, nat_le, Nat.add_zero, i_1, rt_st_copyFrom, x_aaload, x_al0, x_al1, x_alen, x_call, x_getf, x_goto, x_icge, x_il2, x_inc2, x_is2, x_ldc, x_putf, x_vret, sq_7, sq_8, sq_9, sq_10, sn_11, sn_12, sn_13, sn_14]
  refine s_cp (sk_12 hS') (sk_12 hS) (by omega) (by omega) (Nat.le_refl _) (Nat.le_refl _) (by decide) fun r4 h4 => ?_
  simp -implicitDefEqProofs (disch := first | assumption | omega) only [szS_0, szS_i, szS_r, szS_l, x_cons, x_goto, ob_some, kl_i, kl_r, kl_l, kl_n, push_n, push_s, pop_0, pop_i, pop_r, Int.reduceToNat, List.length_cons, List.length_nil, Nat.reduceAdd, Nat.reduceLeDiff, Nat.zero_add, true_and, nI_n0, nat_le, Nat.add_zero, i_1, rt_st_copyFrom, x_aaload, x_al0, x_al1, x_alen, x_call, x_getf, x_goto, x_icge, x_il2, x_inc2, x_is2, x_ldc, x_putf, x_vret, sq_7, sq_8, sq_9, sq_10, sn_11, sn_12, sn_13, sn_14]
  refine s_cp (sk_13 hS') (sk_13 hS) (by omega) (by omega) (Nat.le_refl _) (Nat.le_refl _) (by decide) fun r5 h5 => ?_
  simp -implicitDefEqProofs (disch := first | assumption | omega) only [szS_0, szS_i, szS_r, szS_l, x_cons, x_goto, ob_some, kl_i, kl_r, kl_l, kl_n, push_n, push_s, pop_0, pop_i, pop_r, Int.reduceToNat, List.length_cons, List.length_nil, Nat.reduceAdd, Nat.reduceLeDiff, Nat.zero_add, true_and, nI_n0, nat_le, Nat.add_zero, i_1, rt_st_copyFrom, x_aaload, x_al0, x_al1, x_alen, x_call, x_getf, x_goto, x_icge, x_il2, x_inc2, x_is2, x_ldc, x_putf, x_vret, sq_7, sq_8, sq_9, sq_10, sn_11, sn_12, sn_13, sn_14]
  refine s_cp (sk_14 hS') (sk_14 hS) (by omega) (by omega) (Nat.le_refl _) (Nat.le_refl _) (by decide) fun r6 h6 => ?_
  simp -implicitDefEqProofs (disch := first | assumption | omega) only [szS_0, szS_i, szS_r, szS_l, x_cons, x_goto, ob_some, kl_i, kl_r, kl_l, kl_n, push_n, push_s, pop_0, pop_i, pop_r, Int.reduceToNat, List.length_cons, List.length_nil, Nat.reduceAdd, Nat.reduceLeDiff, Nat.zero_add, true_and, nI_n0, nat_le, Nat.add_zero, i_1, rt_st_copyFrom, x_aaload, x_al0, x_al1, x_alen, x_call, x_getf, x_goto, x_icge, x_il2, x_inc2, x_is2, x_ldc, x_putf, x_vret]
  clear hS hS'
  have src : ∀ b, b ≠ s → (b < s + 1 ∨ s + 1 < b) → (b < s + 3 ∨ s + 10 < b) → g2 b = g b := fun b a1 a2 a3 => by
    rw [f2 b a3, upw_o (by omega), up2_o a1, up2_o a1, up2_o a1, up2_o a1, up2_o a1]
  refine H _ (fun b hb => ?_) ⟨fun k hk => ?_, fun k hk => ?_, fun i k hi hk => ?_, fun k hk => ?_, fun k hk => ?_, fun k hk => ?_, fun k hk => ?_⟩
  · rw [upw_o (by omega), upw_o (by omega), upw_o (by omega), upw_o (by omega)]
    exact src b (by omega) (by omega) (by omega)
  · rw [upw_o (by omega), upw_o (by omega), upw_o (by omega), upw_o (by omega), f2 _ (by omega), upw_o (by omega)]
    have e : ∀ (f : Nat → Nat → Int32) (i : Nat) (v : Int32), up2 f s i v s k = if k = i then v else f s k := fun f i v => by
      by_cases h : k = i
      · rw [if_pos h, h, up2_s]
      · rw [if_neg h, up2_n h]
    have o : ∀ (f : Nat → Nat → Int32) (i : Nat) (v : Int32), up2 f s i v s' = f s' := fun f i v => up2_o (by omega)
    rw [e, e, e, e, e]
    simp only [o]
    have hk5 : k = 0 ∨ k = 1 ∨ k = 2 ∨ k = 3 ∨ k = 4 := by omega
    rcases hk5 with rfl | rfl | rfl | rfl | rfl <;> rfl
  · rw [upw_o (by omega), upw_o (by omega), upw_o (by omega), upw_o (by omega), f2 _ (by omega), upw_s, h1, if_pos hk, up2_o (by omega), up2_o (by omega), up2_o (by omega), up2_o (by omega), up2_o (by omega)]
  · rw [upw_o (by omega), upw_o (by omega), upw_o (by omega), upw_o (by omega), c2 i k hi hk, upw_o (by omega), up2_o (by omega), up2_o (by omega), up2_o (by omega), up2_o (by omega), up2_o (by omega)]
  · rw [upw_o (by omega), upw_o (by omega), upw_o (by omega), upw_s, h3, if_pos hk, src _ (by omega) (by omega) (by omega)]
  · rw [upw_o (by omega), upw_o (by omega), upw_s, h4, if_pos hk, upw_o (by omega), src _ (by omega) (by omega) (by omega)]
  · rw [upw_o (by omega), upw_s, h5, if_pos hk, upw_o (by omega), upw_o (by omega), src _ (by omega) (by omega) (by omega)]
  · rw [upw_s, h6, if_pos hk, upw_o (by omega), upw_o (by omega), upw_o (by omega), src _ (by omega) (by omega) (by omega)]
theorem ln_L1 (hB : b = 22 ∨ b = 26 ∨ b = 52 ∨ b = 56 ∨ b = 82 ∨ b = 86) : aln (E g q) (b + 1) = some 400 := by
  rcases hB with rfl | rfl | rfl | rfl | rfl | rfl <;> exact alA rfl (by decide)
theorem ln_L2 (hB : b = 22 ∨ b = 26 ∨ b = 52 ∨ b = 56 ∨ b = 82 ∨ b = 86) : aln (E g q) (b + 2) = some 33 := by
  rcases hB with rfl | rfl | rfl | rfl | rfl | rfl <;> exact alA rfl (by decide)
theorem s_lcopy (hB : b = 22 ∨ b = 26 ∨ b = 52 ∨ b = 56 ∨ b = 82 ∨ b = 86) {b' : Nat} (hB' : b' = 22 ∨ b' = 26 ∨ b' = 52 ∨ b' = 56 ∨ b' = 82 ∨ b' = 86) (hd : b + 4 ≤ b' ∨ b' + 4 ≤ b) (H : ∀ g', (∀ c, c < b ∨ b + 2 < c → g' c = g c) → cqL b b' g g' → P none (E g' q)) :
    callC (ev (d + 2)) la_copyFrom [.ref b, .ref b'] (E g q) P := by
  refine in_la_copyFrom (by rcases hB with rfl | rfl | rfl | rfl | rfl | rfl <;> rfl) ?_
  have lt : b < 100 := by omega
  have ls : b' < 100 := by omega
  rw [b_la_copyFrom_0]
  simp -implicitDefEqProofs (disch := first | assumption | omega) only [szS_0, szS_i, szS_r, szS_l, x_cons, x_goto, ob_some, kl_i, kl_r, kl_l, kl_n, push_n, push_s, pop_0, pop_i, pop_r, Int.reduceToNat, List.length_cons, List.length_nil, Nat.reduceAdd, Nat.reduceLeDiff, Nat.zero_add, true_and, nI_n0, nat_le, Nat.add_zero, rt_la_copyFrom, x_al0, x_al1, x_alen, x_call, x_getf, x_ldc, x_putf, x_vret, lf_0, lf_1, lf_2, lf_3, lf_4, ls_0, ls_1, ln_L1, ln_L2]
  refine s_cp (lk_1 hB') (lk_1 hB) (by omega) (by omega) (Nat.le_refl _) (Nat.le_refl _) (by decide) fun r1 h1 => ?_
  simp -implicitDefEqProofs (disch := first | assumption | omega) only [szS_0, szS_i, szS_r, szS_l, x_cons, x_goto, ob_some, kl_i, kl_r, kl_l, kl_n, push_n, push_s, pop_0, pop_i, pop_r, Int.reduceToNat, List.length_cons, List.length_nil, Nat.reduceAdd, Nat.reduceLeDiff, Nat.zero_add, true_and, nI_n0, nat_le, Nat.add_zero, rt_la_copyFrom, x_al0, x_al1, x_alen, x_call, x_getf, x_ldc, x_putf, x_vret, lf_0, lf_1, lf_2, lf_3, lf_4, ls_0, ls_1, ln_L1, ln_L2]
  refine s_cp (lk_2 hB') (lk_2 hB) (by omega) (by omega) (Nat.le_refl _) (Nat.le_refl _) (by decide) fun r2 h2 => ?_
  simp -implicitDefEqProofs (disch := first | assumption | omega) only [szS_0, szS_i, szS_r, szS_l, x_cons, x_goto, ob_some, kl_i, kl_r, kl_l, kl_n, push_n, push_s, pop_0, pop_i, pop_r, Int.reduceToNat, List.length_cons, List.length_nil, Nat.reduceAdd, Nat.reduceLeDiff, Nat.zero_add, true_and, nI_n0, nat_le, Nat.add_zero, rt_la_copyFrom, x_al0, x_al1, x_alen, x_call, x_getf, x_ldc, x_putf, x_vret]
  clear hB hB'
  refine H _ (fun c hc => ?_) ⟨?_, ?_, fun k hk => ?_, fun k hk => ?_⟩
  · rw [upw_o (by omega), upw_o (by omega), up2_o (by omega), up2_o (by omega)]
  · rw [upw_o (by omega), upw_o (by omega), up2_n (by decide), up2_s]
  · rw [upw_o (by omega), upw_o (by omega), up2_s, up2_o (by omega)]
  · rw [upw_o (by omega), upw_s, h1, if_pos hk, up2_o (by omega), up2_o (by omega)]
  · rw [upw_s, h2, if_pos hk, upw_o (by omega), up2_o (by omega), up2_o (by omega)]
theorem s_tcopy (hT : t = 1 ∨ t = 31 ∨ t = 61) (hS : s = 1 ∨ s = 31 ∨ s = 61) (hd : t + 30 ≤ s ∨ s + 30 ≤ t) (H : ∀ g', cqT t s g g' → P none (E g' q)) : callC (ev (d + 3)) to_copyFrom [.ref t, .ref s] (E g q) P := by
  refine in_to_copyFrom (by rcases hT with rfl | rfl | rfl <;> rfl) ?_
  have lt : t < 100 := by omega
  have ls : s < 100 := by omega
  rw [b_to_copyFrom_0]
  simp -implicitDefEqProofs (disch := first | assumption | omega) only [szS_0, szS_i, szS_r, szS_l, x_cons, x_goto, ob_some, kl_i, kl_r, kl_l, kl_n, push_n, push_s, pop_0, pop_i, pop_r, Int.reduceToNat, List.length_cons, List.length_nil, Nat.reduceAdd, Nat.reduceLeDiff, Nat.zero_add, true_and, nI_n0, nat_le, Nat.add_zero, rt_to_copyFrom, x_al0, x_al1, x_alen, x_call, x_getf, x_ldc, x_vret, tf_0_0, tf_0_1, tf_0_2, tf_0_3, tf_0_4]
  refine s_dcopy hT hS hd fun g1 f1 c1 => ?_
  simp -implicitDefEqProofs (disch := first | assumption | omega) only [szS_0, szS_i, szS_r, szS_l, x_cons, x_goto, ob_some, kl_i, kl_r, kl_l, kl_n, push_n, push_s, pop_0, pop_i, pop_r, Int.reduceToNat, List.length_cons, List.length_nil, Nat.reduceAdd, Nat.reduceLeDiff, Nat.zero_add, true_and, nI_n0, nat_le, Nat.add_zero, rt_to_copyFrom, x_al0, x_al1, x_alen, x_call, x_getf, x_ldc, x_vret, tf_0_0, tf_0_1, tf_0_2, tf_0_3, tf_0_4]
  refine s_scopy (by omega) (by omega) (by omega) fun g2 f2 c2 => ?_
  simp -implicitDefEqProofs (disch := first | assumption | omega) only [szS_0, szS_i, szS_r, szS_l, x_cons, x_goto, ob_some, kl_i, kl_r, kl_l, kl_n, push_n, push_s, pop_0, pop_i, pop_r, Int.reduceToNat, List.length_cons, List.length_nil, Nat.reduceAdd, Nat.reduceLeDiff, Nat.zero_add, true_and, nI_n0, nat_le, Nat.add_zero, rt_to_copyFrom, x_al0, x_al1, x_alen, x_call, x_getf, x_ldc, x_vret, tf_0_0, tf_0_1, tf_0_2, tf_0_3, tf_0_4]
  refine s_lcopy (by omega) (by omega) (by omega) fun g3 f3 c3 => ?_
  simp -implicitDefEqProofs (disch := first | assumption | omega) only [szS_0, szS_i, szS_r, szS_l, x_cons, x_goto, ob_some, kl_i, kl_r, kl_l, kl_n, push_n, push_s, pop_0, pop_i, pop_r, Int.reduceToNat, List.length_cons, List.length_nil, Nat.reduceAdd, Nat.reduceLeDiff, Nat.zero_add, true_and, nI_n0, nat_le, Nat.add_zero, rt_to_copyFrom, x_al0, x_al1, x_alen, x_call, x_getf, x_ldc, x_vret, tf_0_0, tf_0_1, tf_0_2, tf_0_3, tf_0_4]
  refine s_lcopy (by omega) (by omega) (by omega) fun g4 f4 c4 => ?_
  simp -implicitDefEqProofs (disch := first | assumption | omega) only [szS_0, szS_i, szS_r, szS_l, x_cons, x_goto, ob_some, kl_i, kl_r, kl_l, kl_n, push_n, push_s, pop_0, pop_i, pop_r, Int.reduceToNat, List.length_cons, List.length_nil, Nat.reduceAdd, Nat.reduceLeDiff, Nat.zero_add, true_and, nI_n0, nat_le, Nat.add_zero, rt_to_copyFrom, x_al0, x_al1, x_alen, x_call, x_getf, x_ldc, x_vret, tf_0_0, tf_0_1, tf_0_2, tf_0_3, tf_0_4, tn_29]
  refine s_cp (tk_29 hS) (tk_29 hT) (by omega) (by omega) (Nat.le_refl _) (Nat.le_refl _) (by decide) fun r h => ?_
  simp -implicitDefEqProofs (disch := first | assumption | omega) only [szS_0, szS_i, szS_r, szS_l, x_cons, x_goto, ob_some, kl_i, kl_r, kl_l, kl_n, push_n, push_s, pop_0, pop_i, pop_r, Int.reduceToNat, List.length_cons, List.length_nil, Nat.reduceAdd, Nat.reduceLeDiff, Nat.zero_add, true_and, nI_n0, nat_le, Nat.add_zero, rt_to_copyFrom, x_al0, x_al1, x_alen, x_call, x_getf, x_ldc, x_vret]
  clear hT hS
  -- where a cell comes from
  have q4 : ∀ c, (c < t + 25 ∨ t + 27 < c) → c ≠ t + 29 → upw g4 (t + 29) r c = g3 c := fun c a1 a2 => by rw [upw_o a2, f4 c a1]
  have q3 : ∀ c, (c < t + 21 ∨ t + 27 < c) → c ≠ t + 29 → upw g4 (t + 29) r c = g2 c := fun c a1 a2 => by rw [q4 c (by omega) a2, f3 c (by omega)]
  have q2 : ∀ c, (c < t + 6 ∨ t + 27 < c) → c ≠ t + 29 → upw g4 (t + 29) r c = g1 c := fun c a1 a2 => by rw [q3 c (by omega) a2, f2 c (by omega)]
  have p1 : ∀ c, (s ≤ c ∧ c < s + 30) → g1 c = g c := fun c a1 => f1 c (by omega)
  have p2 : ∀ c, (s ≤ c ∧ c < s + 30) → g2 c = g c := fun c a1 => by rw [f2 c (by omega), p1 c a1]
  have p3 : ∀ c, (s ≤ c ∧ c < s + 30) → g3 c = g c := fun c a1 => by rw [f3 c (by omega), p2 c a1]
  have p4 : ∀ c, (s ≤ c ∧ c < s + 30) → g4 c = g c := fun c a1 => by rw [f4 c (by omega), p3 c a1]
  obtain ⟨a0, a1, a2, a3, a4⟩ := c1
  obtain ⟨b0, b1, b2, b3, b4, b5, b6⟩ := c2
  obtain ⟨k0, k1, k2, k3⟩ := c3
  obtain ⟨m0, m1, m2, m3⟩ := c4
  refine H _ ⟨fun c hc => by rw [q2 c (by omega) (by omega), f1 c (by omega)], ⟨?_, fun k hk => ?_, fun k hk => ?_, fun k hk => ?_, fun k hk => ?_⟩, ⟨fun k hk => ?_, fun k hk => ?_, fun i k hi hk => ?_, fun k hk => ?_, fun k hk => ?_, fun k hk => ?_, fun k hk => ?_⟩, ⟨?_, ?_, fun k hk => ?_, fun k hk => ?_⟩, ⟨?_, ?_, fun k hk => ?_, fun k hk => ?_⟩, fun k hk => ?_⟩
  · rw [q2 _ (by omega) (by omega), a0]
  · rw [q2 _ (by omega) (by omega), a1 k hk]
  · rw [q2 _ (by omega) (by omega), a2 k hk]
  · rw [q2 _ (by omega) (by omega), a3 k hk]
  · rw [q2 _ (by omega) (by omega), a4 k hk]
  · rw [q3 _ (by omega) (by omega), b0 k hk, p1 _ (by omega)]
  · rw [q3 _ (by omega) (by omega), b1 k hk, p1 _ (by omega)]
  · rw [q3 _ (by omega) (by omega), b2 i k hi hk, p1 _ (by omega)]
  · rw [q3 _ (by omega) (by omega), b3 k hk, p1 _ (by omega)]
  · rw [q3 _ (by omega) (by omega), b4 k hk, p1 _ (by omega)]
  · rw [q3 _ (by omega) (by omega), b5 k hk, p1 _ (by omega)]
  · rw [q3 _ (by omega) (by omega), b6 k hk, p1 _ (by omega)]
  · rw [q4 _ (by omega) (by omega), k0, p2 _ (by omega)]
  · rw [q4 _ (by omega) (by omega), k1, p2 _ (by omega)]
  · rw [q4 _ (by omega) (by omega), k2 k hk, p2 _ (by omega)]
  · rw [q4 _ (by omega) (by omega), k3 k hk, p2 _ (by omega)]
  · rw [upw_o (by omega), m0, p3 _ (by omega)]
  · rw [upw_o (by omega), m1, p3 _ (by omega)]
  · rw [upw_o (by omega), m2 k hk, p3 _ (by omega)]
  · rw [upw_o (by omega), m3 k hk, p3 _ (by omega)]
  · rw [upw_s, h, if_pos hk, p4 _ (by omega)]
end CC
/-- what is copied is tied as it was -/
theorem Tc_cp {t s : Nat} {w : Nat → Int32} {g g' : Nat → Nat → Int32} (hw : WI w) (h : cqT t s g g') (hc : Tc s w g) : Tc t w g' := by
  obtain ⟨-, ⟨a0, a1, a2, a3, a4⟩, ⟨b0, b1, b2, b3, b4, b5, b6⟩, -⟩ := h
  obtain ⟨c1, c2, c3, c4, c5, c6, c7⟩ := hc
  have h0 := wi_n hw
  refine ⟨⟨by rw [a0]; exact c1.1, by rw [b0 0 (by decide)]; exact c1.2.1, by rw [b0 1 (by decide)]; exact c1.2.2.1, by rw [b0 2 (by decide)]; exact c1.2.2.2.1, by rw [show t + 7 = t + 6 + 1 from rfl, b1 0 (by decide)]; exact c1.2.2.2.2.1, by rw [show t + 7 = t + 6 + 1 from rfl, b1 1 (by decide)]; exact c1.2.2.2.2.2⟩, fun n hn => ?_, fun n a hn ha => ?_, fun i m hi hm => ?_, fun n hn hs => ?_, fun n hn => ?_, fun k hk => ?_⟩
  · rw [a1 n hn, a2 n hn]; exact c2 n hn
  · rw [a3 _ (by omega)]; exact c3 n a hn ha
  · rw [a4 _ (by omega)]; exact c4 i m hi hm
  · have := c5 n hn hs
    rw [show t + 17 = t + 6 + 11 from rfl, show t + 18 = t + 6 + 12 from rfl, b3 n (by omega), b4 n (by omega)]
    exact ⟨this.1, this.2.1, fun a ha => by rw [show t + 19 = t + 6 + 13 from rfl, b5 _ (by omega)]; exact this.2.2 a ha⟩
  · obtain ⟨e0, e1, e2, e3, e4, e5, e6, e7⟩ := c6 n hn
    exact ⟨(b2 0 n (by decide) hn).trans e0, (b2 1 n (by decide) hn).trans e1, (b2 2 n (by decide) hn).trans e2, (b2 3 n (by decide) hn).trans e3, (b2 4 n (by decide) hn).trans e4, (b2 5 n (by decide) hn).trans e5, (b2 6 n (by decide) hn).trans e6, (b2 7 n (by decide) hn).trans e7⟩
  · rw [show t + 20 = t + 6 + 14 from rfl, b6 k hk]; exact c7 k hk
theorem lnC_b {k : Nat} {c c' st st' : Nat → Int32} (e : ∀ j, j < 400 → c' j = c j) (es : ∀ j, j < 33 → st' j = st j) : ∀ {ls : LW} {j f : Nat}, j + ls.length ≤ 16 → lnC k c st j f ls → lnC k c' st' j f ls
  | [], _, _, _, _ => trivial
  | (A, C) :: r, j, f, hj, h => by
    rw [List.length_cons] at hj
    obtain ⟨⟨h1, h2, h3, h4, h5, h6⟩, h7⟩ := h
    exact ⟨⟨by rw [es _ (by omega)]; exact h1, by rw [es _ (by omega)]; exact h2, by rw [es _ (by omega)]; exact h3, h4, cdR_b (by omega) e h5, cdR_b h4 e h6⟩, lnC_b e es (by omega) h7⟩
theorem LC_b {b b' k : Nat} {g g' : Nat → Nat → Int32} {ls : LW} (h : cqL b b' g g') (hL : LC b' k g ls) : LC b k g' ls :=
  ⟨by rw [h.1]; exact hL.1, hL.2.1, lnC_b h.2.2.1 h.2.2.2 (by have := hL.2.1; omega) hL.2.2.1, by rw [h.2.2.2 0 (by decide)]; exact hL.2.2.2⟩
theorem CL_cp {t s : Nat} {g g' : Nat → Nat → Int32} {V M : LW} (h : cqT t s g g') (hL : CL s g V M) : CL t g' V M :=
  ⟨LC_b h.2.2.2.1 hL.1, LC_b h.2.2.2.2.1 hL.2.1, hL.2.2⟩
theorem Tx_cp {t s : Nat} {w : Nat → Int32} {g g' : Nat → Nat → Int32} (h : cqT t s g g') (hx : Tx true s w g) : Tx true t w g' := by
  obtain ⟨-, -, ⟨b0, b1, -⟩, -, -, h6⟩ := h
  have h1 : g (s + 6) 4 = w 2 ∧ ∀ k, k < 600 → g (s + 29) k = w (600 + k) := hx.1
  have h2 : g (s + 6) 3 = w 5 ∧ g (s + 7) 2 = w 8 ∧ g (s + 7) 3 = w 9 := hx.2
  refine ⟨⟨by rw [b0 4 (by decide)]; exact h1.1, fun k hk => by rw [h6 k hk]; exact h1.2 k hk⟩, ?_⟩
  show g' (t + 6) 3 = w 5 ∧ g' (t + 7) 2 = w 8 ∧ g' (t + 7) 3 = w 9
  rw [b0 3 (by decide), show t + 7 = t + 6 + 1 from rfl, b1 2 (by decide), b1 3 (by decide)]
  exact h2
