/-! the law's loop -/
theorem World_m {B B' : Nat} (hB : B ≤ B') {g : Nat → Nat → Int32} (h : World B g) : World B' g := by
  obtain ⟨w, V, M, pl, im, R, hD, hK, hM⟩ := h
  exact ⟨w, V, M, pl, im, R, DI_m hB hD, hK, hM⟩
theorem and_31 (x : Int32) : ∃ k, k < 32 ∧ x &&& nI 31 = nI k := by
  refine ⟨(x.toBitVec &&& 31#32).toNat, ?_, Int32.toBitVec_inj.mp ?_⟩
  · rw [BitVec.toNat_and]
    exact Nat.lt_of_le_of_lt Nat.and_le_right (by decide)
  · rw [nI_bv, BitVec.ofNat_toNat, BitVec.setWidth_eq]
    rfl
theorem rt_lw_law_0 : retI lw_law (nI 0) = True := eq_true ⟨.boolean, by decide +kernel, rfl⟩
theorem rt_lw_law_1 : retI lw_law (nI 1) = True := eq_true ⟨.boolean, by decide +kernel, rfl⟩
theorem rt_lw_law_b {x : Bool} : retI lw_law (bI x) = True := by
  cases x
  · exact rt_lw_law_0
  · exact rt_lw_law_1
section LWL
variable {d L B : Nat} {xs : Nat → Int32} {g : Nat → Nat → Int32} {q : Nat → Nat → Int64} {P : QT}
theorem two_go {D m1 m2 : Nat} {a1 a2 : List Value} (h : two D L xs B m1 m2 a1 a2 g q) {Q : QT} (H : ∀ a g1 q1, Env L xs g1 → (∀ Q2 : QT, (∀ g2 q2, Env L xs g2 → World B g2 → Q2 (some (.int a)) (E g2 q2)) → callC (ev D) m2 a2 (E g1 q1) Q2) → Q (some (.int a)) (E g1 q1)) : callC (ev D) m1 a1 (E g q) Q := by
  obtain ⟨r, h', hC, a, g1, q1, rfl, rfl, hE1, r2, h2, hC2, rfl, g2, q2, rfl, hE2, hW2⟩ := h
  exact ⟨_, _, hC, H a g1 q1 hE1 fun Q2 hQ => ⟨_, _, hC2, hQ g2 q2 hE2 hW2⟩⟩
theorem sc_ln (hE : Env L xs g) (hL : L ≤ 3072) : aln (E g q) 300001 = some L := by
  show some (g 300002 0).toNatClampNeg = some L
  rw [hE.2.2, nI_cl (by omega)]
theorem sc_ld (hE : Env L xs g) (hL : L ≤ 3072) {k : Nat} (hk : k < L) : ild (E g q) 300001 (nI k) = some (.int (xs k)) := by
  unfold ild inb
  rw [sc_ln hE hL]
  have e1 : kd 300001 = (8, 0) := rfl
  rw [e1, if_pos ⟨Or.inr (Or.inr rfl), decide_eq_true ⟨by rw [nI_I (by omega)]; exact Int.natCast_nonneg _, by rw [nI_I (by omega)]; exact Int.ofNat_lt.mpr hk⟩⟩, nI_cl (by omega), ← hE.2.1]
  rfl
theorem lw_state (hL : L ≤ 3072) (hW : World B g) (hE : Env L xs g) {i : Nat} (hi : i + 6 ≤ L) (H : ∀ g2 q2, Env L xs g2 → World (B) g2 → wp (ev (d + 51)) P lw_law 1134 [some (.ref 300001), some (.ref 0), some (.ref 196), some (.int (nI i))] [] (E g2 q2)) : wp (ev (d + 51)) P lw_law 168 [some (.ref 300001), some (.ref 0), some (.ref 196), some (.int (nI i))] [] (E g q) := by
  have l1 : i + 1 < L := by omega
  have ld : ∀ {g1 : Nat → Nat → Int32} {q1 : Nat → Nat → Int64} {k : Nat}, Env L xs g1 → k < L → ild (E g1 q1) 300001 (nI k) = some (.int (xs k)) := fun e h => sc_ld e hL h
  rw [b_lw_law_168]
  simp -implicitDefEqProofs (disch := first | assumption | omega) only [szS_0, szS_i, szS_r, szS_l, x_cons, x_goto, ob_some, kl_i, kl_r, kl_l, kl_n, push_n, push_s, pop_0, pop_i, pop_r, Int.reduceToNat, List.length_cons, List.length_nil, Nat.reduceAdd, Nat.reduceLeDiff, Nat.zero_add, true_and, nI_n0, nat_le, Nat.add_zero, i_6, rt_lw_law_0, rt_lw_law_1, rt_lw_law_b, x_al0, x_al1, x_al2, x_alen, x_as1, x_as2, x_call, x_dupi, x_dupr, x_goto, x_iadd, x_iaload, x_iand, x_iceq, x_icgt, x_ifeq, x_il3, x_inc3, x_iret, x_is3, x_isub, x_ldc, x_tsw, nI_add, ld hE]
  refine two_go (k_state (d := d + 49) hW hE) fun a g1 q1 E1 K => ?_
  simp -implicitDefEqProofs (disch := first | assumption | omega) only [szS_0, szS_i, szS_r, szS_l, x_cons, x_goto, ob_some, kl_i, kl_r, kl_l, kl_n, push_n, push_s, pop_0, pop_i, pop_r, Int.reduceToNat, List.length_cons, List.length_nil, Nat.reduceAdd, Nat.reduceLeDiff, Nat.zero_add, true_and, nI_n0, nat_le, Nat.add_zero, i_6, rt_lw_law_0, rt_lw_law_1, rt_lw_law_b, x_al0, x_al1, x_al2, x_alen, x_as1, x_as2, x_call, x_dupi, x_dupr, x_goto, x_iadd, x_iaload, x_iand, x_iceq, x_icgt, x_ifeq, x_il3, x_inc3, x_iret, x_is3, x_isub, x_ldc, x_tsw, nI_add, ld E1]
  refine K _ fun g2 q2 E2 W2 => ?_
  simp -implicitDefEqProofs (disch := first | assumption | omega) only [szS_0, szS_i, szS_r, szS_l, x_cons, x_goto, ob_some, kl_i, kl_r, kl_l, kl_n, push_n, push_s, pop_0, pop_i, pop_r, Int.reduceToNat, List.length_cons, List.length_nil, Nat.reduceAdd, Nat.reduceLeDiff, Nat.zero_add, true_and, nI_n0, nat_le, Nat.add_zero, i_6, rt_lw_law_0, rt_lw_law_1, rt_lw_law_b, x_al0, x_al1, x_al2, x_alen, x_as1, x_as2, x_call, x_dupi, x_dupr, x_goto, x_iadd, x_iaload, x_iand, x_iceq, x_icgt, x_ifeq, x_il3, x_inc3, x_iret, x_is3, x_isub, x_ldc, x_tsw, ↓reduceIte]
  exact H g2 q2 E2 W2
theorem lw_set (hL : L ≤ 3072) (hW : World B g) (hE : Env L xs g) {i : Nat} (hi : i + 6 ≤ L) (H : ∀ g2 q2, Env L xs g2 → World (B) g2 → wp (ev (d + 51)) P lw_law 1134 [some (.ref 300001), some (.ref 0), some (.ref 196), some (.int (nI i))] [] (E g2 q2)) : wp (ev (d + 51)) P lw_law 191 [some (.ref 300001), some (.ref 0), some (.ref 196), some (.int (nI i))] [] (E g q) := by
  have l1 : i + 1 < L := by omega
  have l2 : i + 2 < L := by omega
  have ld : ∀ {g1 : Nat → Nat → Int32} {q1 : Nat → Nat → Int64} {k : Nat}, Env L xs g1 → k < L → ild (E g1 q1) 300001 (nI k) = some (.int (xs k)) := fun e h => sc_ld e hL h
  rw [b_lw_law_191]
  simp -implicitDefEqProofs (disch := first | assumption | omega) only [szS_0, szS_i, szS_r, szS_l, x_cons, x_goto, ob_some, kl_i, kl_r, kl_l, kl_n, push_n, push_s, pop_0, pop_i, pop_r, Int.reduceToNat, List.length_cons, List.length_nil, Nat.reduceAdd, Nat.reduceLeDiff, Nat.zero_add, true_and, nI_n0, nat_le, Nat.add_zero, i_6, rt_lw_law_0, rt_lw_law_1, rt_lw_law_b, x_al0, x_al1, x_al2, x_alen, x_as1, x_as2, x_call, x_dupi, x_dupr, x_goto, x_iadd, x_iaload, x_iand, x_iceq, x_icgt, x_ifeq, x_il3, x_inc3, x_iret, x_is3, x_isub, x_ldc, x_tsw, nI_add, ld hE]
  refine two_go (k_set (d := d + 49) hW hE) fun a g1 q1 E1 K => ?_
  simp -implicitDefEqProofs (disch := first | assumption | omega) only [szS_0, szS_i, szS_r, szS_l, x_cons, x_goto, ob_some, kl_i, kl_r, kl_l, kl_n, push_n, push_s, pop_0, pop_i, pop_r, Int.reduceToNat, List.length_cons, List.length_nil, Nat.reduceAdd, Nat.reduceLeDiff, Nat.zero_add, true_and, nI_n0, nat_le, Nat.add_zero, i_6, rt_lw_law_0, rt_lw_law_1, rt_lw_law_b, x_al0, x_al1, x_al2, x_alen, x_as1, x_as2, x_call, x_dupi, x_dupr, x_goto, x_iadd, x_iaload, x_iand, x_iceq, x_icgt, x_ifeq, x_il3, x_inc3, x_iret, x_is3, x_isub, x_ldc, x_tsw, nI_add, ld E1]
  refine K _ fun g2 q2 E2 W2 => ?_
  simp -implicitDefEqProofs (disch := first | assumption | omega) only [szS_0, szS_i, szS_r, szS_l, x_cons, x_goto, ob_some, kl_i, kl_r, kl_l, kl_n, push_n, push_s, pop_0, pop_i, pop_r, Int.reduceToNat, List.length_cons, List.length_nil, Nat.reduceAdd, Nat.reduceLeDiff, Nat.zero_add, true_and, nI_n0, nat_le, Nat.add_zero, i_6, rt_lw_law_0, rt_lw_law_1, rt_lw_law_b, x_al0, x_al1, x_al2, x_alen, x_as1, x_as2, x_call, x_dupi, x_dupr, x_goto, x_iadd, x_iaload, x_iand, x_iceq, x_icgt, x_ifeq, x_il3, x_inc3, x_iret, x_is3, x_isub, x_ldc, x_tsw, ↓reduceIte]
  exact H g2 q2 E2 W2
theorem lw_town (hB : B + 9999 ≤ 6000000) (hL : L ≤ 3072) (hW : World B g) (hE : Env L xs g) {i : Nat} (hi : i + 6 ≤ L) (H : ∀ g2 q2, Env L xs g2 → World (B + 9999) g2 → wp (ev (d + 51)) P lw_law 1134 [some (.ref 300001), some (.ref 0), some (.ref 196), some (.int (nI i))] [] (E g2 q2)) : wp (ev (d + 51)) P lw_law 224 [some (.ref 300001), some (.ref 0), some (.ref 196), some (.int (nI i))] [] (E g q) := by
  have l1 : i + 1 < L := by omega
  have l2 : i + 2 < L := by omega
  have l3 : i + 3 < L := by omega
  have ld : ∀ {g1 : Nat → Nat → Int32} {q1 : Nat → Nat → Int64} {k : Nat}, Env L xs g1 → k < L → ild (E g1 q1) 300001 (nI k) = some (.int (xs k)) := fun e h => sc_ld e hL h
  rw [b_lw_law_224]
  simp -implicitDefEqProofs (disch := first | assumption | omega) only [szS_0, szS_i, szS_r, szS_l, x_cons, x_goto, ob_some, kl_i, kl_r, kl_l, kl_n, push_n, push_s, pop_0, pop_i, pop_r, Int.reduceToNat, List.length_cons, List.length_nil, Nat.reduceAdd, Nat.reduceLeDiff, Nat.zero_add, true_and, nI_n0, nat_le, Nat.add_zero, i_6, rt_lw_law_0, rt_lw_law_1, rt_lw_law_b, x_al0, x_al1, x_al2, x_alen, x_as1, x_as2, x_call, x_dupi, x_dupr, x_goto, x_iadd, x_iaload, x_iand, x_iceq, x_icgt, x_ifeq, x_il3, x_inc3, x_iret, x_is3, x_isub, x_ldc, x_tsw, nI_add, ld hE]
  refine two_go (k_town (d := d + 47) hB hW hE) fun a g1 q1 E1 K => ?_
  simp -implicitDefEqProofs (disch := first | assumption | omega) only [szS_0, szS_i, szS_r, szS_l, x_cons, x_goto, ob_some, kl_i, kl_r, kl_l, kl_n, push_n, push_s, pop_0, pop_i, pop_r, Int.reduceToNat, List.length_cons, List.length_nil, Nat.reduceAdd, Nat.reduceLeDiff, Nat.zero_add, true_and, nI_n0, nat_le, Nat.add_zero, i_6, rt_lw_law_0, rt_lw_law_1, rt_lw_law_b, x_al0, x_al1, x_al2, x_alen, x_as1, x_as2, x_call, x_dupi, x_dupr, x_goto, x_iadd, x_iaload, x_iand, x_iceq, x_icgt, x_ifeq, x_il3, x_inc3, x_iret, x_is3, x_isub, x_ldc, x_tsw, nI_add, ld E1]
  refine K _ fun g2 q2 E2 W2 => ?_
  simp -implicitDefEqProofs (disch := first | assumption | omega) only [szS_0, szS_i, szS_r, szS_l, x_cons, x_goto, ob_some, kl_i, kl_r, kl_l, kl_n, push_n, push_s, pop_0, pop_i, pop_r, Int.reduceToNat, List.length_cons, List.length_nil, Nat.reduceAdd, Nat.reduceLeDiff, Nat.zero_add, true_and, nI_n0, nat_le, Nat.add_zero, i_6, rt_lw_law_0, rt_lw_law_1, rt_lw_law_b, x_al0, x_al1, x_al2, x_alen, x_as1, x_as2, x_call, x_dupi, x_dupr, x_goto, x_iadd, x_iaload, x_iand, x_iceq, x_icgt, x_ifeq, x_il3, x_inc3, x_iret, x_is3, x_isub, x_ldc, x_tsw, ↓reduceIte]
  exact H g2 q2 E2 W2
theorem lw_buy (hL : L ≤ 3072) (hW : World B g) (hE : Env L xs g) {i : Nat} (hi : i + 6 ≤ L) (H : ∀ g2 q2, Env L xs g2 → World (B) g2 → wp (ev (d + 51)) P lw_law 1134 [some (.ref 300001), some (.ref 0), some (.ref 196), some (.int (nI i))] [] (E g2 q2)) : wp (ev (d + 51)) P lw_law 267 [some (.ref 300001), some (.ref 0), some (.ref 196), some (.int (nI i))] [] (E g q) := by
  have l1 : i + 1 < L := by omega
  have l2 : i + 2 < L := by omega
  have l3 : i + 3 < L := by omega
  have ld : ∀ {g1 : Nat → Nat → Int32} {q1 : Nat → Nat → Int64} {k : Nat}, Env L xs g1 → k < L → ild (E g1 q1) 300001 (nI k) = some (.int (xs k)) := fun e h => sc_ld e hL h
  rw [b_lw_law_267]
  simp -implicitDefEqProofs (disch := first | assumption | omega) only [szS_0, szS_i, szS_r, szS_l, x_cons, x_goto, ob_some, kl_i, kl_r, kl_l, kl_n, push_n, push_s, pop_0, pop_i, pop_r, Int.reduceToNat, List.length_cons, List.length_nil, Nat.reduceAdd, Nat.reduceLeDiff, Nat.zero_add, true_and, nI_n0, nat_le, Nat.add_zero, i_6, rt_lw_law_0, rt_lw_law_1, rt_lw_law_b, x_al0, x_al1, x_al2, x_alen, x_as1, x_as2, x_call, x_dupi, x_dupr, x_goto, x_iadd, x_iaload, x_iand, x_iceq, x_icgt, x_ifeq, x_il3, x_inc3, x_iret, x_is3, x_isub, x_ldc, x_tsw, nI_add, ld hE]
  refine two_go (k_buy (d := d + 46) hW hE) fun a g1 q1 E1 K => ?_
  simp -implicitDefEqProofs (disch := first | assumption | omega) only [szS_0, szS_i, szS_r, szS_l, x_cons, x_goto, ob_some, kl_i, kl_r, kl_l, kl_n, push_n, push_s, pop_0, pop_i, pop_r, Int.reduceToNat, List.length_cons, List.length_nil, Nat.reduceAdd, Nat.reduceLeDiff, Nat.zero_add, true_and, nI_n0, nat_le, Nat.add_zero, i_6, rt_lw_law_0, rt_lw_law_1, rt_lw_law_b, x_al0, x_al1, x_al2, x_alen, x_as1, x_as2, x_call, x_dupi, x_dupr, x_goto, x_iadd, x_iaload, x_iand, x_iceq, x_icgt, x_ifeq, x_il3, x_inc3, x_iret, x_is3, x_isub, x_ldc, x_tsw, nI_add, ld E1]
  refine K _ fun g2 q2 E2 W2 => ?_
  simp -implicitDefEqProofs (disch := first | assumption | omega) only [szS_0, szS_i, szS_r, szS_l, x_cons, x_goto, ob_some, kl_i, kl_r, kl_l, kl_n, push_n, push_s, pop_0, pop_i, pop_r, Int.reduceToNat, List.length_cons, List.length_nil, Nat.reduceAdd, Nat.reduceLeDiff, Nat.zero_add, true_and, nI_n0, nat_le, Nat.add_zero, i_6, rt_lw_law_0, rt_lw_law_1, rt_lw_law_b, x_al0, x_al1, x_al2, x_alen, x_as1, x_as2, x_call, x_dupi, x_dupr, x_goto, x_iadd, x_iaload, x_iand, x_iceq, x_icgt, x_ifeq, x_il3, x_inc3, x_iret, x_is3, x_isub, x_ldc, x_tsw, ↓reduceIte]
  exact H g2 q2 E2 W2
theorem lw_dig (hL : L ≤ 3072) (hW : World B g) (hE : Env L xs g) {i : Nat} (hi : i + 6 ≤ L) (H : ∀ g2 q2, Env L xs g2 → World (B) g2 → wp (ev (d + 51)) P lw_law 1134 [some (.ref 300001), some (.ref 0), some (.ref 196), some (.int (nI i))] [] (E g2 q2)) : wp (ev (d + 51)) P lw_law 310 [some (.ref 300001), some (.ref 0), some (.ref 196), some (.int (nI i))] [] (E g q) := by
  have l1 : i + 1 < L := by omega
  have l2 : i + 2 < L := by omega
  have l3 : i + 3 < L := by omega
  have ld : ∀ {g1 : Nat → Nat → Int32} {q1 : Nat → Nat → Int64} {k : Nat}, Env L xs g1 → k < L → ild (E g1 q1) 300001 (nI k) = some (.int (xs k)) := fun e h => sc_ld e hL h
  rw [b_lw_law_310]
  simp -implicitDefEqProofs (disch := first | assumption | omega) only [szS_0, szS_i, szS_r, szS_l, x_cons, x_goto, ob_some, kl_i, kl_r, kl_l, kl_n, push_n, push_s, pop_0, pop_i, pop_r, Int.reduceToNat, List.length_cons, List.length_nil, Nat.reduceAdd, Nat.reduceLeDiff, Nat.zero_add, true_and, nI_n0, nat_le, Nat.add_zero, i_6, rt_lw_law_0, rt_lw_law_1, rt_lw_law_b, x_al0, x_al1, x_al2, x_alen, x_as1, x_as2, x_call, x_dupi, x_dupr, x_goto, x_iadd, x_iaload, x_iand, x_iceq, x_icgt, x_ifeq, x_il3, x_inc3, x_iret, x_is3, x_isub, x_ldc, x_tsw, nI_add, ld hE]
  refine two_go (k_dig (d := d + 46) hW hE) fun a g1 q1 E1 K => ?_
  simp -implicitDefEqProofs (disch := first | assumption | omega) only [szS_0, szS_i, szS_r, szS_l, x_cons, x_goto, ob_some, kl_i, kl_r, kl_l, kl_n, push_n, push_s, pop_0, pop_i, pop_r, Int.reduceToNat, List.length_cons, List.length_nil, Nat.reduceAdd, Nat.reduceLeDiff, Nat.zero_add, true_and, nI_n0, nat_le, Nat.add_zero, i_6, rt_lw_law_0, rt_lw_law_1, rt_lw_law_b, x_al0, x_al1, x_al2, x_alen, x_as1, x_as2, x_call, x_dupi, x_dupr, x_goto, x_iadd, x_iaload, x_iand, x_iceq, x_icgt, x_ifeq, x_il3, x_inc3, x_iret, x_is3, x_isub, x_ldc, x_tsw, nI_add, ld E1]
  refine K _ fun g2 q2 E2 W2 => ?_
  simp -implicitDefEqProofs (disch := first | assumption | omega) only [szS_0, szS_i, szS_r, szS_l, x_cons, x_goto, ob_some, kl_i, kl_r, kl_l, kl_n, push_n, push_s, pop_0, pop_i, pop_r, Int.reduceToNat, List.length_cons, List.length_nil, Nat.reduceAdd, Nat.reduceLeDiff, Nat.zero_add, true_and, nI_n0, nat_le, Nat.add_zero, i_6, rt_lw_law_0, rt_lw_law_1, rt_lw_law_b, x_al0, x_al1, x_al2, x_alen, x_as1, x_as2, x_call, x_dupi, x_dupr, x_goto, x_iadd, x_iaload, x_iand, x_iceq, x_icgt, x_ifeq, x_il3, x_inc3, x_iret, x_is3, x_isub, x_ldc, x_tsw, ↓reduceIte]
  exact H g2 q2 E2 W2
theorem lw_feed (hL : L ≤ 3072) (hW : World B g) (hE : Env L xs g) {i : Nat} (hi : i + 6 ≤ L) (H : ∀ g2 q2, Env L xs g2 → World (B) g2 → wp (ev (d + 51)) P lw_law 1134 [some (.ref 300001), some (.ref 0), some (.ref 196), some (.int (nI i))] [] (E g2 q2)) : wp (ev (d + 51)) P lw_law 353 [some (.ref 300001), some (.ref 0), some (.ref 196), some (.int (nI i))] [] (E g q) := by
  have l1 : i + 1 < L := by omega
  have l2 : i + 2 < L := by omega
  have l3 : i + 3 < L := by omega
  have l4 : i + 4 < L := by omega
  have l5 : i + 5 < L := by omega
  have ld : ∀ {g1 : Nat → Nat → Int32} {q1 : Nat → Nat → Int64} {k : Nat}, Env L xs g1 → k < L → ild (E g1 q1) 300001 (nI k) = some (.int (xs k)) := fun e h => sc_ld e hL h
  rw [b_lw_law_353]
  simp -implicitDefEqProofs (disch := first | assumption | omega) only [szS_0, szS_i, szS_r, szS_l, x_cons, x_goto, ob_some, kl_i, kl_r, kl_l, kl_n, push_n, push_s, pop_0, pop_i, pop_r, Int.reduceToNat, List.length_cons, List.length_nil, Nat.reduceAdd, Nat.reduceLeDiff, Nat.zero_add, true_and, nI_n0, nat_le, Nat.add_zero, i_6, rt_lw_law_0, rt_lw_law_1, rt_lw_law_b, x_al0, x_al1, x_al2, x_alen, x_as1, x_as2, x_call, x_dupi, x_dupr, x_goto, x_iadd, x_iaload, x_iand, x_iceq, x_icgt, x_ifeq, x_il3, x_inc3, x_iret, x_is3, x_isub, x_ldc, x_tsw, nI_add, ld hE]
  refine two_go (k_feed (d := d + 49) hW hE) fun a g1 q1 E1 K => ?_
  simp -implicitDefEqProofs (disch := first | assumption | omega) only [szS_0, szS_i, szS_r, szS_l, x_cons, x_goto, ob_some, kl_i, kl_r, kl_l, kl_n, push_n, push_s, pop_0, pop_i, pop_r, Int.reduceToNat, List.length_cons, List.length_nil, Nat.reduceAdd, Nat.reduceLeDiff, Nat.zero_add, true_and, nI_n0, nat_le, Nat.add_zero, i_6, rt_lw_law_0, rt_lw_law_1, rt_lw_law_b, x_al0, x_al1, x_al2, x_alen, x_as1, x_as2, x_call, x_dupi, x_dupr, x_goto, x_iadd, x_iaload, x_iand, x_iceq, x_icgt, x_ifeq, x_il3, x_inc3, x_iret, x_is3, x_isub, x_ldc, x_tsw, nI_add, ld E1]
  refine K _ fun g2 q2 E2 W2 => ?_
  simp -implicitDefEqProofs (disch := first | assumption | omega) only [szS_0, szS_i, szS_r, szS_l, x_cons, x_goto, ob_some, kl_i, kl_r, kl_l, kl_n, push_n, push_s, pop_0, pop_i, pop_r, Int.reduceToNat, List.length_cons, List.length_nil, Nat.reduceAdd, Nat.reduceLeDiff, Nat.zero_add, true_and, nI_n0, nat_le, Nat.add_zero, i_6, rt_lw_law_0, rt_lw_law_1, rt_lw_law_b, x_al0, x_al1, x_al2, x_alen, x_as1, x_as2, x_call, x_dupi, x_dupr, x_goto, x_iadd, x_iaload, x_iand, x_iceq, x_icgt, x_ifeq, x_il3, x_inc3, x_iret, x_is3, x_isub, x_ldc, x_tsw, ↓reduceIte]
  exact H g2 q2 E2 W2
theorem lw_end (hL : L ≤ 3072) (hW : World B g) (hE : Env L xs g) {i : Nat} (hi : i + 6 ≤ L) (H : ∀ g2 q2, Env L xs g2 → World (B) g2 → wp (ev (d + 51)) P lw_law 1134 [some (.ref 300001), some (.ref 0), some (.ref 196), some (.int (nI i))] [] (E g2 q2)) : wp (ev (d + 51)) P lw_law 416 [some (.ref 300001), some (.ref 0), some (.ref 196), some (.int (nI i))] [] (E g q) := by
  have l1 : i + 1 < L := by omega
  have ld : ∀ {g1 : Nat → Nat → Int32} {q1 : Nat → Nat → Int64} {k : Nat}, Env L xs g1 → k < L → ild (E g1 q1) 300001 (nI k) = some (.int (xs k)) := fun e h => sc_ld e hL h
  rw [b_lw_law_416]
  simp -implicitDefEqProofs (disch := first | assumption | omega) only [szS_0, szS_i, szS_r, szS_l, x_cons, x_goto, ob_some, kl_i, kl_r, kl_l, kl_n, push_n, push_s, pop_0, pop_i, pop_r, Int.reduceToNat, List.length_cons, List.length_nil, Nat.reduceAdd, Nat.reduceLeDiff, Nat.zero_add, true_and, nI_n0, nat_le, Nat.add_zero, i_6, rt_lw_law_0, rt_lw_law_1, rt_lw_law_b, x_al0, x_al1, x_al2, x_alen, x_as1, x_as2, x_call, x_dupi, x_dupr, x_goto, x_iadd, x_iaload, x_iand, x_iceq, x_icgt, x_ifeq, x_il3, x_inc3, x_iret, x_is3, x_isub, x_ldc, x_tsw, nI_add, ld hE]
  refine two_go (k_end (d := d + 49) hW hE) fun a g1 q1 E1 K => ?_
  simp -implicitDefEqProofs (disch := first | assumption | omega) only [szS_0, szS_i, szS_r, szS_l, x_cons, x_goto, ob_some, kl_i, kl_r, kl_l, kl_n, push_n, push_s, pop_0, pop_i, pop_r, Int.reduceToNat, List.length_cons, List.length_nil, Nat.reduceAdd, Nat.reduceLeDiff, Nat.zero_add, true_and, nI_n0, nat_le, Nat.add_zero, i_6, rt_lw_law_0, rt_lw_law_1, rt_lw_law_b, x_al0, x_al1, x_al2, x_alen, x_as1, x_as2, x_call, x_dupi, x_dupr, x_goto, x_iadd, x_iaload, x_iand, x_iceq, x_icgt, x_ifeq, x_il3, x_inc3, x_iret, x_is3, x_isub, x_ldc, x_tsw, nI_add, ld E1]
  refine K _ fun g2 q2 E2 W2 => ?_
  simp -implicitDefEqProofs (disch := first | assumption | omega) only [szS_0, szS_i, szS_r, szS_l, x_cons, x_goto, ob_some, kl_i, kl_r, kl_l, kl_n, push_n, push_s, pop_0, pop_i, pop_r, Int.reduceToNat, List.length_cons, List.length_nil, Nat.reduceAdd, Nat.reduceLeDiff, Nat.zero_add, true_and, nI_n0, nat_le, Nat.add_zero, i_6, rt_lw_law_0, rt_lw_law_1, rt_lw_law_b, x_al0, x_al1, x_al2, x_alen, x_as1, x_as2, x_call, x_dupi, x_dupr, x_goto, x_iadd, x_iaload, x_iand, x_iceq, x_icgt, x_ifeq, x_il3, x_inc3, x_iret, x_is3, x_isub, x_ldc, x_tsw, ↓reduceIte]
  exact H g2 q2 E2 W2
theorem lw_text (hB : 15984 ≤ B) (hL : L ≤ 3072) (hW : World B g) (hE : Env L xs g) {i : Nat} (hi : i + 6 ≤ L) (H : ∀ g2 q2, Env L xs g2 → World (B) g2 → wp (ev (d + 51)) P lw_law 1134 [some (.ref 300001), some (.ref 0), some (.ref 196), some (.int (nI i))] [] (E g2 q2)) : wp (ev (d + 51)) P lw_law 439 [some (.ref 300001), some (.ref 0), some (.ref 196), some (.int (nI i))] [] (E g q) := by
  have l1 : i + 1 < L := by omega
  have ld : ∀ {g1 : Nat → Nat → Int32} {q1 : Nat → Nat → Int64} {k : Nat}, Env L xs g1 → k < L → ild (E g1 q1) 300001 (nI k) = some (.int (xs k)) := fun e h => sc_ld e hL h
  rw [b_lw_law_439]
  simp -implicitDefEqProofs (disch := first | assumption | omega) only [szS_0, szS_i, szS_r, szS_l, x_cons, x_goto, ob_some, kl_i, kl_r, kl_l, kl_n, push_n, push_s, pop_0, pop_i, pop_r, Int.reduceToNat, List.length_cons, List.length_nil, Nat.reduceAdd, Nat.reduceLeDiff, Nat.zero_add, true_and, nI_n0, nat_le, Nat.add_zero, i_6, rt_lw_law_0, rt_lw_law_1, rt_lw_law_b, x_al0, x_al1, x_al2, x_alen, x_as1, x_as2, x_call, x_dupi, x_dupr, x_goto, x_iadd, x_iaload, x_iand, x_iceq, x_icgt, x_ifeq, x_il3, x_inc3, x_iret, x_is3, x_isub, x_ldc, x_tsw, nI_add, ld hE]
  refine two_go (k_text (d := d + 0) hB hW hE) fun a g1 q1 E1 K => ?_
  simp -implicitDefEqProofs (disch := first | assumption | omega) only [szS_0, szS_i, szS_r, szS_l, x_cons, x_goto, ob_some, kl_i, kl_r, kl_l, kl_n, push_n, push_s, pop_0, pop_i, pop_r, Int.reduceToNat, List.length_cons, List.length_nil, Nat.reduceAdd, Nat.reduceLeDiff, Nat.zero_add, true_and, nI_n0, nat_le, Nat.add_zero, i_6, rt_lw_law_0, rt_lw_law_1, rt_lw_law_b, x_al0, x_al1, x_al2, x_alen, x_as1, x_as2, x_call, x_dupi, x_dupr, x_goto, x_iadd, x_iaload, x_iand, x_iceq, x_icgt, x_ifeq, x_il3, x_inc3, x_iret, x_is3, x_isub, x_ldc, x_tsw, nI_add, ld E1]
  refine K _ fun g2 q2 E2 W2 => ?_
  simp -implicitDefEqProofs (disch := first | assumption | omega) only [szS_0, szS_i, szS_r, szS_l, x_cons, x_goto, ob_some, kl_i, kl_r, kl_l, kl_n, push_n, push_s, pop_0, pop_i, pop_r, Int.reduceToNat, List.length_cons, List.length_nil, Nat.reduceAdd, Nat.reduceLeDiff, Nat.zero_add, true_and, nI_n0, nat_le, Nat.add_zero, i_6, rt_lw_law_0, rt_lw_law_1, rt_lw_law_b, x_al0, x_al1, x_al2, x_alen, x_as1, x_as2, x_call, x_dupi, x_dupr, x_goto, x_iadd, x_iaload, x_iand, x_iceq, x_icgt, x_ifeq, x_il3, x_inc3, x_iret, x_is3, x_isub, x_ldc, x_tsw, ↓reduceIte]
  exact H g2 q2 E2 W2
theorem lw_fault (hL : L ≤ 3072) (hW : World B g) (hE : Env L xs g) {i : Nat} (hi : i + 6 ≤ L) (H : ∀ g2 q2, Env L xs g2 → World (B) g2 → wp (ev (d + 51)) P lw_law 1134 [some (.ref 300001), some (.ref 0), some (.ref 196), some (.int (nI i))] [] (E g2 q2)) : wp (ev (d + 51)) P lw_law 462 [some (.ref 300001), some (.ref 0), some (.ref 196), some (.int (nI i))] [] (E g q) := by
  have l1 : i + 1 < L := by omega
  have ld : ∀ {g1 : Nat → Nat → Int32} {q1 : Nat → Nat → Int64} {k : Nat}, Env L xs g1 → k < L → ild (E g1 q1) 300001 (nI k) = some (.int (xs k)) := fun e h => sc_ld e hL h
  rw [b_lw_law_462]
  simp -implicitDefEqProofs (disch := first | assumption | omega) only [szS_0, szS_i, szS_r, szS_l, x_cons, x_goto, ob_some, kl_i, kl_r, kl_l, kl_n, push_n, push_s, pop_0, pop_i, pop_r, Int.reduceToNat, List.length_cons, List.length_nil, Nat.reduceAdd, Nat.reduceLeDiff, Nat.zero_add, true_and, nI_n0, nat_le, Nat.add_zero, i_6, rt_lw_law_0, rt_lw_law_1, rt_lw_law_b, x_al0, x_al1, x_al2, x_alen, x_as1, x_as2, x_call, x_dupi, x_dupr, x_goto, x_iadd, x_iaload, x_iand, x_iceq, x_icgt, x_ifeq, x_il3, x_inc3, x_iret, x_is3, x_isub, x_ldc, x_tsw, nI_add, ld hE]
  refine two_go (k_fault (d := d + 50) hW hE) fun a g1 q1 E1 K => ?_
  simp -implicitDefEqProofs (disch := first | assumption | omega) only [szS_0, szS_i, szS_r, szS_l, x_cons, x_goto, ob_some, kl_i, kl_r, kl_l, kl_n, push_n, push_s, pop_0, pop_i, pop_r, Int.reduceToNat, List.length_cons, List.length_nil, Nat.reduceAdd, Nat.reduceLeDiff, Nat.zero_add, true_and, nI_n0, nat_le, Nat.add_zero, i_6, rt_lw_law_0, rt_lw_law_1, rt_lw_law_b, x_al0, x_al1, x_al2, x_alen, x_as1, x_as2, x_call, x_dupi, x_dupr, x_goto, x_iadd, x_iaload, x_iand, x_iceq, x_icgt, x_ifeq, x_il3, x_inc3, x_iret, x_is3, x_isub, x_ldc, x_tsw, nI_add, ld E1]
  refine K _ fun g2 q2 E2 W2 => ?_
  simp -implicitDefEqProofs (disch := first | assumption | omega) only [szS_0, szS_i, szS_r, szS_l, x_cons, x_goto, ob_some, kl_i, kl_r, kl_l, kl_n, push_n, push_s, pop_0, pop_i, pop_r, Int.reduceToNat, List.length_cons, List.length_nil, Nat.reduceAdd, Nat.reduceLeDiff, Nat.zero_add, true_and, nI_n0, nat_le, Nat.add_zero, i_6, rt_lw_law_0, rt_lw_law_1, rt_lw_law_b, x_al0, x_al1, x_al2, x_alen, x_as1, x_as2, x_call, x_dupi, x_dupr, x_goto, x_iadd, x_iaload, x_iand, x_iceq, x_icgt, x_ifeq, x_il3, x_inc3, x_iret, x_is3, x_isub, x_ldc, x_tsw, ↓reduceIte]
  exact H g2 q2 E2 W2
theorem lw_days (hL : L ≤ 3072) (hW : World B g) (hE : Env L xs g) {i : Nat} (hi : i + 6 ≤ L) (H : ∀ g2 q2, Env L xs g2 → World (B) g2 → wp (ev (d + 51)) P lw_law 1134 [some (.ref 300001), some (.ref 0), some (.ref 196), some (.int (nI i))] [] (E g2 q2)) : wp (ev (d + 51)) P lw_law 485 [some (.ref 300001), some (.ref 0), some (.ref 196), some (.int (nI i))] [] (E g q) := by
  have l1 : i + 1 < L := by omega
  have ld : ∀ {g1 : Nat → Nat → Int32} {q1 : Nat → Nat → Int64} {k : Nat}, Env L xs g1 → k < L → ild (E g1 q1) 300001 (nI k) = some (.int (xs k)) := fun e h => sc_ld e hL h
  rw [b_lw_law_485]
  simp -implicitDefEqProofs (disch := first | assumption | omega) only [szS_0, szS_i, szS_r, szS_l, x_cons, x_goto, ob_some, kl_i, kl_r, kl_l, kl_n, push_n, push_s, pop_0, pop_i, pop_r, Int.reduceToNat, List.length_cons, List.length_nil, Nat.reduceAdd, Nat.reduceLeDiff, Nat.zero_add, true_and, nI_n0, nat_le, Nat.add_zero, i_6, rt_lw_law_0, rt_lw_law_1, rt_lw_law_b, x_al0, x_al1, x_al2, x_alen, x_as1, x_as2, x_call, x_dupi, x_dupr, x_goto, x_iadd, x_iaload, x_iand, x_iceq, x_icgt, x_ifeq, x_il3, x_inc3, x_iret, x_is3, x_isub, x_ldc, x_tsw, nI_add, ld hE]
  refine two_go (k_days (d := d + 40) hW hE) fun a g1 q1 E1 K => ?_
  simp -implicitDefEqProofs (disch := first | assumption | omega) only [szS_0, szS_i, szS_r, szS_l, x_cons, x_goto, ob_some, kl_i, kl_r, kl_l, kl_n, push_n, push_s, pop_0, pop_i, pop_r, Int.reduceToNat, List.length_cons, List.length_nil, Nat.reduceAdd, Nat.reduceLeDiff, Nat.zero_add, true_and, nI_n0, nat_le, Nat.add_zero, i_6, rt_lw_law_0, rt_lw_law_1, rt_lw_law_b, x_al0, x_al1, x_al2, x_alen, x_as1, x_as2, x_call, x_dupi, x_dupr, x_goto, x_iadd, x_iaload, x_iand, x_iceq, x_icgt, x_ifeq, x_il3, x_inc3, x_iret, x_is3, x_isub, x_ldc, x_tsw, nI_add, ld E1]
  refine K _ fun g2 q2 E2 W2 => ?_
  simp -implicitDefEqProofs (disch := first | assumption | omega) only [szS_0, szS_i, szS_r, szS_l, x_cons, x_goto, ob_some, kl_i, kl_r, kl_l, kl_n, push_n, push_s, pop_0, pop_i, pop_r, Int.reduceToNat, List.length_cons, List.length_nil, Nat.reduceAdd, Nat.reduceLeDiff, Nat.zero_add, true_and, nI_n0, nat_le, Nat.add_zero, i_6, rt_lw_law_0, rt_lw_law_1, rt_lw_law_b, x_al0, x_al1, x_al2, x_alen, x_as1, x_as2, x_call, x_dupi, x_dupr, x_goto, x_iadd, x_iaload, x_iand, x_iceq, x_icgt, x_ifeq, x_il3, x_inc3, x_iret, x_is3, x_isub, x_ldc, x_tsw, ↓reduceIte]
  exact H g2 q2 E2 W2
theorem lw_node (hL : L ≤ 3072) (hW : World B g) (hE : Env L xs g) {i : Nat} (hi : i + 6 ≤ L) (H : ∀ g2 q2, Env L xs g2 → World (B) g2 → wp (ev (d + 51)) P lw_law 1134 [some (.ref 300001), some (.ref 0), some (.ref 196), some (.int (nI i))] [] (E g2 q2)) : wp (ev (d + 51)) P lw_law 508 [some (.ref 300001), some (.ref 0), some (.ref 196), some (.int (nI i))] [] (E g q) := by
  have l1 : i + 1 < L := by omega
  have l2 : i + 2 < L := by omega
  have ld : ∀ {g1 : Nat → Nat → Int32} {q1 : Nat → Nat → Int64} {k : Nat}, Env L xs g1 → k < L → ild (E g1 q1) 300001 (nI k) = some (.int (xs k)) := fun e h => sc_ld e hL h
  rw [b_lw_law_508]
  simp -implicitDefEqProofs (disch := first | assumption | omega) only [szS_0, szS_i, szS_r, szS_l, x_cons, x_goto, ob_some, kl_i, kl_r, kl_l, kl_n, push_n, push_s, pop_0, pop_i, pop_r, Int.reduceToNat, List.length_cons, List.length_nil, Nat.reduceAdd, Nat.reduceLeDiff, Nat.zero_add, true_and, nI_n0, nat_le, Nat.add_zero, i_6, rt_lw_law_0, rt_lw_law_1, rt_lw_law_b, x_al0, x_al1, x_al2, x_alen, x_as1, x_as2, x_call, x_dupi, x_dupr, x_goto, x_iadd, x_iaload, x_iand, x_iceq, x_icgt, x_ifeq, x_il3, x_inc3, x_iret, x_is3, x_isub, x_ldc, x_tsw, nI_add, ld hE]
  refine two_go (k_node (d := d + 48) hW hE) fun a g1 q1 E1 K => ?_
  simp -implicitDefEqProofs (disch := first | assumption | omega) only [szS_0, szS_i, szS_r, szS_l, x_cons, x_goto, ob_some, kl_i, kl_r, kl_l, kl_n, push_n, push_s, pop_0, pop_i, pop_r, Int.reduceToNat, List.length_cons, List.length_nil, Nat.reduceAdd, Nat.reduceLeDiff, Nat.zero_add, true_and, nI_n0, nat_le, Nat.add_zero, i_6, rt_lw_law_0, rt_lw_law_1, rt_lw_law_b, x_al0, x_al1, x_al2, x_alen, x_as1, x_as2, x_call, x_dupi, x_dupr, x_goto, x_iadd, x_iaload, x_iand, x_iceq, x_icgt, x_ifeq, x_il3, x_inc3, x_iret, x_is3, x_isub, x_ldc, x_tsw, nI_add, ld E1]
  refine K _ fun g2 q2 E2 W2 => ?_
  simp -implicitDefEqProofs (disch := first | assumption | omega) only [szS_0, szS_i, szS_r, szS_l, x_cons, x_goto, ob_some, kl_i, kl_r, kl_l, kl_n, push_n, push_s, pop_0, pop_i, pop_r, Int.reduceToNat, List.length_cons, List.length_nil, Nat.reduceAdd, Nat.reduceLeDiff, Nat.zero_add, true_and, nI_n0, nat_le, Nat.add_zero, i_6, rt_lw_law_0, rt_lw_law_1, rt_lw_law_b, x_al0, x_al1, x_al2, x_alen, x_as1, x_as2, x_call, x_dupi, x_dupr, x_goto, x_iadd, x_iaload, x_iand, x_iceq, x_icgt, x_ifeq, x_il3, x_inc3, x_iret, x_is3, x_isub, x_ldc, x_tsw, ↓reduceIte]
  exact H g2 q2 E2 W2
theorem lw_fork (hL : L ≤ 3072) (hW : World B g) (hE : Env L xs g) {i : Nat} (hi : i + 6 ≤ L) (H : ∀ g2 q2, Env L xs g2 → World (B) g2 → wp (ev (d + 51)) P lw_law 1134 [some (.ref 300001), some (.ref 0), some (.ref 196), some (.int (nI i))] [] (E g2 q2)) : wp (ev (d + 51)) P lw_law 541 [some (.ref 300001), some (.ref 0), some (.ref 196), some (.int (nI i))] [] (E g q) := by
  have l1 : i + 1 < L := by omega
  have l2 : i + 2 < L := by omega
  have ld : ∀ {g1 : Nat → Nat → Int32} {q1 : Nat → Nat → Int64} {k : Nat}, Env L xs g1 → k < L → ild (E g1 q1) 300001 (nI k) = some (.int (xs k)) := fun e h => sc_ld e hL h
  rw [b_lw_law_541]
  simp -implicitDefEqProofs (disch := first | assumption | omega) only [szS_0, szS_i, szS_r, szS_l, x_cons, x_goto, ob_some, kl_i, kl_r, kl_l, kl_n, push_n, push_s, pop_0, pop_i, pop_r, Int.reduceToNat, List.length_cons, List.length_nil, Nat.reduceAdd, Nat.reduceLeDiff, Nat.zero_add, true_and, nI_n0, nat_le, Nat.add_zero, i_6, rt_lw_law_0, rt_lw_law_1, rt_lw_law_b, x_al0, x_al1, x_al2, x_alen, x_as1, x_as2, x_call, x_dupi, x_dupr, x_goto, x_iadd, x_iaload, x_iand, x_iceq, x_icgt, x_ifeq, x_il3, x_inc3, x_iret, x_is3, x_isub, x_ldc, x_tsw, nI_add, ld hE]
  refine two_go (k_fork (d := d + 43) hW hE) fun a g1 q1 E1 K => ?_
  simp -implicitDefEqProofs (disch := first | assumption | omega) only [szS_0, szS_i, szS_r, szS_l, x_cons, x_goto, ob_some, kl_i, kl_r, kl_l, kl_n, push_n, push_s, pop_0, pop_i, pop_r, Int.reduceToNat, List.length_cons, List.length_nil, Nat.reduceAdd, Nat.reduceLeDiff, Nat.zero_add, true_and, nI_n0, nat_le, Nat.add_zero, i_6, rt_lw_law_0, rt_lw_law_1, rt_lw_law_b, x_al0, x_al1, x_al2, x_alen, x_as1, x_as2, x_call, x_dupi, x_dupr, x_goto, x_iadd, x_iaload, x_iand, x_iceq, x_icgt, x_ifeq, x_il3, x_inc3, x_iret, x_is3, x_isub, x_ldc, x_tsw, nI_add, ld E1]
  refine K _ fun g2 q2 E2 W2 => ?_
  simp -implicitDefEqProofs (disch := first | assumption | omega) only [szS_0, szS_i, szS_r, szS_l, x_cons, x_goto, ob_some, kl_i, kl_r, kl_l, kl_n, push_n, push_s, pop_0, pop_i, pop_r, Int.reduceToNat, List.length_cons, List.length_nil, Nat.reduceAdd, Nat.reduceLeDiff, Nat.zero_add, true_and, nI_n0, nat_le, Nat.add_zero, i_6, rt_lw_law_0, rt_lw_law_1, rt_lw_law_b, x_al0, x_al1, x_al2, x_alen, x_as1, x_as2, x_call, x_dupi, x_dupr, x_goto, x_iadd, x_iaload, x_iand, x_iceq, x_icgt, x_ifeq, x_il3, x_inc3, x_iret, x_is3, x_isub, x_ldc, x_tsw, ↓reduceIte]
  exact H g2 q2 E2 W2
theorem lw_of (hL : L ≤ 3072) (hW : World B g) (hE : Env L xs g) {i : Nat} (hi : i + 6 ≤ L) (H : ∀ g2 q2, Env L xs g2 → World (B) g2 → wp (ev (d + 51)) P lw_law 1134 [some (.ref 300001), some (.ref 0), some (.ref 196), some (.int (nI i))] [] (E g2 q2)) : wp (ev (d + 51)) P lw_law 574 [some (.ref 300001), some (.ref 0), some (.ref 196), some (.int (nI i))] [] (E g q) := by
  have l1 : i + 1 < L := by omega
  have l2 : i + 2 < L := by omega
  have ld : ∀ {g1 : Nat → Nat → Int32} {q1 : Nat → Nat → Int64} {k : Nat}, Env L xs g1 → k < L → ild (E g1 q1) 300001 (nI k) = some (.int (xs k)) := fun e h => sc_ld e hL h
  rw [b_lw_law_574]
  simp -implicitDefEqProofs (disch := first | assumption | omega) only [szS_0, szS_i, szS_r, szS_l, x_cons, x_goto, ob_some, kl_i, kl_r, kl_l, kl_n, push_n, push_s, pop_0, pop_i, pop_r, Int.reduceToNat, List.length_cons, List.length_nil, Nat.reduceAdd, Nat.reduceLeDiff, Nat.zero_add, true_and, nI_n0, nat_le, Nat.add_zero, i_6, rt_lw_law_0, rt_lw_law_1, rt_lw_law_b, x_al0, x_al1, x_al2, x_alen, x_as1, x_as2, x_call, x_dupi, x_dupr, x_goto, x_iadd, x_iaload, x_iand, x_iceq, x_icgt, x_ifeq, x_il3, x_inc3, x_iret, x_is3, x_isub, x_ldc, x_tsw, nI_add, ld hE]
  refine two_go (k_of (d := d + 45) hW hE) fun a g1 q1 E1 K => ?_
  simp -implicitDefEqProofs (disch := first | assumption | omega) only [szS_0, szS_i, szS_r, szS_l, x_cons, x_goto, ob_some, kl_i, kl_r, kl_l, kl_n, push_n, push_s, pop_0, pop_i, pop_r, Int.reduceToNat, List.length_cons, List.length_nil, Nat.reduceAdd, Nat.reduceLeDiff, Nat.zero_add, true_and, nI_n0, nat_le, Nat.add_zero, i_6, rt_lw_law_0, rt_lw_law_1, rt_lw_law_b, x_al0, x_al1, x_al2, x_alen, x_as1, x_as2, x_call, x_dupi, x_dupr, x_goto, x_iadd, x_iaload, x_iand, x_iceq, x_icgt, x_ifeq, x_il3, x_inc3, x_iret, x_is3, x_isub, x_ldc, x_tsw, nI_add, ld E1]
  refine K _ fun g2 q2 E2 W2 => ?_
  simp -implicitDefEqProofs (disch := first | assumption | omega) only [szS_0, szS_i, szS_r, szS_l, x_cons, x_goto, ob_some, kl_i, kl_r, kl_l, kl_n, push_n, push_s, pop_0, pop_i, pop_r, Int.reduceToNat, List.length_cons, List.length_nil, Nat.reduceAdd, Nat.reduceLeDiff, Nat.zero_add, true_and, nI_n0, nat_le, Nat.add_zero, i_6, rt_lw_law_0, rt_lw_law_1, rt_lw_law_b, x_al0, x_al1, x_al2, x_alen, x_as1, x_as2, x_call, x_dupi, x_dupr, x_goto, x_iadd, x_iaload, x_iand, x_iceq, x_icgt, x_ifeq, x_il3, x_inc3, x_iret, x_is3, x_isub, x_ldc, x_tsw, ↓reduceIte]
  exact H g2 q2 E2 W2
theorem lw_votes (hL : L ≤ 3072) (hW : World B g) (hE : Env L xs g) {i : Nat} (hi : i + 6 ≤ L) (H : ∀ g2 q2, Env L xs g2 → World (B) g2 → wp (ev (d + 51)) P lw_law 1134 [some (.ref 300001), some (.ref 0), some (.ref 196), some (.int (nI i))] [] (E g2 q2)) : wp (ev (d + 51)) P lw_law 607 [some (.ref 300001), some (.ref 0), some (.ref 196), some (.int (nI i))] [] (E g q) := by
  have l1 : i + 1 < L := by omega
  have l2 : i + 2 < L := by omega
  have l3 : i + 3 < L := by omega
  have ld : ∀ {g1 : Nat → Nat → Int32} {q1 : Nat → Nat → Int64} {k : Nat}, Env L xs g1 → k < L → ild (E g1 q1) 300001 (nI k) = some (.int (xs k)) := fun e h => sc_ld e hL h
  rw [b_lw_law_607]
  simp -implicitDefEqProofs (disch := first | assumption | omega) only [szS_0, szS_i, szS_r, szS_l, x_cons, x_goto, ob_some, kl_i, kl_r, kl_l, kl_n, push_n, push_s, pop_0, pop_i, pop_r, Int.reduceToNat, List.length_cons, List.length_nil, Nat.reduceAdd, Nat.reduceLeDiff, Nat.zero_add, true_and, nI_n0, nat_le, Nat.add_zero, i_6, rt_lw_law_0, rt_lw_law_1, rt_lw_law_b, x_al0, x_al1, x_al2, x_alen, x_as1, x_as2, x_call, x_dupi, x_dupr, x_goto, x_iadd, x_iaload, x_iand, x_iceq, x_icgt, x_ifeq, x_il3, x_inc3, x_iret, x_is3, x_isub, x_ldc, x_tsw, nI_add, ld hE]
  refine two_go (k_votes (d := d + 44) hW hE) fun a g1 q1 E1 K => ?_
  simp -implicitDefEqProofs (disch := first | assumption | omega) only [szS_0, szS_i, szS_r, szS_l, x_cons, x_goto, ob_some, kl_i, kl_r, kl_l, kl_n, push_n, push_s, pop_0, pop_i, pop_r, Int.reduceToNat, List.length_cons, List.length_nil, Nat.reduceAdd, Nat.reduceLeDiff, Nat.zero_add, true_and, nI_n0, nat_le, Nat.add_zero, i_6, rt_lw_law_0, rt_lw_law_1, rt_lw_law_b, x_al0, x_al1, x_al2, x_alen, x_as1, x_as2, x_call, x_dupi, x_dupr, x_goto, x_iadd, x_iaload, x_iand, x_iceq, x_icgt, x_ifeq, x_il3, x_inc3, x_iret, x_is3, x_isub, x_ldc, x_tsw, nI_add, ld E1]
  refine K _ fun g2 q2 E2 W2 => ?_
  simp -implicitDefEqProofs (disch := first | assumption | omega) only [szS_0, szS_i, szS_r, szS_l, x_cons, x_goto, ob_some, kl_i, kl_r, kl_l, kl_n, push_n, push_s, pop_0, pop_i, pop_r, Int.reduceToNat, List.length_cons, List.length_nil, Nat.reduceAdd, Nat.reduceLeDiff, Nat.zero_add, true_and, nI_n0, nat_le, Nat.add_zero, i_6, rt_lw_law_0, rt_lw_law_1, rt_lw_law_b, x_al0, x_al1, x_al2, x_alen, x_as1, x_as2, x_call, x_dupi, x_dupr, x_goto, x_iadd, x_iaload, x_iand, x_iceq, x_icgt, x_ifeq, x_il3, x_inc3, x_iret, x_is3, x_isub, x_ldc, x_tsw, ↓reduceIte]
  exact H g2 q2 E2 W2
theorem lw_came (hL : L ≤ 3072) (hW : World B g) (hE : Env L xs g) {i : Nat} (hi : i + 6 ≤ L) (H : ∀ g2 q2, Env L xs g2 → World (B) g2 → wp (ev (d + 51)) P lw_law 1134 [some (.ref 300001), some (.ref 0), some (.ref 196), some (.int (nI i))] [] (E g2 q2)) : wp (ev (d + 51)) P lw_law 650 [some (.ref 300001), some (.ref 0), some (.ref 196), some (.int (nI i))] [] (E g q) := by
  have l1 : i + 1 < L := by omega
  have l2 : i + 2 < L := by omega
  have ld : ∀ {g1 : Nat → Nat → Int32} {q1 : Nat → Nat → Int64} {k : Nat}, Env L xs g1 → k < L → ild (E g1 q1) 300001 (nI k) = some (.int (xs k)) := fun e h => sc_ld e hL h
  rw [b_lw_law_650]
  simp -implicitDefEqProofs (disch := first | assumption | omega) only [szS_0, szS_i, szS_r, szS_l, x_cons, x_goto, ob_some, kl_i, kl_r, kl_l, kl_n, push_n, push_s, pop_0, pop_i, pop_r, Int.reduceToNat, List.length_cons, List.length_nil, Nat.reduceAdd, Nat.reduceLeDiff, Nat.zero_add, true_and, nI_n0, nat_le, Nat.add_zero, i_6, rt_lw_law_0, rt_lw_law_1, rt_lw_law_b, x_al0, x_al1, x_al2, x_alen, x_as1, x_as2, x_call, x_dupi, x_dupr, x_goto, x_iadd, x_iaload, x_iand, x_iceq, x_icgt, x_ifeq, x_il3, x_inc3, x_iret, x_is3, x_isub, x_ldc, x_tsw, nI_add, ld hE]
  refine two_go (k_came (d := d + 48) hW hE) fun a g1 q1 E1 K => ?_
  simp -implicitDefEqProofs (disch := first | assumption | omega) only [szS_0, szS_i, szS_r, szS_l, x_cons, x_goto, ob_some, kl_i, kl_r, kl_l, kl_n, push_n, push_s, pop_0, pop_i, pop_r, Int.reduceToNat, List.length_cons, List.length_nil, Nat.reduceAdd, Nat.reduceLeDiff, Nat.zero_add, true_and, nI_n0, nat_le, Nat.add_zero, i_6, rt_lw_law_0, rt_lw_law_1, rt_lw_law_b, x_al0, x_al1, x_al2, x_alen, x_as1, x_as2, x_call, x_dupi, x_dupr, x_goto, x_iadd, x_iaload, x_iand, x_iceq, x_icgt, x_ifeq, x_il3, x_inc3, x_iret, x_is3, x_isub, x_ldc, x_tsw, nI_add, ld E1]
  refine K _ fun g2 q2 E2 W2 => ?_
  simp -implicitDefEqProofs (disch := first | assumption | omega) only [szS_0, szS_i, szS_r, szS_l, x_cons, x_goto, ob_some, kl_i, kl_r, kl_l, kl_n, push_n, push_s, pop_0, pop_i, pop_r, Int.reduceToNat, List.length_cons, List.length_nil, Nat.reduceAdd, Nat.reduceLeDiff, Nat.zero_add, true_and, nI_n0, nat_le, Nat.add_zero, i_6, rt_lw_law_0, rt_lw_law_1, rt_lw_law_b, x_al0, x_al1, x_al2, x_alen, x_as1, x_as2, x_call, x_dupi, x_dupr, x_goto, x_iadd, x_iaload, x_iand, x_iceq, x_icgt, x_ifeq, x_il3, x_inc3, x_iret, x_is3, x_isub, x_ldc, x_tsw, ↓reduceIte]
  exact H g2 q2 E2 W2
theorem lw_book (hL : L ≤ 3072) (hW : World B g) (hE : Env L xs g) {i : Nat} (hi : i + 6 ≤ L) (H : ∀ g2 q2, Env L xs g2 → World (B) g2 → wp (ev (d + 51)) P lw_law 1134 [some (.ref 300001), some (.ref 0), some (.ref 196), some (.int (nI i))] [] (E g2 q2)) : wp (ev (d + 51)) P lw_law 683 [some (.ref 300001), some (.ref 0), some (.ref 196), some (.int (nI i))] [] (E g q) := by
  have l1 : i + 1 < L := by omega
  have l2 : i + 2 < L := by omega
  have ld : ∀ {g1 : Nat → Nat → Int32} {q1 : Nat → Nat → Int64} {k : Nat}, Env L xs g1 → k < L → ild (E g1 q1) 300001 (nI k) = some (.int (xs k)) := fun e h => sc_ld e hL h
  rw [b_lw_law_683]
  simp -implicitDefEqProofs (disch := first | assumption | omega) only [szS_0, szS_i, szS_r, szS_l, x_cons, x_goto, ob_some, kl_i, kl_r, kl_l, kl_n, push_n, push_s, pop_0, pop_i, pop_r, Int.reduceToNat, List.length_cons, List.length_nil, Nat.reduceAdd, Nat.reduceLeDiff, Nat.zero_add, true_and, nI_n0, nat_le, Nat.add_zero, i_6, rt_lw_law_0, rt_lw_law_1, rt_lw_law_b, x_al0, x_al1, x_al2, x_alen, x_as1, x_as2, x_call, x_dupi, x_dupr, x_goto, x_iadd, x_iaload, x_iand, x_iceq, x_icgt, x_ifeq, x_il3, x_inc3, x_iret, x_is3, x_isub, x_ldc, x_tsw, nI_add, ld hE]
  refine two_go (k_book (d := d + 49) hW hE) fun a g1 q1 E1 K => ?_
  simp -implicitDefEqProofs (disch := first | assumption | omega) only [szS_0, szS_i, szS_r, szS_l, x_cons, x_goto, ob_some, kl_i, kl_r, kl_l, kl_n, push_n, push_s, pop_0, pop_i, pop_r, Int.reduceToNat, List.length_cons, List.length_nil, Nat.reduceAdd, Nat.reduceLeDiff, Nat.zero_add, true_and, nI_n0, nat_le, Nat.add_zero, i_6, rt_lw_law_0, rt_lw_law_1, rt_lw_law_b, x_al0, x_al1, x_al2, x_alen, x_as1, x_as2, x_call, x_dupi, x_dupr, x_goto, x_iadd, x_iaload, x_iand, x_iceq, x_icgt, x_ifeq, x_il3, x_inc3, x_iret, x_is3, x_isub, x_ldc, x_tsw, nI_add, ld E1]
  refine K _ fun g2 q2 E2 W2 => ?_
  simp -implicitDefEqProofs (disch := first | assumption | omega) only [szS_0, szS_i, szS_r, szS_l, x_cons, x_goto, ob_some, kl_i, kl_r, kl_l, kl_n, push_n, push_s, pop_0, pop_i, pop_r, Int.reduceToNat, List.length_cons, List.length_nil, Nat.reduceAdd, Nat.reduceLeDiff, Nat.zero_add, true_and, nI_n0, nat_le, Nat.add_zero, i_6, rt_lw_law_0, rt_lw_law_1, rt_lw_law_b, x_al0, x_al1, x_al2, x_alen, x_as1, x_as2, x_call, x_dupi, x_dupr, x_goto, x_iadd, x_iaload, x_iand, x_iceq, x_icgt, x_ifeq, x_il3, x_inc3, x_iret, x_is3, x_isub, x_ldc, x_tsw, ↓reduceIte]
  exact H g2 q2 E2 W2
theorem lw_later (hL : L ≤ 3072) (hW : World B g) (hE : Env L xs g) {i : Nat} (hi : i + 6 ≤ L) (H : ∀ g2 q2, Env L xs g2 → World (B) g2 → wp (ev (d + 51)) P lw_law 1134 [some (.ref 300001), some (.ref 0), some (.ref 196), some (.int (nI i))] [] (E g2 q2)) : wp (ev (d + 51)) P lw_law 716 [some (.ref 300001), some (.ref 0), some (.ref 196), some (.int (nI i))] [] (E g q) := by
  have l1 : i + 1 < L := by omega
  have l2 : i + 2 < L := by omega
  have l3 : i + 3 < L := by omega
  have ld : ∀ {g1 : Nat → Nat → Int32} {q1 : Nat → Nat → Int64} {k : Nat}, Env L xs g1 → k < L → ild (E g1 q1) 300001 (nI k) = some (.int (xs k)) := fun e h => sc_ld e hL h
  rw [b_lw_law_716]
  simp -implicitDefEqProofs (disch := first | assumption | omega) only [szS_0, szS_i, szS_r, szS_l, x_cons, x_goto, ob_some, kl_i, kl_r, kl_l, kl_n, push_n, push_s, pop_0, pop_i, pop_r, Int.reduceToNat, List.length_cons, List.length_nil, Nat.reduceAdd, Nat.reduceLeDiff, Nat.zero_add, true_and, nI_n0, nat_le, Nat.add_zero, i_6, rt_lw_law_0, rt_lw_law_1, rt_lw_law_b, x_al0, x_al1, x_al2, x_alen, x_as1, x_as2, x_call, x_dupi, x_dupr, x_goto, x_iadd, x_iaload, x_iand, x_iceq, x_icgt, x_ifeq, x_il3, x_inc3, x_iret, x_is3, x_isub, x_ldc, x_tsw, nI_add, ld hE]
  refine two_go (k_later (d := d + 40) hW hE) fun a g1 q1 E1 K => ?_
  simp -implicitDefEqProofs (disch := first | assumption | omega) only [szS_0, szS_i, szS_r, szS_l, x_cons, x_goto, ob_some, kl_i, kl_r, kl_l, kl_n, push_n, push_s, pop_0, pop_i, pop_r, Int.reduceToNat, List.length_cons, List.length_nil, Nat.reduceAdd, Nat.reduceLeDiff, Nat.zero_add, true_and, nI_n0, nat_le, Nat.add_zero, i_6, rt_lw_law_0, rt_lw_law_1, rt_lw_law_b, x_al0, x_al1, x_al2, x_alen, x_as1, x_as2, x_call, x_dupi, x_dupr, x_goto, x_iadd, x_iaload, x_iand, x_iceq, x_icgt, x_ifeq, x_il3, x_inc3, x_iret, x_is3, x_isub, x_ldc, x_tsw, nI_add, ld E1]
  refine K _ fun g2 q2 E2 W2 => ?_
  simp -implicitDefEqProofs (disch := first | assumption | omega) only [szS_0, szS_i, szS_r, szS_l, x_cons, x_goto, ob_some, kl_i, kl_r, kl_l, kl_n, push_n, push_s, pop_0, pop_i, pop_r, Int.reduceToNat, List.length_cons, List.length_nil, Nat.reduceAdd, Nat.reduceLeDiff, Nat.zero_add, true_and, nI_n0, nat_le, Nat.add_zero, i_6, rt_lw_law_0, rt_lw_law_1, rt_lw_law_b, x_al0, x_al1, x_al2, x_alen, x_as1, x_as2, x_call, x_dupi, x_dupr, x_goto, x_iadd, x_iaload, x_iand, x_iceq, x_icgt, x_ifeq, x_il3, x_inc3, x_iret, x_is3, x_isub, x_ldc, x_tsw, ↓reduceIte]
  exact H g2 q2 E2 W2
theorem lw_ends (hL : L ≤ 3072) (hW : World B g) (hE : Env L xs g) {i : Nat} (hi : i + 6 ≤ L) (H : ∀ g2 q2, Env L xs g2 → World (B) g2 → wp (ev (d + 51)) P lw_law 1134 [some (.ref 300001), some (.ref 0), some (.ref 196), some (.int (nI i))] [] (E g2 q2)) : wp (ev (d + 51)) P lw_law 759 [some (.ref 300001), some (.ref 0), some (.ref 196), some (.int (nI i))] [] (E g q) := by
  have l1 : i + 1 < L := by omega
  have ld : ∀ {g1 : Nat → Nat → Int32} {q1 : Nat → Nat → Int64} {k : Nat}, Env L xs g1 → k < L → ild (E g1 q1) 300001 (nI k) = some (.int (xs k)) := fun e h => sc_ld e hL h
  rw [b_lw_law_759]
  simp -implicitDefEqProofs (disch := first | assumption | omega) only [szS_0, szS_i, szS_r, szS_l, x_cons, x_goto, ob_some, kl_i, kl_r, kl_l, kl_n, push_n, push_s, pop_0, pop_i, pop_r, Int.reduceToNat, List.length_cons, List.length_nil, Nat.reduceAdd, Nat.reduceLeDiff, Nat.zero_add, true_and, nI_n0, nat_le, Nat.add_zero, i_6, rt_lw_law_0, rt_lw_law_1, rt_lw_law_b, x_al0, x_al1, x_al2, x_alen, x_as1, x_as2, x_call, x_dupi, x_dupr, x_goto, x_iadd, x_iaload, x_iand, x_iceq, x_icgt, x_ifeq, x_il3, x_inc3, x_iret, x_is3, x_isub, x_ldc, x_tsw, nI_add, ld hE]
  refine two_go (k_ends (d := d + 40) hW hE) fun a g1 q1 E1 K => ?_
  simp -implicitDefEqProofs (disch := first | assumption | omega) only [szS_0, szS_i, szS_r, szS_l, x_cons, x_goto, ob_some, kl_i, kl_r, kl_l, kl_n, push_n, push_s, pop_0, pop_i, pop_r, Int.reduceToNat, List.length_cons, List.length_nil, Nat.reduceAdd, Nat.reduceLeDiff, Nat.zero_add, true_and, nI_n0, nat_le, Nat.add_zero, i_6, rt_lw_law_0, rt_lw_law_1, rt_lw_law_b, x_al0, x_al1, x_al2, x_alen, x_as1, x_as2, x_call, x_dupi, x_dupr, x_goto, x_iadd, x_iaload, x_iand, x_iceq, x_icgt, x_ifeq, x_il3, x_inc3, x_iret, x_is3, x_isub, x_ldc, x_tsw, nI_add, ld E1]
  refine K _ fun g2 q2 E2 W2 => ?_
  simp -implicitDefEqProofs (disch := first | assumption | omega) only [szS_0, szS_i, szS_r, szS_l, x_cons, x_goto, ob_some, kl_i, kl_r, kl_l, kl_n, push_n, push_s, pop_0, pop_i, pop_r, Int.reduceToNat, List.length_cons, List.length_nil, Nat.reduceAdd, Nat.reduceLeDiff, Nat.zero_add, true_and, nI_n0, nat_le, Nat.add_zero, i_6, rt_lw_law_0, rt_lw_law_1, rt_lw_law_b, x_al0, x_al1, x_al2, x_alen, x_as1, x_as2, x_call, x_dupi, x_dupr, x_goto, x_iadd, x_iaload, x_iand, x_iceq, x_icgt, x_ifeq, x_il3, x_inc3, x_iret, x_is3, x_isub, x_ldc, x_tsw, ↓reduceIte]
  exact H g2 q2 E2 W2
theorem lw_thirst (hL : L ≤ 3072) (hW : World B g) (hE : Env L xs g) {i : Nat} (hi : i + 6 ≤ L) (H : ∀ g2 q2, Env L xs g2 → World (B) g2 → wp (ev (d + 51)) P lw_law 1134 [some (.ref 300001), some (.ref 0), some (.ref 196), some (.int (nI i))] [] (E g2 q2)) : wp (ev (d + 51)) P lw_law 782 [some (.ref 300001), some (.ref 0), some (.ref 196), some (.int (nI i))] [] (E g q) := by
  have l1 : i + 1 < L := by omega
  have ld : ∀ {g1 : Nat → Nat → Int32} {q1 : Nat → Nat → Int64} {k : Nat}, Env L xs g1 → k < L → ild (E g1 q1) 300001 (nI k) = some (.int (xs k)) := fun e h => sc_ld e hL h
  rw [b_lw_law_782]
  simp -implicitDefEqProofs (disch := first | assumption | omega) only [szS_0, szS_i, szS_r, szS_l, x_cons, x_goto, ob_some, kl_i, kl_r, kl_l, kl_n, push_n, push_s, pop_0, pop_i, pop_r, Int.reduceToNat, List.length_cons, List.length_nil, Nat.reduceAdd, Nat.reduceLeDiff, Nat.zero_add, true_and, nI_n0, nat_le, Nat.add_zero, i_6, rt_lw_law_0, rt_lw_law_1, rt_lw_law_b, x_al0, x_al1, x_al2, x_alen, x_as1, x_as2, x_call, x_dupi, x_dupr, x_goto, x_iadd, x_iaload, x_iand, x_iceq, x_icgt, x_ifeq, x_il3, x_inc3, x_iret, x_is3, x_isub, x_ldc, x_tsw, nI_add, ld hE]
  refine two_go (k_thirst (d := d + 40) hW hE) fun a g1 q1 E1 K => ?_
  simp -implicitDefEqProofs (disch := first | assumption | omega) only [szS_0, szS_i, szS_r, szS_l, x_cons, x_goto, ob_some, kl_i, kl_r, kl_l, kl_n, push_n, push_s, pop_0, pop_i, pop_r, Int.reduceToNat, List.length_cons, List.length_nil, Nat.reduceAdd, Nat.reduceLeDiff, Nat.zero_add, true_and, nI_n0, nat_le, Nat.add_zero, i_6, rt_lw_law_0, rt_lw_law_1, rt_lw_law_b, x_al0, x_al1, x_al2, x_alen, x_as1, x_as2, x_call, x_dupi, x_dupr, x_goto, x_iadd, x_iaload, x_iand, x_iceq, x_icgt, x_ifeq, x_il3, x_inc3, x_iret, x_is3, x_isub, x_ldc, x_tsw, nI_add, ld E1]
  refine K _ fun g2 q2 E2 W2 => ?_
  simp -implicitDefEqProofs (disch := first | assumption | omega) only [szS_0, szS_i, szS_r, szS_l, x_cons, x_goto, ob_some, kl_i, kl_r, kl_l, kl_n, push_n, push_s, pop_0, pop_i, pop_r, Int.reduceToNat, List.length_cons, List.length_nil, Nat.reduceAdd, Nat.reduceLeDiff, Nat.zero_add, true_and, nI_n0, nat_le, Nat.add_zero, i_6, rt_lw_law_0, rt_lw_law_1, rt_lw_law_b, x_al0, x_al1, x_al2, x_alen, x_as1, x_as2, x_call, x_dupi, x_dupr, x_goto, x_iadd, x_iaload, x_iand, x_iceq, x_icgt, x_ifeq, x_il3, x_inc3, x_iret, x_is3, x_isub, x_ldc, x_tsw, ↓reduceIte]
  exact H g2 q2 E2 W2
theorem lw_power (hL : L ≤ 3072) (hW : World B g) (hE : Env L xs g) {i : Nat} (hi : i + 6 ≤ L) (H : ∀ g2 q2, Env L xs g2 → World (B) g2 → wp (ev (d + 51)) P lw_law 1134 [some (.ref 300001), some (.ref 0), some (.ref 196), some (.int (nI i))] [] (E g2 q2)) : wp (ev (d + 51)) P lw_law 805 [some (.ref 300001), some (.ref 0), some (.ref 196), some (.int (nI i))] [] (E g q) := by
  have l1 : i + 1 < L := by omega
  have l2 : i + 2 < L := by omega
  have ld : ∀ {g1 : Nat → Nat → Int32} {q1 : Nat → Nat → Int64} {k : Nat}, Env L xs g1 → k < L → ild (E g1 q1) 300001 (nI k) = some (.int (xs k)) := fun e h => sc_ld e hL h
  rw [b_lw_law_805]
  simp -implicitDefEqProofs (disch := first | assumption | omega) only [szS_0, szS_i, szS_r, szS_l, x_cons, x_goto, ob_some, kl_i, kl_r, kl_l, kl_n, push_n, push_s, pop_0, pop_i, pop_r, Int.reduceToNat, List.length_cons, List.length_nil, Nat.reduceAdd, Nat.reduceLeDiff, Nat.zero_add, true_and, nI_n0, nat_le, Nat.add_zero, i_6, rt_lw_law_0, rt_lw_law_1, rt_lw_law_b, x_al0, x_al1, x_al2, x_alen, x_as1, x_as2, x_call, x_dupi, x_dupr, x_goto, x_iadd, x_iaload, x_iand, x_iceq, x_icgt, x_ifeq, x_il3, x_inc3, x_iret, x_is3, x_isub, x_ldc, x_tsw, nI_add, ld hE]
  refine two_go (k_power (d := d + 45) hW hE) fun a g1 q1 E1 K => ?_
  simp -implicitDefEqProofs (disch := first | assumption | omega) only [szS_0, szS_i, szS_r, szS_l, x_cons, x_goto, ob_some, kl_i, kl_r, kl_l, kl_n, push_n, push_s, pop_0, pop_i, pop_r, Int.reduceToNat, List.length_cons, List.length_nil, Nat.reduceAdd, Nat.reduceLeDiff, Nat.zero_add, true_and, nI_n0, nat_le, Nat.add_zero, i_6, rt_lw_law_0, rt_lw_law_1, rt_lw_law_b, x_al0, x_al1, x_al2, x_alen, x_as1, x_as2, x_call, x_dupi, x_dupr, x_goto, x_iadd, x_iaload, x_iand, x_iceq, x_icgt, x_ifeq, x_il3, x_inc3, x_iret, x_is3, x_isub, x_ldc, x_tsw, nI_add, ld E1]
  refine K _ fun g2 q2 E2 W2 => ?_
  simp -implicitDefEqProofs (disch := first | assumption | omega) only [szS_0, szS_i, szS_r, szS_l, x_cons, x_goto, ob_some, kl_i, kl_r, kl_l, kl_n, push_n, push_s, pop_0, pop_i, pop_r, Int.reduceToNat, List.length_cons, List.length_nil, Nat.reduceAdd, Nat.reduceLeDiff, Nat.zero_add, true_and, nI_n0, nat_le, Nat.add_zero, i_6, rt_lw_law_0, rt_lw_law_1, rt_lw_law_b, x_al0, x_al1, x_al2, x_alen, x_as1, x_as2, x_call, x_dupi, x_dupr, x_goto, x_iadd, x_iaload, x_iand, x_iceq, x_icgt, x_ifeq, x_il3, x_inc3, x_iret, x_is3, x_isub, x_ldc, x_tsw, ↓reduceIte]
  exact H g2 q2 E2 W2
theorem lw_fewest (hL : L ≤ 3072) (hW : World B g) (hE : Env L xs g) {i : Nat} (hi : i + 6 ≤ L) (H : ∀ g2 q2, Env L xs g2 → World (B) g2 → wp (ev (d + 51)) P lw_law 1134 [some (.ref 300001), some (.ref 0), some (.ref 196), some (.int (nI i))] [] (E g2 q2)) : wp (ev (d + 51)) P lw_law 838 [some (.ref 300001), some (.ref 0), some (.ref 196), some (.int (nI i))] [] (E g q) := by
  have l1 : i + 1 < L := by omega
  have l2 : i + 2 < L := by omega
  have ld : ∀ {g1 : Nat → Nat → Int32} {q1 : Nat → Nat → Int64} {k : Nat}, Env L xs g1 → k < L → ild (E g1 q1) 300001 (nI k) = some (.int (xs k)) := fun e h => sc_ld e hL h
  rw [b_lw_law_838]
  simp -implicitDefEqProofs (disch := first | assumption | omega) only [szS_0, szS_i, szS_r, szS_l, x_cons, x_goto, ob_some, kl_i, kl_r, kl_l, kl_n, push_n, push_s, pop_0, pop_i, pop_r, Int.reduceToNat, List.length_cons, List.length_nil, Nat.reduceAdd, Nat.reduceLeDiff, Nat.zero_add, true_and, nI_n0, nat_le, Nat.add_zero, i_6, rt_lw_law_0, rt_lw_law_1, rt_lw_law_b, x_al0, x_al1, x_al2, x_alen, x_as1, x_as2, x_call, x_dupi, x_dupr, x_goto, x_iadd, x_iaload, x_iand, x_iceq, x_icgt, x_ifeq, x_il3, x_inc3, x_iret, x_is3, x_isub, x_ldc, x_tsw, nI_add, ld hE]
  refine two_go (k_fewest (d := d + 43) hW hE) fun a g1 q1 E1 K => ?_
  simp -implicitDefEqProofs (disch := first | assumption | omega) only [szS_0, szS_i, szS_r, szS_l, x_cons, x_goto, ob_some, kl_i, kl_r, kl_l, kl_n, push_n, push_s, pop_0, pop_i, pop_r, Int.reduceToNat, List.length_cons, List.length_nil, Nat.reduceAdd, Nat.reduceLeDiff, Nat.zero_add, true_and, nI_n0, nat_le, Nat.add_zero, i_6, rt_lw_law_0, rt_lw_law_1, rt_lw_law_b, x_al0, x_al1, x_al2, x_alen, x_as1, x_as2, x_call, x_dupi, x_dupr, x_goto, x_iadd, x_iaload, x_iand, x_iceq, x_icgt, x_ifeq, x_il3, x_inc3, x_iret, x_is3, x_isub, x_ldc, x_tsw, nI_add, ld E1]
  refine K _ fun g2 q2 E2 W2 => ?_
  simp -implicitDefEqProofs (disch := first | assumption | omega) only [szS_0, szS_i, szS_r, szS_l, x_cons, x_goto, ob_some, kl_i, kl_r, kl_l, kl_n, push_n, push_s, pop_0, pop_i, pop_r, Int.reduceToNat, List.length_cons, List.length_nil, Nat.reduceAdd, Nat.reduceLeDiff, Nat.zero_add, true_and, nI_n0, nat_le, Nat.add_zero, i_6, rt_lw_law_0, rt_lw_law_1, rt_lw_law_b, x_al0, x_al1, x_al2, x_alen, x_as1, x_as2, x_call, x_dupi, x_dupr, x_goto, x_iadd, x_iaload, x_iand, x_iceq, x_icgt, x_ifeq, x_il3, x_inc3, x_iret, x_is3, x_isub, x_ldc, x_tsw, ↓reduceIte]
  exact H g2 q2 E2 W2
theorem lw_least (hL : L ≤ 3072) (hW : World B g) (hE : Env L xs g) {i : Nat} (hi : i + 6 ≤ L) (H : ∀ g2 q2, Env L xs g2 → World (B) g2 → wp (ev (d + 51)) P lw_law 1134 [some (.ref 300001), some (.ref 0), some (.ref 196), some (.int (nI i))] [] (E g2 q2)) : wp (ev (d + 51)) P lw_law 871 [some (.ref 300001), some (.ref 0), some (.ref 196), some (.int (nI i))] [] (E g q) := by
  have l1 : i + 1 < L := by omega
  have l2 : i + 2 < L := by omega
  have ld : ∀ {g1 : Nat → Nat → Int32} {q1 : Nat → Nat → Int64} {k : Nat}, Env L xs g1 → k < L → ild (E g1 q1) 300001 (nI k) = some (.int (xs k)) := fun e h => sc_ld e hL h
  rw [b_lw_law_871]
  simp -implicitDefEqProofs (disch := first | assumption | omega) only [szS_0, szS_i, szS_r, szS_l, x_cons, x_goto, ob_some, kl_i, kl_r, kl_l, kl_n, push_n, push_s, pop_0, pop_i, pop_r, Int.reduceToNat, List.length_cons, List.length_nil, Nat.reduceAdd, Nat.reduceLeDiff, Nat.zero_add, true_and, nI_n0, nat_le, Nat.add_zero, i_6, rt_lw_law_0, rt_lw_law_1, rt_lw_law_b, x_al0, x_al1, x_al2, x_alen, x_as1, x_as2, x_call, x_dupi, x_dupr, x_goto, x_iadd, x_iaload, x_iand, x_iceq, x_icgt, x_ifeq, x_il3, x_inc3, x_iret, x_is3, x_isub, x_ldc, x_tsw, nI_add, ld hE]
  refine two_go (k_least (d := d + 26) hW hE) fun a g1 q1 E1 K => ?_
  simp -implicitDefEqProofs (disch := first | assumption | omega) only [szS_0, szS_i, szS_r, szS_l, x_cons, x_goto, ob_some, kl_i, kl_r, kl_l, kl_n, push_n, push_s, pop_0, pop_i, pop_r, Int.reduceToNat, List.length_cons, List.length_nil, Nat.reduceAdd, Nat.reduceLeDiff, Nat.zero_add, true_and, nI_n0, nat_le, Nat.add_zero, i_6, rt_lw_law_0, rt_lw_law_1, rt_lw_law_b, x_al0, x_al1, x_al2, x_alen, x_as1, x_as2, x_call, x_dupi, x_dupr, x_goto, x_iadd, x_iaload, x_iand, x_iceq, x_icgt, x_ifeq, x_il3, x_inc3, x_iret, x_is3, x_isub, x_ldc, x_tsw, nI_add, ld E1]
  refine K _ fun g2 q2 E2 W2 => ?_
  simp -implicitDefEqProofs (disch := first | assumption | omega) only [szS_0, szS_i, szS_r, szS_l, x_cons, x_goto, ob_some, kl_i, kl_r, kl_l, kl_n, push_n, push_s, pop_0, pop_i, pop_r, Int.reduceToNat, List.length_cons, List.length_nil, Nat.reduceAdd, Nat.reduceLeDiff, Nat.zero_add, true_and, nI_n0, nat_le, Nat.add_zero, i_6, rt_lw_law_0, rt_lw_law_1, rt_lw_law_b, x_al0, x_al1, x_al2, x_alen, x_as1, x_as2, x_call, x_dupi, x_dupr, x_goto, x_iadd, x_iaload, x_iand, x_iceq, x_icgt, x_ifeq, x_il3, x_inc3, x_iret, x_is3, x_isub, x_ldc, x_tsw, ↓reduceIte]
  exact H g2 q2 E2 W2
theorem lw_best (hL : L ≤ 3072) (hW : World B g) (hE : Env L xs g) {i : Nat} (hi : i + 6 ≤ L) (H : ∀ g2 q2, Env L xs g2 → World (B) g2 → wp (ev (d + 51)) P lw_law 1134 [some (.ref 300001), some (.ref 0), some (.ref 196), some (.int (nI i))] [] (E g2 q2)) : wp (ev (d + 51)) P lw_law 904 [some (.ref 300001), some (.ref 0), some (.ref 196), some (.int (nI i))] [] (E g q) := by
  have l1 : i + 1 < L := by omega
  have ld : ∀ {g1 : Nat → Nat → Int32} {q1 : Nat → Nat → Int64} {k : Nat}, Env L xs g1 → k < L → ild (E g1 q1) 300001 (nI k) = some (.int (xs k)) := fun e h => sc_ld e hL h
  rw [b_lw_law_904]
  simp -implicitDefEqProofs (disch := first | assumption | omega) only [szS_0, szS_i, szS_r, szS_l, x_cons, x_goto, ob_some, kl_i, kl_r, kl_l, kl_n, push_n, push_s, pop_0, pop_i, pop_r, Int.reduceToNat, List.length_cons, List.length_nil, Nat.reduceAdd, Nat.reduceLeDiff, Nat.zero_add, true_and, nI_n0, nat_le, Nat.add_zero, i_6, rt_lw_law_0, rt_lw_law_1, rt_lw_law_b, x_al0, x_al1, x_al2, x_alen, x_as1, x_as2, x_call, x_dupi, x_dupr, x_goto, x_iadd, x_iaload, x_iand, x_iceq, x_icgt, x_ifeq, x_il3, x_inc3, x_iret, x_is3, x_isub, x_ldc, x_tsw, nI_add, ld hE]
  refine two_go (k_best (d := d + 45) hW hE) fun a g1 q1 E1 K => ?_
  simp -implicitDefEqProofs (disch := first | assumption | omega) only [szS_0, szS_i, szS_r, szS_l, x_cons, x_goto, ob_some, kl_i, kl_r, kl_l, kl_n, push_n, push_s, pop_0, pop_i, pop_r, Int.reduceToNat, List.length_cons, List.length_nil, Nat.reduceAdd, Nat.reduceLeDiff, Nat.zero_add, true_and, nI_n0, nat_le, Nat.add_zero, i_6, rt_lw_law_0, rt_lw_law_1, rt_lw_law_b, x_al0, x_al1, x_al2, x_alen, x_as1, x_as2, x_call, x_dupi, x_dupr, x_goto, x_iadd, x_iaload, x_iand, x_iceq, x_icgt, x_ifeq, x_il3, x_inc3, x_iret, x_is3, x_isub, x_ldc, x_tsw, nI_add, ld E1]
  refine K _ fun g2 q2 E2 W2 => ?_
  simp -implicitDefEqProofs (disch := first | assumption | omega) only [szS_0, szS_i, szS_r, szS_l, x_cons, x_goto, ob_some, kl_i, kl_r, kl_l, kl_n, push_n, push_s, pop_0, pop_i, pop_r, Int.reduceToNat, List.length_cons, List.length_nil, Nat.reduceAdd, Nat.reduceLeDiff, Nat.zero_add, true_and, nI_n0, nat_le, Nat.add_zero, i_6, rt_lw_law_0, rt_lw_law_1, rt_lw_law_b, x_al0, x_al1, x_al2, x_alen, x_as1, x_as2, x_call, x_dupi, x_dupr, x_goto, x_iadd, x_iaload, x_iand, x_iceq, x_icgt, x_ifeq, x_il3, x_inc3, x_iret, x_is3, x_isub, x_ldc, x_tsw, ↓reduceIte]
  exact H g2 q2 E2 W2
theorem lw_most (hL : L ≤ 3072) (hW : World B g) (hE : Env L xs g) {i : Nat} (hi : i + 6 ≤ L) (H : ∀ g2 q2, Env L xs g2 → World (B) g2 → wp (ev (d + 51)) P lw_law 1134 [some (.ref 300001), some (.ref 0), some (.ref 196), some (.int (nI i))] [] (E g2 q2)) : wp (ev (d + 51)) P lw_law 927 [some (.ref 300001), some (.ref 0), some (.ref 196), some (.int (nI i))] [] (E g q) := by
  have l1 : i + 1 < L := by omega
  have ld : ∀ {g1 : Nat → Nat → Int32} {q1 : Nat → Nat → Int64} {k : Nat}, Env L xs g1 → k < L → ild (E g1 q1) 300001 (nI k) = some (.int (xs k)) := fun e h => sc_ld e hL h
  rw [b_lw_law_927]
  simp -implicitDefEqProofs (disch := first | assumption | omega) only [szS_0, szS_i, szS_r, szS_l, x_cons, x_goto, ob_some, kl_i, kl_r, kl_l, kl_n, push_n, push_s, pop_0, pop_i, pop_r, Int.reduceToNat, List.length_cons, List.length_nil, Nat.reduceAdd, Nat.reduceLeDiff, Nat.zero_add, true_and, nI_n0, nat_le, Nat.add_zero, i_6, rt_lw_law_0, rt_lw_law_1, rt_lw_law_b, x_al0, x_al1, x_al2, x_alen, x_as1, x_as2, x_call, x_dupi, x_dupr, x_goto, x_iadd, x_iaload, x_iand, x_iceq, x_icgt, x_ifeq, x_il3, x_inc3, x_iret, x_is3, x_isub, x_ldc, x_tsw, nI_add, ld hE]
  refine two_go (k_most (d := d + 26) hW hE) fun a g1 q1 E1 K => ?_
  simp -implicitDefEqProofs (disch := first | assumption | omega) only [szS_0, szS_i, szS_r, szS_l, x_cons, x_goto, ob_some, kl_i, kl_r, kl_l, kl_n, push_n, push_s, pop_0, pop_i, pop_r, Int.reduceToNat, List.length_cons, List.length_nil, Nat.reduceAdd, Nat.reduceLeDiff, Nat.zero_add, true_and, nI_n0, nat_le, Nat.add_zero, i_6, rt_lw_law_0, rt_lw_law_1, rt_lw_law_b, x_al0, x_al1, x_al2, x_alen, x_as1, x_as2, x_call, x_dupi, x_dupr, x_goto, x_iadd, x_iaload, x_iand, x_iceq, x_icgt, x_ifeq, x_il3, x_inc3, x_iret, x_is3, x_isub, x_ldc, x_tsw, nI_add, ld E1]
  refine K _ fun g2 q2 E2 W2 => ?_
  simp -implicitDefEqProofs (disch := first | assumption | omega) only [szS_0, szS_i, szS_r, szS_l, x_cons, x_goto, ob_some, kl_i, kl_r, kl_l, kl_n, push_n, push_s, pop_0, pop_i, pop_r, Int.reduceToNat, List.length_cons, List.length_nil, Nat.reduceAdd, Nat.reduceLeDiff, Nat.zero_add, true_and, nI_n0, nat_le, Nat.add_zero, i_6, rt_lw_law_0, rt_lw_law_1, rt_lw_law_b, x_al0, x_al1, x_al2, x_alen, x_as1, x_as2, x_call, x_dupi, x_dupr, x_goto, x_iadd, x_iaload, x_iand, x_iceq, x_icgt, x_ifeq, x_il3, x_inc3, x_iret, x_is3, x_isub, x_ldc, x_tsw, ↓reduceIte]
  exact H g2 q2 E2 W2
theorem lw_mud (hL : L ≤ 3072) (hW : World B g) (hE : Env L xs g) {i : Nat} (hi : i + 6 ≤ L) (H : ∀ g2 q2, Env L xs g2 → World (B) g2 → wp (ev (d + 51)) P lw_law 1134 [some (.ref 300001), some (.ref 0), some (.ref 196), some (.int (nI i))] [] (E g2 q2)) : wp (ev (d + 51)) P lw_law 950 [some (.ref 300001), some (.ref 0), some (.ref 196), some (.int (nI i))] [] (E g q) := by
  have l1 : i + 1 < L := by omega
  have l2 : i + 2 < L := by omega
  have ld : ∀ {g1 : Nat → Nat → Int32} {q1 : Nat → Nat → Int64} {k : Nat}, Env L xs g1 → k < L → ild (E g1 q1) 300001 (nI k) = some (.int (xs k)) := fun e h => sc_ld e hL h
  rw [b_lw_law_950]
  simp -implicitDefEqProofs (disch := first | assumption | omega) only [szS_0, szS_i, szS_r, szS_l, x_cons, x_goto, ob_some, kl_i, kl_r, kl_l, kl_n, push_n, push_s, pop_0, pop_i, pop_r, Int.reduceToNat, List.length_cons, List.length_nil, Nat.reduceAdd, Nat.reduceLeDiff, Nat.zero_add, true_and, nI_n0, nat_le, Nat.add_zero, i_6, rt_lw_law_0, rt_lw_law_1, rt_lw_law_b, x_al0, x_al1, x_al2, x_alen, x_as1, x_as2, x_call, x_dupi, x_dupr, x_goto, x_iadd, x_iaload, x_iand, x_iceq, x_icgt, x_ifeq, x_il3, x_inc3, x_iret, x_is3, x_isub, x_ldc, x_tsw, nI_add, ld hE]
  refine two_go (k_mud (d := d + 26) hW hE) fun a g1 q1 E1 K => ?_
  simp -implicitDefEqProofs (disch := first | assumption | omega) only [szS_0, szS_i, szS_r, szS_l, x_cons, x_goto, ob_some, kl_i, kl_r, kl_l, kl_n, push_n, push_s, pop_0, pop_i, pop_r, Int.reduceToNat, List.length_cons, List.length_nil, Nat.reduceAdd, Nat.reduceLeDiff, Nat.zero_add, true_and, nI_n0, nat_le, Nat.add_zero, i_6, rt_lw_law_0, rt_lw_law_1, rt_lw_law_b, x_al0, x_al1, x_al2, x_alen, x_as1, x_as2, x_call, x_dupi, x_dupr, x_goto, x_iadd, x_iaload, x_iand, x_iceq, x_icgt, x_ifeq, x_il3, x_inc3, x_iret, x_is3, x_isub, x_ldc, x_tsw, nI_add, ld E1]
  refine K _ fun g2 q2 E2 W2 => ?_
  simp -implicitDefEqProofs (disch := first | assumption | omega) only [szS_0, szS_i, szS_r, szS_l, x_cons, x_goto, ob_some, kl_i, kl_r, kl_l, kl_n, push_n, push_s, pop_0, pop_i, pop_r, Int.reduceToNat, List.length_cons, List.length_nil, Nat.reduceAdd, Nat.reduceLeDiff, Nat.zero_add, true_and, nI_n0, nat_le, Nat.add_zero, i_6, rt_lw_law_0, rt_lw_law_1, rt_lw_law_b, x_al0, x_al1, x_al2, x_alen, x_as1, x_as2, x_call, x_dupi, x_dupr, x_goto, x_iadd, x_iaload, x_iand, x_iceq, x_icgt, x_ifeq, x_il3, x_inc3, x_iret, x_is3, x_isub, x_ldc, x_tsw, ↓reduceIte]
  exact H g2 q2 E2 W2
theorem lw_twice (hL : L ≤ 3072) (hW : World B g) (hE : Env L xs g) {i : Nat} (hi : i + 6 ≤ L) (H : ∀ g2 q2, Env L xs g2 → World (B) g2 → wp (ev (d + 51)) P lw_law 1134 [some (.ref 300001), some (.ref 0), some (.ref 196), some (.int (nI i))] [] (E g2 q2)) : wp (ev (d + 51)) P lw_law 983 [some (.ref 300001), some (.ref 0), some (.ref 196), some (.int (nI i))] [] (E g q) := by
  have l1 : i + 1 < L := by omega
  have ld : ∀ {g1 : Nat → Nat → Int32} {q1 : Nat → Nat → Int64} {k : Nat}, Env L xs g1 → k < L → ild (E g1 q1) 300001 (nI k) = some (.int (xs k)) := fun e h => sc_ld e hL h
  rw [b_lw_law_983]
  simp -implicitDefEqProofs (disch := first | assumption | omega) only [szS_0, szS_i, szS_r, szS_l, x_cons, x_goto, ob_some, kl_i, kl_r, kl_l, kl_n, push_n, push_s, pop_0, pop_i, pop_r, Int.reduceToNat, List.length_cons, List.length_nil, Nat.reduceAdd, Nat.reduceLeDiff, Nat.zero_add, true_and, nI_n0, nat_le, Nat.add_zero, i_6, rt_lw_law_0, rt_lw_law_1, rt_lw_law_b, x_al0, x_al1, x_al2, x_alen, x_as1, x_as2, x_call, x_dupi, x_dupr, x_goto, x_iadd, x_iaload, x_iand, x_iceq, x_icgt, x_ifeq, x_il3, x_inc3, x_iret, x_is3, x_isub, x_ldc, x_tsw, nI_add, ld hE]
  refine two_go (k_twice (d := d + 45) hW hE) fun a g1 q1 E1 K => ?_
  simp -implicitDefEqProofs (disch := first | assumption | omega) only [szS_0, szS_i, szS_r, szS_l, x_cons, x_goto, ob_some, kl_i, kl_r, kl_l, kl_n, push_n, push_s, pop_0, pop_i, pop_r, Int.reduceToNat, List.length_cons, List.length_nil, Nat.reduceAdd, Nat.reduceLeDiff, Nat.zero_add, true_and, nI_n0, nat_le, Nat.add_zero, i_6, rt_lw_law_0, rt_lw_law_1, rt_lw_law_b, x_al0, x_al1, x_al2, x_alen, x_as1, x_as2, x_call, x_dupi, x_dupr, x_goto, x_iadd, x_iaload, x_iand, x_iceq, x_icgt, x_ifeq, x_il3, x_inc3, x_iret, x_is3, x_isub, x_ldc, x_tsw, nI_add, ld E1]
  refine K _ fun g2 q2 E2 W2 => ?_
  simp -implicitDefEqProofs (disch := first | assumption | omega) only [szS_0, szS_i, szS_r, szS_l, x_cons, x_goto, ob_some, kl_i, kl_r, kl_l, kl_n, push_n, push_s, pop_0, pop_i, pop_r, Int.reduceToNat, List.length_cons, List.length_nil, Nat.reduceAdd, Nat.reduceLeDiff, Nat.zero_add, true_and, nI_n0, nat_le, Nat.add_zero, i_6, rt_lw_law_0, rt_lw_law_1, rt_lw_law_b, x_al0, x_al1, x_al2, x_alen, x_as1, x_as2, x_call, x_dupi, x_dupr, x_goto, x_iadd, x_iaload, x_iand, x_iceq, x_icgt, x_ifeq, x_il3, x_inc3, x_iret, x_is3, x_isub, x_ldc, x_tsw, ↓reduceIte]
  exact H g2 q2 E2 W2
theorem lw_rows (hL : L ≤ 3072) (hW : World B g) (hE : Env L xs g) {i : Nat} (hi : i + 6 ≤ L) (H : ∀ g2 q2, Env L xs g2 → World (B) g2 → wp (ev (d + 51)) P lw_law 1134 [some (.ref 300001), some (.ref 0), some (.ref 196), some (.int (nI i))] [] (E g2 q2)) : wp (ev (d + 51)) P lw_law 1006 [some (.ref 300001), some (.ref 0), some (.ref 196), some (.int (nI i))] [] (E g q) := by
  have l1 : i + 1 < L := by omega
  have l2 : i + 2 < L := by omega
  have l3 : i + 3 < L := by omega
  have l4 : i + 4 < L := by omega
  have ld : ∀ {g1 : Nat → Nat → Int32} {q1 : Nat → Nat → Int64} {k : Nat}, Env L xs g1 → k < L → ild (E g1 q1) 300001 (nI k) = some (.int (xs k)) := fun e h => sc_ld e hL h
  rw [b_lw_law_1006]
  simp -implicitDefEqProofs (disch := first | assumption | omega) only [szS_0, szS_i, szS_r, szS_l, x_cons, x_goto, ob_some, kl_i, kl_r, kl_l, kl_n, push_n, push_s, pop_0, pop_i, pop_r, Int.reduceToNat, List.length_cons, List.length_nil, Nat.reduceAdd, Nat.reduceLeDiff, Nat.zero_add, true_and, nI_n0, nat_le, Nat.add_zero, i_6, rt_lw_law_0, rt_lw_law_1, rt_lw_law_b, x_al0, x_al1, x_al2, x_alen, x_as1, x_as2, x_call, x_dupi, x_dupr, x_goto, x_iadd, x_iaload, x_iand, x_iceq, x_icgt, x_ifeq, x_il3, x_inc3, x_iret, x_is3, x_isub, x_ldc, x_tsw, nI_add, ld hE]
  refine two_go (k_rows (d := d + 49) hW hE) fun a g1 q1 E1 K => ?_
  simp -implicitDefEqProofs (disch := first | assumption | omega) only [szS_0, szS_i, szS_r, szS_l, x_cons, x_goto, ob_some, kl_i, kl_r, kl_l, kl_n, push_n, push_s, pop_0, pop_i, pop_r, Int.reduceToNat, List.length_cons, List.length_nil, Nat.reduceAdd, Nat.reduceLeDiff, Nat.zero_add, true_and, nI_n0, nat_le, Nat.add_zero, i_6, rt_lw_law_0, rt_lw_law_1, rt_lw_law_b, x_al0, x_al1, x_al2, x_alen, x_as1, x_as2, x_call, x_dupi, x_dupr, x_goto, x_iadd, x_iaload, x_iand, x_iceq, x_icgt, x_ifeq, x_il3, x_inc3, x_iret, x_is3, x_isub, x_ldc, x_tsw, nI_add, ld E1]
  refine K _ fun g2 q2 E2 W2 => ?_
  simp -implicitDefEqProofs (disch := first | assumption | omega) only [szS_0, szS_i, szS_r, szS_l, x_cons, x_goto, ob_some, kl_i, kl_r, kl_l, kl_n, push_n, push_s, pop_0, pop_i, pop_r, Int.reduceToNat, List.length_cons, List.length_nil, Nat.reduceAdd, Nat.reduceLeDiff, Nat.zero_add, true_and, nI_n0, nat_le, Nat.add_zero, i_6, rt_lw_law_0, rt_lw_law_1, rt_lw_law_b, x_al0, x_al1, x_al2, x_alen, x_as1, x_as2, x_call, x_dupi, x_dupr, x_goto, x_iadd, x_iaload, x_iand, x_iceq, x_icgt, x_ifeq, x_il3, x_inc3, x_iret, x_is3, x_isub, x_ldc, x_tsw, ↓reduceIte]
  exact H g2 q2 E2 W2
theorem lw_undo (hL : L ≤ 3072) (hW : World B g) (hE : Env L xs g) {i : Nat} (hi : i + 6 ≤ L) (H : ∀ g2 q2, Env L xs g2 → World (B) g2 → wp (ev (d + 51)) P lw_law 1134 [some (.ref 300001), some (.ref 0), some (.ref 196), some (.int (nI i))] [] (E g2 q2)) : wp (ev (d + 51)) P lw_law 1059 [some (.ref 300001), some (.ref 0), some (.ref 196), some (.int (nI i))] [] (E g q) := by
  rw [b_lw_law_1059]
  simp -implicitDefEqProofs (disch := first | assumption | omega) only [szS_0, szS_i, szS_r, szS_l, x_cons, x_goto, ob_some, kl_i, kl_r, kl_l, kl_n, push_n, push_s, pop_0, pop_i, pop_r, Int.reduceToNat, List.length_cons, List.length_nil, Nat.reduceAdd, Nat.reduceLeDiff, Nat.zero_add, true_and, nI_n0, nat_le, Nat.add_zero, i_6, rt_lw_law_0, rt_lw_law_1, rt_lw_law_b, x_al0, x_al1, x_al2, x_alen, x_as1, x_as2, x_call, x_dupi, x_dupr, x_goto, x_iadd, x_iaload, x_iand, x_iceq, x_icgt, x_ifeq, x_il3, x_inc3, x_iret, x_is3, x_isub, x_ldc, x_tsw, nI_add]
  refine two_go (k_undo (d := d + 47) hW hE) fun a g1 q1 E1 K => ?_
  simp -implicitDefEqProofs (disch := first | assumption | omega) only [szS_0, szS_i, szS_r, szS_l, x_cons, x_goto, ob_some, kl_i, kl_r, kl_l, kl_n, push_n, push_s, pop_0, pop_i, pop_r, Int.reduceToNat, List.length_cons, List.length_nil, Nat.reduceAdd, Nat.reduceLeDiff, Nat.zero_add, true_and, nI_n0, nat_le, Nat.add_zero, i_6, rt_lw_law_0, rt_lw_law_1, rt_lw_law_b, x_al0, x_al1, x_al2, x_alen, x_as1, x_as2, x_call, x_dupi, x_dupr, x_goto, x_iadd, x_iaload, x_iand, x_iceq, x_icgt, x_ifeq, x_il3, x_inc3, x_iret, x_is3, x_isub, x_ldc, x_tsw, nI_add]
  refine K _ fun g2 q2 E2 W2 => ?_
  simp -implicitDefEqProofs (disch := first | assumption | omega) only [szS_0, szS_i, szS_r, szS_l, x_cons, x_goto, ob_some, kl_i, kl_r, kl_l, kl_n, push_n, push_s, pop_0, pop_i, pop_r, Int.reduceToNat, List.length_cons, List.length_nil, Nat.reduceAdd, Nat.reduceLeDiff, Nat.zero_add, true_and, nI_n0, nat_le, Nat.add_zero, i_6, rt_lw_law_0, rt_lw_law_1, rt_lw_law_b, x_al0, x_al1, x_al2, x_alen, x_as1, x_as2, x_call, x_dupi, x_dupr, x_goto, x_iadd, x_iaload, x_iand, x_iceq, x_icgt, x_ifeq, x_il3, x_inc3, x_iret, x_is3, x_isub, x_ldc, x_tsw, ↓reduceIte]
  exact H g2 q2 E2 W2
theorem lw_look (hL : L ≤ 3072) (hW : World B g) (hE : Env L xs g) {i : Nat} (hi : i + 6 ≤ L) (H : ∀ g2 q2, Env L xs g2 → World (B) g2 → wp (ev (d + 51)) P lw_law 1134 [some (.ref 300001), some (.ref 0), some (.ref 196), some (.int (nI i))] [] (E g2 q2)) : wp (ev (d + 51)) P lw_law 1111 [some (.ref 300001), some (.ref 0), some (.ref 196), some (.int (nI i))] [] (E g q) := by
  have l1 : i + 1 < L := by omega
  have ld : ∀ {g1 : Nat → Nat → Int32} {q1 : Nat → Nat → Int64} {k : Nat}, Env L xs g1 → k < L → ild (E g1 q1) 300001 (nI k) = some (.int (xs k)) := fun e h => sc_ld e hL h
  rw [b_lw_law_1111]
  simp -implicitDefEqProofs (disch := first | assumption | omega) only [szS_0, szS_i, szS_r, szS_l, x_cons, x_goto, ob_some, kl_i, kl_r, kl_l, kl_n, push_n, push_s, pop_0, pop_i, pop_r, Int.reduceToNat, List.length_cons, List.length_nil, Nat.reduceAdd, Nat.reduceLeDiff, Nat.zero_add, true_and, nI_n0, nat_le, Nat.add_zero, i_6, rt_lw_law_0, rt_lw_law_1, rt_lw_law_b, x_al0, x_al1, x_al2, x_alen, x_as1, x_as2, x_call, x_dupi, x_dupr, x_goto, x_iadd, x_iaload, x_iand, x_iceq, x_icgt, x_ifeq, x_il3, x_inc3, x_iret, x_is3, x_isub, x_ldc, x_tsw, nI_add, ld hE]
  refine two_go (k_look (d := d + 46) hW hE) fun a g1 q1 E1 K => ?_
  simp -implicitDefEqProofs (disch := first | assumption | omega) only [szS_0, szS_i, szS_r, szS_l, x_cons, x_goto, ob_some, kl_i, kl_r, kl_l, kl_n, push_n, push_s, pop_0, pop_i, pop_r, Int.reduceToNat, List.length_cons, List.length_nil, Nat.reduceAdd, Nat.reduceLeDiff, Nat.zero_add, true_and, nI_n0, nat_le, Nat.add_zero, i_6, rt_lw_law_0, rt_lw_law_1, rt_lw_law_b, x_al0, x_al1, x_al2, x_alen, x_as1, x_as2, x_call, x_dupi, x_dupr, x_goto, x_iadd, x_iaload, x_iand, x_iceq, x_icgt, x_ifeq, x_il3, x_inc3, x_iret, x_is3, x_isub, x_ldc, x_tsw, nI_add, ld E1]
  refine K _ fun g2 q2 E2 W2 => ?_
  simp -implicitDefEqProofs (disch := first | assumption | omega) only [szS_0, szS_i, szS_r, szS_l, x_cons, x_goto, ob_some, kl_i, kl_r, kl_l, kl_n, push_n, push_s, pop_0, pop_i, pop_r, Int.reduceToNat, List.length_cons, List.length_nil, Nat.reduceAdd, Nat.reduceLeDiff, Nat.zero_add, true_and, nI_n0, nat_le, Nat.add_zero, i_6, rt_lw_law_0, rt_lw_law_1, rt_lw_law_b, x_al0, x_al1, x_al2, x_alen, x_as1, x_as2, x_call, x_dupi, x_dupr, x_goto, x_iadd, x_iaload, x_iand, x_iceq, x_icgt, x_ifeq, x_il3, x_inc3, x_iret, x_is3, x_isub, x_ldc, x_tsw, ↓reduceIte]
  exact H g2 q2 E2 W2
theorem lw_image (hL : L ≤ 3072) (hW : World B g) (hE : Env L xs g) {i : Nat} (hi : i + 6 ≤ L) (H : ∀ g2 q2, Env L xs g2 → World B g2 → wp (ev (d + 51)) P lw_law 1134 [some (.ref 300001), some (.ref 0), some (.ref 196), some (.int (nI i))] [] (E g2 q2)) : wp (ev (d + 51)) P lw_law 1072 [some (.ref 300001), some (.ref 0), some (.ref 196), some (.int (nI i))] [] (E g q) := by
  have l1 : i + 1 < L := by omega
  have ld : ∀ {g1 : Nat → Nat → Int32} {q1 : Nat → Nat → Int64} {k : Nat}, Env L xs g1 → k < L → ild (E g1 q1) 300001 (nI k) = some (.int (xs k)) := fun e h => sc_ld e hL h
  rw [b_lw_law_1072]
  simp -implicitDefEqProofs (disch := first | assumption | omega) only [szS_0, szS_i, szS_r, szS_l, x_cons, x_goto, ob_some, kl_i, kl_r, kl_l, kl_n, push_n, push_s, pop_0, pop_i, pop_r, Int.reduceToNat, List.length_cons, List.length_nil, Nat.reduceAdd, Nat.reduceLeDiff, Nat.zero_add, true_and, nI_n0, nat_le, Nat.add_zero, i_6, rt_lw_law_0, rt_lw_law_1, rt_lw_law_b, x_al0, x_al1, x_al2, x_alen, x_as1, x_as2, x_call, x_dupi, x_dupr, x_goto, x_iadd, x_iaload, x_iand, x_iceq, x_icgt, x_ifeq, x_il3, x_inc3, x_iret, x_is3, x_isub, x_ldc, x_tsw, nI_add, ld hE]
  by_cases h0 : xs (i + 1) = nI 0
  · simp only [h0, ↓reduceIte]
    try simp -implicitDefEqProofs (disch := first | assumption | omega) only [b_lw_law_1085, szS_0, szS_i, szS_r, szS_l, x_cons, x_goto, ob_some, kl_i, kl_r, kl_l, kl_n, push_n, push_s, pop_0, pop_i, pop_r, Int.reduceToNat, List.length_cons, List.length_nil, Nat.reduceAdd, Nat.reduceLeDiff, Nat.zero_add, true_and, nI_n0, nat_le, Nat.add_zero, i_6, rt_lw_law_0, rt_lw_law_1, rt_lw_law_b, x_al0, x_al1, x_al2, x_alen, x_as1, x_as2, x_call, x_dupi, x_dupr, x_goto, x_iadd, x_iaload, x_iand, x_iceq, x_icgt, x_ifeq, x_il3, x_inc3, x_iret, x_is3, x_isub, x_ldc, x_tsw, b_lw_law_1086]
    refine two_go (k_image (d := d + 47) hW hE) fun a g1 q1 E1 K => ?_
    simp -implicitDefEqProofs (disch := first | assumption | omega) only [szS_0, szS_i, szS_r, szS_l, x_cons, x_goto, ob_some, kl_i, kl_r, kl_l, kl_n, push_n, push_s, pop_0, pop_i, pop_r, Int.reduceToNat, List.length_cons, List.length_nil, Nat.reduceAdd, Nat.reduceLeDiff, Nat.zero_add, true_and, nI_n0, nat_le, Nat.add_zero, i_6, rt_lw_law_0, rt_lw_law_1, rt_lw_law_b, x_al0, x_al1, x_al2, x_alen, x_as1, x_as2, x_call, x_dupi, x_dupr, x_goto, x_iadd, x_iaload, x_iand, x_iceq, x_icgt, x_ifeq, x_il3, x_inc3, x_iret, x_is3, x_isub, x_ldc, x_tsw, nI_add, ld E1, h0, ↓reduceIte, b_lw_law_1102, b_lw_law_1103]
    refine K _ fun g2 q2 E2 W2 => ?_
    simp -implicitDefEqProofs (disch := first | assumption | omega) only [szS_0, szS_i, szS_r, szS_l, x_cons, x_goto, ob_some, kl_i, kl_r, kl_l, kl_n, push_n, push_s, pop_0, pop_i, pop_r, Int.reduceToNat, List.length_cons, List.length_nil, Nat.reduceAdd, Nat.reduceLeDiff, Nat.zero_add, true_and, nI_n0, nat_le, Nat.add_zero, i_6, rt_lw_law_0, rt_lw_law_1, rt_lw_law_b, x_al0, x_al1, x_al2, x_alen, x_as1, x_as2, x_call, x_dupi, x_dupr, x_goto, x_iadd, x_iaload, x_iand, x_iceq, x_icgt, x_ifeq, x_il3, x_inc3, x_iret, x_is3, x_isub, x_ldc, x_tsw, ↓reduceIte]
    exact H g2 q2 E2 W2
  · simp only [h0, ↓reduceIte]
    try simp -implicitDefEqProofs (disch := first | assumption | omega) only [szS_0, szS_i, szS_r, szS_l, x_cons, x_goto, ob_some, kl_i, kl_r, kl_l, kl_n, push_n, push_s, pop_0, pop_i, pop_r, Int.reduceToNat, List.length_cons, List.length_nil, Nat.reduceAdd, Nat.reduceLeDiff, Nat.zero_add, true_and, nI_n0, nat_le, Nat.add_zero, i_6, rt_lw_law_0, rt_lw_law_1, rt_lw_law_b, x_al0, x_al1, x_al2, x_alen, x_as1, x_as2, x_call, x_dupi, x_dupr, x_goto, x_iadd, x_iaload, x_iand, x_iceq, x_icgt, x_ifeq, x_il3, x_inc3, x_iret, x_is3, x_isub, x_ldc, x_tsw, b_lw_law_1086]
    refine two_go (k_image (d := d + 47) hW hE) fun a g1 q1 E1 K => ?_
    simp -implicitDefEqProofs (disch := first | assumption | omega) only [szS_0, szS_i, szS_r, szS_l, x_cons, x_goto, ob_some, kl_i, kl_r, kl_l, kl_n, push_n, push_s, pop_0, pop_i, pop_r, Int.reduceToNat, List.length_cons, List.length_nil, Nat.reduceAdd, Nat.reduceLeDiff, Nat.zero_add, true_and, nI_n0, nat_le, Nat.add_zero, i_6, rt_lw_law_0, rt_lw_law_1, rt_lw_law_b, x_al0, x_al1, x_al2, x_alen, x_as1, x_as2, x_call, x_dupi, x_dupr, x_goto, x_iadd, x_iaload, x_iand, x_iceq, x_icgt, x_ifeq, x_il3, x_inc3, x_iret, x_is3, x_isub, x_ldc, x_tsw, nI_add, ld E1, h0, ↓reduceIte, b_lw_law_1103]
    refine K _ fun g2 q2 E2 W2 => ?_
    simp -implicitDefEqProofs (disch := first | assumption | omega) only [szS_0, szS_i, szS_r, szS_l, x_cons, x_goto, ob_some, kl_i, kl_r, kl_l, kl_n, push_n, push_s, pop_0, pop_i, pop_r, Int.reduceToNat, List.length_cons, List.length_nil, Nat.reduceAdd, Nat.reduceLeDiff, Nat.zero_add, true_and, nI_n0, nat_le, Nat.add_zero, i_6, rt_lw_law_0, rt_lw_law_1, rt_lw_law_b, x_al0, x_al1, x_al2, x_alen, x_as1, x_as2, x_call, x_dupi, x_dupr, x_goto, x_iadd, x_iaload, x_iand, x_iceq, x_icgt, x_ifeq, x_il3, x_inc3, x_iret, x_is3, x_isub, x_ldc, x_tsw, ↓reduceIte]
    exact H g2 q2 E2 W2
theorem law_lp (hL : L ≤ 3072) (hL6 : 6 ≤ L) (H : ∀ g q, P (some (.int (nI 1))) (E g q)) : ∀ (j c : Nat) (g : Nat → Nat → Int32) (q : Nat → Nat → Int64), c + j = 512 → World (159984 + 9999 * c) g → Env L xs g →
    wp (ev (d + 51)) P lw_law 18 [some (.ref 300001), some (.ref 0), some (.ref 196), some (.int (nI (6 * c)))] [] (E g q) := by
  intro j
  induction j with
  | zero =>
    intro c g q hc hW hE
    have hc : c = 512 := hc
    have l1 : L - 6 < 6 * c := by omega
    rw [b_lw_law_18]
    simp -implicitDefEqProofs (disch := first | assumption | omega) only [szS_0, szS_i, szS_r, szS_l, x_cons, x_goto, ob_some, kl_i, kl_r, kl_l, kl_n, push_n, push_s, pop_0, pop_i, pop_r, Int.reduceToNat, List.length_cons, List.length_nil, Nat.reduceAdd, Nat.reduceLeDiff, Nat.zero_add, true_and, nI_n0, nat_le, Nat.add_zero, i_6, rt_lw_law_0, rt_lw_law_1, rt_lw_law_b, x_al0, x_al1, x_al2, x_alen, x_as1, x_as2, x_call, x_dupi, x_dupr, x_goto, x_iadd, x_iaload, x_iand, x_iceq, x_icgt, x_ifeq, x_il3, x_inc3, x_iret, x_is3, x_isub, x_ldc, x_tsw, sc_ln hE hL, nI_sub, hL6, nI_ltE, l1, ↓reduceIte, b_lw_law_1140]
    exact H g q
  | succ j ih =>
    intro c g q hc hW hE
    by_cases l1 : L - 6 < 6 * c
    · rw [b_lw_law_18]
      simp -implicitDefEqProofs (disch := first | assumption | omega) only [szS_0, szS_i, szS_r, szS_l, x_cons, x_goto, ob_some, kl_i, kl_r, kl_l, kl_n, push_n, push_s, pop_0, pop_i, pop_r, Int.reduceToNat, List.length_cons, List.length_nil, Nat.reduceAdd, Nat.reduceLeDiff, Nat.zero_add, true_and, nI_n0, nat_le, Nat.add_zero, i_6, rt_lw_law_0, rt_lw_law_1, rt_lw_law_b, x_al0, x_al1, x_al2, x_alen, x_as1, x_as2, x_call, x_dupi, x_dupr, x_goto, x_iadd, x_iaload, x_iand, x_iceq, x_icgt, x_ifeq, x_il3, x_inc3, x_iret, x_is3, x_isub, x_ldc, x_tsw, sc_ln hE hL, nI_sub, hL6, nI_ltE, l1, ↓reduceIte, b_lw_law_1140]
      exact H g q
    · have hi : 6 * c + 6 ≤ L := by omega
      have hi2 : 6 * c < L := by omega
      have ld : ild (E g q) 300001 (nI (6 * c)) = some (.int (xs (6 * c))) := sc_ld hE hL hi2
      have n1 : ∀ g2 q2, Env L xs g2 → World (159984 + 9999 * c + 9999) g2 → wp (ev (d + 51)) P lw_law 1134 [some (.ref 300001), some (.ref 0), some (.ref 196), some (.int (nI (6 * c)))] [] (E g2 q2) := fun g2 q2 E2 W2 => by
        rw [b_lw_law_1134]
        simp -implicitDefEqProofs (disch := first | assumption | omega) only [szS_0, szS_i, szS_r, szS_l, x_cons, x_goto, ob_some, kl_i, kl_r, kl_l, kl_n, push_n, push_s, pop_0, pop_i, pop_r, Int.reduceToNat, List.length_cons, List.length_nil, Nat.reduceAdd, Nat.reduceLeDiff, Nat.zero_add, true_and, nI_n0, nat_le, Nat.add_zero, i_6, rt_lw_law_0, rt_lw_law_1, rt_lw_law_b, x_al0, x_al1, x_al2, x_alen, x_as1, x_as2, x_call, x_dupi, x_dupr, x_goto, x_iadd, x_iaload, x_iand, x_iceq, x_icgt, x_ifeq, x_il3, x_inc3, x_iret, x_is3, x_isub, x_ldc, x_tsw, nI_add]
        have := ih (c + 1) g2 q2 (by omega) (World_m (by omega) W2) E2
        rw [show 6 * (c + 1) = 6 * c + 6 by omega] at this
        exact this
      have n2 : ∀ g2 q2, Env L xs g2 → World (159984 + 9999 * c) g2 → wp (ev (d + 51)) P lw_law 1134 [some (.ref 300001), some (.ref 0), some (.ref 196), some (.int (nI (6 * c)))] [] (E g2 q2) := fun g2 q2 E2 W2 => n1 g2 q2 E2 (World_m (by omega) W2)
      obtain ⟨k, hk, ek⟩ := and_31 (xs (6 * c))
      rw [b_lw_law_18]
      simp -implicitDefEqProofs (disch := first | assumption | omega) only [szS_0, szS_i, szS_r, szS_l, x_cons, x_goto, ob_some, kl_i, kl_r, kl_l, kl_n, push_n, push_s, pop_0, pop_i, pop_r, Int.reduceToNat, List.length_cons, List.length_nil, Nat.reduceAdd, Nat.reduceLeDiff, Nat.zero_add, true_and, nI_n0, nat_le, Nat.add_zero, i_6, rt_lw_law_0, rt_lw_law_1, rt_lw_law_b, x_al0, x_al1, x_al2, x_alen, x_as1, x_as2, x_call, x_dupi, x_dupr, x_goto, x_iadd, x_iaload, x_iand, x_iceq, x_icgt, x_ifeq, x_il3, x_inc3, x_iret, x_is3, x_isub, x_ldc, x_tsw, sc_ln hE hL, nI_sub, hL6, nI_ltE, l1, ↓reduceIte, ld, ek]
      have hk32 : k = 0 ∨ k = 1 ∨ k = 2 ∨ k = 3 ∨ k = 4 ∨ k = 5 ∨ k = 6 ∨ k = 7 ∨ k = 8 ∨ k = 9 ∨ k = 10 ∨ k = 11 ∨ k = 12 ∨ k = 13 ∨ k = 14 ∨ k = 15 ∨ k = 16 ∨ k = 17 ∨ k = 18 ∨ k = 19 ∨ k = 20 ∨ k = 21 ∨ k = 22 ∨ k = 23 ∨ k = 24 ∨ k = 25 ∨ k = 26 ∨ k = 27 ∨ k = 28 ∨ k = 29 ∨ k = 30 ∨ k = 31 := by omega
      rcases hk32 with rfl | rfl | rfl | rfl | rfl | rfl | rfl | rfl | rfl | rfl | rfl | rfl | rfl | rfl | rfl | rfl | rfl | rfl | rfl | rfl | rfl | rfl | rfl | rfl | rfl | rfl | rfl | rfl | rfl | rfl | rfl | rfl
      · show wp (ev (d + 51)) P lw_law 168 _ _ _
        exact lw_state hL hW hE hi n2
      · show wp (ev (d + 51)) P lw_law 191 _ _ _
        exact lw_set hL hW hE hi n2
      · show wp (ev (d + 51)) P lw_law 224 _ _ _
        exact lw_town (by omega) hL hW hE hi n1
      · show wp (ev (d + 51)) P lw_law 267 _ _ _
        exact lw_buy hL hW hE hi n2
      · show wp (ev (d + 51)) P lw_law 310 _ _ _
        exact lw_dig hL hW hE hi n2
      · show wp (ev (d + 51)) P lw_law 353 _ _ _
        exact lw_feed hL hW hE hi n2
      · show wp (ev (d + 51)) P lw_law 416 _ _ _
        exact lw_end hL hW hE hi n2
      · show wp (ev (d + 51)) P lw_law 439 _ _ _
        exact lw_text (by omega) hL hW hE hi n2
      · show wp (ev (d + 51)) P lw_law 462 _ _ _
        exact lw_fault hL hW hE hi n2
      · show wp (ev (d + 51)) P lw_law 485 _ _ _
        exact lw_days hL hW hE hi n2
      · show wp (ev (d + 51)) P lw_law 508 _ _ _
        exact lw_node hL hW hE hi n2
      · show wp (ev (d + 51)) P lw_law 541 _ _ _
        exact lw_fork hL hW hE hi n2
      · show wp (ev (d + 51)) P lw_law 574 _ _ _
        exact lw_of hL hW hE hi n2
      · show wp (ev (d + 51)) P lw_law 607 _ _ _
        exact lw_votes hL hW hE hi n2
      · show wp (ev (d + 51)) P lw_law 650 _ _ _
        exact lw_came hL hW hE hi n2
      · show wp (ev (d + 51)) P lw_law 683 _ _ _
        exact lw_book hL hW hE hi n2
      · show wp (ev (d + 51)) P lw_law 716 _ _ _
        exact lw_later hL hW hE hi n2
      · show wp (ev (d + 51)) P lw_law 759 _ _ _
        exact lw_ends hL hW hE hi n2
      · show wp (ev (d + 51)) P lw_law 782 _ _ _
        exact lw_thirst hL hW hE hi n2
      · show wp (ev (d + 51)) P lw_law 805 _ _ _
        exact lw_power hL hW hE hi n2
      · show wp (ev (d + 51)) P lw_law 838 _ _ _
        exact lw_fewest hL hW hE hi n2
      · show wp (ev (d + 51)) P lw_law 871 _ _ _
        exact lw_least hL hW hE hi n2
      · show wp (ev (d + 51)) P lw_law 904 _ _ _
        exact lw_best hL hW hE hi n2
      · show wp (ev (d + 51)) P lw_law 927 _ _ _
        exact lw_most hL hW hE hi n2
      · show wp (ev (d + 51)) P lw_law 950 _ _ _
        exact lw_mud hL hW hE hi n2
      · show wp (ev (d + 51)) P lw_law 983 _ _ _
        exact lw_twice hL hW hE hi n2
      · show wp (ev (d + 51)) P lw_law 1006 _ _ _
        exact lw_rows hL hW hE hi n2
      · show wp (ev (d + 51)) P lw_law 1059 _ _ _
        exact lw_undo hL hW hE hi n2
      · show wp (ev (d + 51)) P lw_law 1072 _ _ _
        exact lw_image hL hW hE hi n2
      · show wp (ev (d + 51)) P lw_law 1111 _ _ _
        exact lw_look hL hW hE hi n2
      · show wp (ev (d + 51)) P lw_law 1134 _ _ _
        exact n2 g q hE hW
      · show wp (ev (d + 51)) P lw_law 1134 _ _ _
        exact n2 g q hE hW
/-- the law's loop over a short script -/
theorem law_lp0 (hL6 : L < 6) (hE : Env L xs g) (H : P (some (.int (nI 1))) (E g q)) : wp (ev (d + 51)) P lw_law 18 [some (.ref 300001), some (.ref 0), some (.ref 196), some (.int (nI 0))] [] (E g q) := by
  have e : (nI L - nI 6 < nI 0) = True := eq_true (by rw [nI_slt (by omega) (by decide)]; exact hL6)
  rw [b_lw_law_18]
  simp -implicitDefEqProofs (disch := first | assumption | omega) only [szS_0, szS_i, szS_r, szS_l, x_cons, x_goto, ob_some, kl_i, kl_r, kl_l, kl_n, push_n, push_s, pop_0, pop_i, pop_r, Int.reduceToNat, List.length_cons, List.length_nil, Nat.reduceAdd, Nat.reduceLeDiff, Nat.zero_add, true_and, nI_n0, nat_le, Nat.add_zero, i_6, rt_lw_law_0, rt_lw_law_1, rt_lw_law_b, x_al0, x_al1, x_al2, x_alen, x_as1, x_as2, x_call, x_dupi, x_dupr, x_goto, x_iadd, x_iaload, x_iand, x_iceq, x_icgt, x_ifeq, x_il3, x_inc3, x_iret, x_is3, x_isub, x_ldc, x_tsw, sc_ln hE (by omega), e, ↓reduceIte, b_lw_law_1140]
  exact H
end LWL
