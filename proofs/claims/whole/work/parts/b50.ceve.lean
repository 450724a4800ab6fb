/-! the class's evening -/
theorem one_8 : ∀ s : Fin 8, decide (1 < cnt s.1.testBit 3) = (decide (s.1 ≠ 0) && !one s.1) := by decide +kernel
theorem mx_s {a b : Nat} : (if a < b then b else a) = (if b < a then a else b) := by
  split <;> split <;> omega
/-- the book's tie; false: it is full for the row, and nothing of it is told -/
def bkT (bk : Bool) (t : Nat) (w : Nat → Int32) (g : Nat → Nat → Int32) : Prop :=
  if bk = true then g (t + 6) 4 = w 2 ∧ ∀ k, k < 600 → g (t + 29) k = w (600 + k) else w 2 = nI 150 ∧ ∃ l, l ≤ 150 ∧ g (t + 6) 4 = nI l
section CE
variable {d : Nat} {g : Nat → Nat → Int32} {q : Nat → Nat → Int64} {P : QT} {t : Nat} {w : Nat → Int32}
theorem s_strength (hT : t = 1 ∨ t = 31 ∨ t = 61) {V : LW} {f a : Nat} (hf : f < 16) (ha : a < 3) (h1 : g 179 a = nI (vfor V w f a)) (h2 : g (t + 19) (f * 3 + a) = nI (fd w f (7 + a))) :
    callC (ev (d + 1)) ri_strength [.ref 174, .ref t, .int (nI f), .int (nI a)] (E g q) P = P (some (.int (nI (tot V w f a)))) (E g q) := by
  refine call_eq (in_ri_strength rfl ?_)
  rw [b_ri_strength_0]
  simp -implicitDefEqProofs (disch := first | assumption | omega) only [szS_0, szS_i, szS_r, szS_l, x_cons, x_goto, ob_some, kl_i, kl_r, kl_l, kl_n, push_n, push_s, pop_0, pop_i, pop_r, Int.reduceToNat, List.length_cons, List.length_nil, Nat.reduceAdd, Nat.reduceLeDiff, Nat.zero_add, true_and, nI_n0, nat_le, Nat.add_zero, rt_ri_strength, x_al0, x_al1, x_getf, x_iadd, x_iaload, x_il2, x_il3, x_imul, x_iret, x_ldc, fd_174_0, fd_174_1, fd_174_2, fd_174_3, ld_179, sd_179, ln_179, tf_0_0, tf_0_1, tf_0_2, tf_0_3, tf_0_4, tf_6_0, tf_6_1, tf_6_2, tf_6_3, tf_6_4, tf_6_5, tf_6_6, tf_6_7, tf_6_8, tf_6_9, tf_6_10, ts_6_0, ts_6_1, ts_6_2, ts_6_3, ts_6_4, tl_19, td_19, nI_mul, nI_add, h1, h2]
  all_goals first | rfl | exact ⟨rfl, rfl⟩ | exact ⟨rfl, trivial⟩ | exact ⟨trivial, rfl⟩ | trivial
theorem mf_lp (hT : t = 1 ∨ t = 31 ∨ t = 61) (hw : WI w) {V : LW} {f : Nat} (hf : f < 16) (ha3 : g (t + 3) f = nI (am w f)) (h1 : ∀ a, a < am w f → g 179 a = nI (vfor V w f a)) (h2 : ∀ a, a < 3 → g (t + 19) (f * 3 + a) = nI (fd w f (7 + a))) (H : P (some (.int (nI (mst V w f)))) (E g q)) : ∀ (j a : Nat), a + j = am w f →
    wp (ev (d + 1)) P ri_mostFor 5 [some (.ref 174), some (.ref t), some (.int (nI f)), some (.int (nI (mxT (tot V w f) a))), some (.int (nI a))] [] (E g q) := by
  have ham := am_le hw hf
  intro j
  induction j with
  | zero =>
    intro a ha
    have ha : a = am w f := ha
    rw [ha, b_ri_mostFor_5]
    simp -implicitDefEqProofs (disch := first | assumption | omega) only [szS_0, szS_i, szS_r, szS_l, x_cons, x_goto, ob_some, kl_i, kl_r, kl_l, kl_n, push_n, push_s, pop_0, pop_i, pop_r, Int.reduceToNat, List.length_cons, List.length_nil, Nat.reduceAdd, Nat.reduceLeDiff, Nat.zero_add, true_and, nI_n0, nat_le, Nat.add_zero, i_1, rt_ri_mostFor, x_al0, x_al1, x_call, x_getf, x_goto, x_iaload, x_icge, x_il2, x_il3, x_il4, x_inc4, x_iret, x_is3, x_is4, x_ldc, tf_0_0, tf_0_1, tf_0_2, tf_0_3, tf_0_4, tf_1_0, tf_1_1, tf_1_2, tf_1_3, tf_1_4, ts_1_0, tl_3, td_3, ha3, nI_ltE, Nat.lt_irrefl, ↓reduceIte, b_ri_mostFor_38]
    exact H
  | succ j ih =>
    intro a ha
    have ha' : a < am w f := by omega
    have hl1 := tot_l hw (V := V) (f := f) (a := a) hf (by omega)
    have hl2 : mxT (tot V w f) a ≤ 6000999 := mxT_b _ fun b hb => tot_l hw hf (by omega)
    have e1 : mxT (tot V w f) (a + 1) = if tot V w f a < mxT (tot V w f) a then mxT (tot V w f) a else tot V w f a := rfl
    rw [b_ri_mostFor_5]
    simp -implicitDefEqProofs (disch := first | assumption | omega) only [szS_0, szS_i, szS_r, szS_l, x_cons, x_goto, ob_some, kl_i, kl_r, kl_l, kl_n, push_n, push_s, pop_0, pop_i, pop_r, Int.reduceToNat, List.length_cons, List.length_nil, Nat.reduceAdd, Nat.reduceLeDiff, Nat.zero_add, true_and, nI_n0, nat_le, Nat.add_zero, i_1, rt_ri_mostFor, x_al0, x_al1, x_call, x_getf, x_goto, x_iaload, x_icge, x_il2, x_il3, x_il4, x_inc4, x_iret, x_is3, x_is4, x_ldc, tf_0_0, tf_0_1, tf_0_2, tf_0_3, tf_0_4, tf_1_0, tf_1_1, tf_1_2, tf_1_3, tf_1_4, ts_1_0, tl_3, td_3, ha3, nI_ltE, ha', ↓reduceIte]
    rw [s_strength hT hf (by omega) (h1 a ha') (h2 a (by omega))]
    simp -implicitDefEqProofs (disch := first | assumption | omega) only [szS_0, szS_i, szS_r, szS_l, x_cons, x_goto, ob_some, kl_i, kl_r, kl_l, kl_n, push_n, push_s, pop_0, pop_i, pop_r, Int.reduceToNat, List.length_cons, List.length_nil, Nat.reduceAdd, Nat.reduceLeDiff, Nat.zero_add, true_and, nI_n0, nat_le, Nat.add_zero, i_1, rt_ri_mostFor, x_al0, x_al1, x_call, x_getf, x_goto, x_iaload, x_icge, x_il2, x_il3, x_il4, x_inc4, x_iret, x_is3, x_is4, x_ldc, s_jmax, nI_ltE, nI_ite, nI_add]
    rw [mx_s, ← e1]
    exact ih (a + 1) (by omega)
theorem s_mostFor (hT : t = 1 ∨ t = 31 ∨ t = 61) (hw : WI w) {V : LW} {f : Nat} (hf : f < 16) (ha3 : g (t + 3) f = nI (am w f)) (h1 : ∀ a, a < am w f → g 179 a = nI (vfor V w f a)) (h2 : ∀ a, a < 3 → g (t + 19) (f * 3 + a) = nI (fd w f (7 + a))) :
    callC (ev (d + 2)) ri_mostFor [.ref 174, .ref t, .int (nI f)] (E g q) P = P (some (.int (nI (mst V w f)))) (E g q) := by
  refine call_eq (in_ri_mostFor rfl ?_)
  rw [b_ri_mostFor_0]
  simp -implicitDefEqProofs (disch := first | assumption | omega) only [szS_0, szS_i, szS_r, szS_l, x_cons, x_goto, ob_some, kl_i, kl_r, kl_l, kl_n, push_n, push_s, pop_0, pop_i, pop_r, Int.reduceToNat, List.length_cons, List.length_nil, Nat.reduceAdd, Nat.reduceLeDiff, Nat.zero_add, true_and, nI_n0, nat_le, Nat.add_zero, i_1, rt_ri_mostFor, x_al0, x_al1, x_call, x_getf, x_goto, x_iaload, x_icge, x_il2, x_il3, x_il4, x_inc4, x_iret, x_is3, x_is4, x_ldc]
  exact mf_lp hT hw hf ha3 h1 h2 ⟨rfl, rfl⟩ (am w f) 0 (Nat.zero_add _)
theorem wn_lp (hT : t = 1 ∨ t = 31 ∨ t = 61) (hw : WI w) {V : LW} {f : Nat} (hf : f < 16) (ha3 : g (t + 3) f = nI (am w f)) (h1 : ∀ a, a < am w f → g 179 a = nI (vfor V w f a)) (h2 : ∀ a, a < 3 → g (t + 19) (f * 3 + a) = nI (fd w f (7 + a))) (H : P (some (.int (nI (winS (tot V w f) (am w f))))) (E g q)) : ∀ (j a : Nat), a + j = am w f →
    wp (ev (d + 1)) P ri_winners 20 [some (.ref 174), some (.ref t), some (.int (nI f)), some (.int (nI (mst V w f))), some (.int (nI (bset (fun a => decide (tot V w f a = mst V w f)) a))), some (.int (nI a))] [] (E g q) := by
  have ham := am_le hw hf
  have hl2 : mst V w f ≤ 6000999 := mxT_b _ fun b hb => tot_l hw hf (by omega)
  intro j
  induction j with
  | zero =>
    intro a ha
    have ha : a = am w f := ha
    rw [ha, b_ri_winners_20]
    simp -implicitDefEqProofs (disch := first | assumption | omega) only [szS_0, szS_i, szS_r, szS_l, x_cons, x_goto, ob_some, kl_i, kl_r, kl_l, kl_n, push_n, push_s, pop_0, pop_i, pop_r, Int.reduceToNat, List.length_cons, List.length_nil, Nat.reduceAdd, Nat.reduceLeDiff, Nat.zero_add, true_and, nI_n0, nat_le, Nat.add_zero, i_1, rt_ri_winners, x_al0, x_al1, x_call, x_getf, x_goto, x_iaload, x_icge, x_icne, x_ifne, x_il2, x_il3, x_il4, x_il5, x_inc5, x_ior, x_iret, x_is4, x_is5, x_ishl, x_ldc, tf_0_0, tf_0_1, tf_0_2, tf_0_3, tf_0_4, tf_1_0, tf_1_1, tf_1_2, tf_1_3, tf_1_4, ts_1_0, tl_3, td_3, ha3, nI_ltE, Nat.lt_irrefl, ↓reduceIte, b_ri_winners_61]
    exact H
  | succ j ih =>
    intro a ha
    have ha' : a < am w f := by omega
    have hl1 := tot_l hw (V := V) (f := f) (a := a) hf (by omega)
    have hi := ih (a + 1) (by omega)
    have hb : bset (fun a => decide (tot V w f a = mst V w f)) (a + 1) = bset (fun a => decide (tot V w f a = mst V w f)) a ||| (if decide (tot V w f a = mst V w f) = true then 2 ^ a else 0) := rfl
    rw [b_ri_winners_20]
    simp -implicitDefEqProofs (disch := first | assumption | omega) only [szS_0, szS_i, szS_r, szS_l, x_cons, x_goto, ob_some, kl_i, kl_r, kl_l, kl_n, push_n, push_s, pop_0, pop_i, pop_r, Int.reduceToNat, List.length_cons, List.length_nil, Nat.reduceAdd, Nat.reduceLeDiff, Nat.zero_add, true_and, nI_n0, nat_le, Nat.add_zero, i_1, rt_ri_winners, x_al0, x_al1, x_call, x_getf, x_goto, x_iaload, x_icge, x_icne, x_ifne, x_il2, x_il3, x_il4, x_il5, x_inc5, x_ior, x_iret, x_is4, x_is5, x_ishl, x_ldc, tf_0_0, tf_0_1, tf_0_2, tf_0_3, tf_0_4, tf_1_0, tf_1_1, tf_1_2, tf_1_3, tf_1_4, ts_1_0, tl_3, td_3, ha3, nI_ltE, ha', ↓reduceIte]
    rw [s_strength hT hf (by omega) (h1 a ha') (h2 a (by omega))]
    simp -implicitDefEqProofs (disch := first | assumption | omega) only [szS_0, szS_i, szS_r, szS_l, x_cons, x_goto, ob_some, kl_i, kl_r, kl_l, kl_n, push_n, push_s, pop_0, pop_i, pop_r, Int.reduceToNat, List.length_cons, List.length_nil, Nat.reduceAdd, Nat.reduceLeDiff, Nat.zero_add, true_and, nI_n0, nat_le, Nat.add_zero, i_1, rt_ri_winners, x_al0, x_al1, x_call, x_getf, x_goto, x_iaload, x_icge, x_icne, x_ifne, x_il2, x_il3, x_il4, x_il5, x_inc5, x_ior, x_iret, x_is4, x_is5, x_ishl, x_ldc, nI_eqE]
    by_cases h : tot V w f a = mst V w f
    · rw [if_pos (decide_eq_true h)] at hb
      rw [hb] at hi
      rw [if_pos h]
      simp -implicitDefEqProofs (disch := first | assumption | omega) only [szS_0, szS_i, szS_r, szS_l, x_cons, x_goto, ob_some, kl_i, kl_r, kl_l, kl_n, push_n, push_s, pop_0, pop_i, pop_r, Int.reduceToNat, List.length_cons, List.length_nil, Nat.reduceAdd, Nat.reduceLeDiff, Nat.zero_add, true_and, nI_n0, nat_le, Nat.add_zero, i_1, rt_ri_winners, x_al0, x_al1, x_call, x_getf, x_goto, x_iaload, x_icge, x_icne, x_ifne, x_il2, x_il3, x_il4, x_il5, x_inc5, x_ior, x_iret, x_is4, x_is5, x_ishl, x_ldc, b_ri_winners_55, nI_shl1, nI_or, nI_add]
      exact hi
    · rw [if_neg (by rw [decide_eq_false h]; exact Bool.false_ne_true), Nat.or_zero] at hb
      rw [hb] at hi
      rw [if_neg h]
      simp -implicitDefEqProofs (disch := first | assumption | omega) only [szS_0, szS_i, szS_r, szS_l, x_cons, x_goto, ob_some, kl_i, kl_r, kl_l, kl_n, push_n, push_s, pop_0, pop_i, pop_r, Int.reduceToNat, List.length_cons, List.length_nil, Nat.reduceAdd, Nat.reduceLeDiff, Nat.zero_add, true_and, nI_n0, nat_le, Nat.add_zero, i_1, rt_ri_winners, x_al0, x_al1, x_call, x_getf, x_goto, x_iaload, x_icge, x_icne, x_ifne, x_il2, x_il3, x_il4, x_il5, x_inc5, x_ior, x_iret, x_is4, x_is5, x_ishl, x_ldc, b_ri_winners_55, nI_add]
      exact hi
/-- the arms that would be open behind the evening -/
def wnO (V : LW) (w : Nat → Int32) (f : Nat) : Nat := if mst V w f = 0 then fd w f 5 else wset V w f
theorem s_winners (hT : t = 1 ∨ t = 31 ∨ t = 61) (hw : WI w) {V : LW} {f : Nat} (hf : f < 16) (ha3 : g (t + 3) f = nI (am w f)) (h1 : ∀ a, a < am w f → g 179 a = nI (vfor V w f a)) (h2 : ∀ a, a < 3 → g (t + 19) (f * 3 + a) = nI (fd w f (7 + a))) (h5 : g (t + 17) f = nI (fd w f 5)) :
    callC (ev (d + 2)) ri_winners [.ref 174, .ref t, .int (nI f), .int (nI (mst V w f))] (E g q) P = P (some (.int (nI (wnO V w f)))) (E g q) := by
  refine call_eq (in_ri_winners rfl ?_)
  have ham := am_le hw hf
  have hl2 : mst V w f ≤ 6000999 := mxT_b _ fun b hb => tot_l hw hf (by omega)
  rw [b_ri_winners_0]
  simp -implicitDefEqProofs (disch := first | assumption | omega) only [szS_0, szS_i, szS_r, szS_l, x_cons, x_goto, ob_some, kl_i, kl_r, kl_l, kl_n, push_n, push_s, pop_0, pop_i, pop_r, Int.reduceToNat, List.length_cons, List.length_nil, Nat.reduceAdd, Nat.reduceLeDiff, Nat.zero_add, true_and, nI_n0, nat_le, Nat.add_zero, i_1, rt_ri_winners, x_al0, x_al1, x_call, x_getf, x_goto, x_iaload, x_icge, x_icne, x_ifne, x_il2, x_il3, x_il4, x_il5, x_inc5, x_ior, x_iret, x_is4, x_is5, x_ishl, x_ldc, nI_eqE]
  by_cases h : mst V w f = 0
  · have e : wnO V w f = fd w f 5 := if_pos h
    rw [e]
    simp -implicitDefEqProofs (disch := first | assumption | omega) only [h, ↓reduceIte, tf_0_0, tf_0_1, tf_0_2, tf_0_3, tf_0_4, tf_6_0, tf_6_1, tf_6_2, tf_6_3, tf_6_4, tf_6_5, tf_6_6, tf_6_7, tf_6_8, tf_6_9, tf_6_10, ts_6_0, ts_6_1, ts_6_2, ts_6_3, ts_6_4, tl_17, td_17, h5, szS_0, szS_i, szS_r, szS_l, x_cons, x_goto, ob_some, kl_i, kl_r, kl_l, kl_n, push_n, push_s, pop_0, pop_i, pop_r, Int.reduceToNat, List.length_cons, List.length_nil, Nat.reduceAdd, Nat.reduceLeDiff, Nat.zero_add, true_and, nI_n0, nat_le, Nat.add_zero, i_1, rt_ri_winners, x_al0, x_al1, x_call, x_getf, x_goto, x_iaload, x_icge, x_icne, x_ifne, x_il2, x_il3, x_il4, x_il5, x_inc5, x_ior, x_iret, x_is4, x_is5, x_ishl, x_ldc]
    all_goals first | rfl | exact ⟨rfl, rfl⟩ | exact ⟨rfl, trivial⟩ | exact ⟨trivial, rfl⟩ | trivial
  · have e : wnO V w f = wset V w f := if_neg h
    have e2 : wset V w f = winS (tot V w f) (am w f) := if_neg h
    rw [if_neg h, e, e2]
    rw [b_ri_winners_14]
    simp -implicitDefEqProofs (disch := first | assumption | omega) only [szS_0, szS_i, szS_r, szS_l, x_cons, x_goto, ob_some, kl_i, kl_r, kl_l, kl_n, push_n, push_s, pop_0, pop_i, pop_r, Int.reduceToNat, List.length_cons, List.length_nil, Nat.reduceAdd, Nat.reduceLeDiff, Nat.zero_add, true_and, nI_n0, nat_le, Nat.add_zero, i_1, rt_ri_winners, x_al0, x_al1, x_call, x_getf, x_goto, x_iaload, x_icge, x_icne, x_ifne, x_il2, x_il3, x_il4, x_il5, x_inc5, x_ior, x_iret, x_is4, x_is5, x_ishl, x_ldc]
    exact wn_lp hT hw hf ha3 h1 h2 ⟨rfl, rfl⟩ (am w f) 0 (Nat.zero_add _)
theorem s_openArms (hT : t = 1 ∨ t = 31 ∨ t = 61) {f s o n : Nat} (hf : f < 16) (hs1 : 1 ≤ s) (hs : s < 8) (ho : o < 8) (hn : n ≤ 99) (h5 : g (t + 17) f = nI o) (h6 : g (t + 18) f = nI n)
    (H : ∀ g' W, W = (if one s = false then 0 else if s = o then (if 99 < n + 1 then 99 else n + 1) else 1) → (∀ b, b ≠ t + 6 → b ≠ t + 17 → b ≠ t + 18 → g' b = g b) → (∀ k, k ≠ 1 → g' (t + 6) k = g (t + 6) k) → g' (t + 6) 1 = g (t + 6) 1 + nI (if one s = false then 1 else 0) → g' (t + 17) = pu (g (t + 17)) f (nI s) → g' (t + 18) = pu (g (t + 18)) f (nI W) → P none (E g' q)) :
    callC (ev (d + 2)) ri_openArms [.ref (t + 6), .int (nI f), .int (nI s)] (E g q) P := by
  refine in_ri_openArms rfl ?_
  have hc := one_8 ⟨s, hs⟩
  have hc : decide (1 < cnt s.testBit 3) = (decide (s ≠ 0) && !one s) := hc
  rw [decide_eq_true (show s ≠ 0 by omega), Bool.true_and] at hc
  have hcl := cnt_le (p := s.testBit) 3
  rw [b_ri_openArms_0]
  simp -implicitDefEqProofs (disch := first | assumption | omega) only [szS_0, szS_i, szS_r, szS_l, x_cons, x_goto, ob_some, kl_i, kl_r, kl_l, kl_n, push_n, push_s, pop_0, pop_i, pop_r, Int.reduceToNat, List.length_cons, List.length_nil, Nat.reduceAdd, Nat.reduceLeDiff, Nat.zero_add, true_and, nI_n0, nat_le, Nat.add_zero, rt_ri_openArms, x_al0, x_call, x_dupi, x_dupr, x_getf, x_goto, x_iadd, x_iaload, x_iastore, x_icle, x_icne, x_il1, x_il2, x_ldc, x_putf, x_vret, s_bitCount, nI_ltE]
  by_cases h : one s = false
  · have h1 : 1 < cnt s.testBit 3 := by
      rw [h] at hc
      exact of_decide_eq_true hc
    simp -implicitDefEqProofs (disch := first | assumption | omega) only [h1, ↓reduceIte, szS_0, szS_i, szS_r, szS_l, x_cons, x_goto, ob_some, kl_i, kl_r, kl_l, kl_n, push_n, push_s, pop_0, pop_i, pop_r, Int.reduceToNat, List.length_cons, List.length_nil, Nat.reduceAdd, Nat.reduceLeDiff, Nat.zero_add, true_and, nI_n0, nat_le, Nat.add_zero, rt_ri_openArms, x_al0, x_call, x_dupi, x_dupr, x_getf, x_goto, x_iadd, x_iaload, x_iastore, x_icle, x_icne, x_il1, x_il2, x_ldc, x_putf, x_vret, tf_6_0, tf_6_1, tf_6_2, tf_6_3, tf_6_4, tf_6_5, tf_6_6, tf_6_7, tf_6_8, tf_6_9, tf_6_10, ts_6_0, ts_6_1, ts_6_2, ts_6_3, ts_6_4, tl_17, td_17, tl_18, td_18, pu_g, upw_o, b_ri_openArms_67]
    refine H _ 0 (by rw [if_pos h]) (fun b a1 a2 a3 => by rw [upw_o a2, upw_o a1, upw_o a3]) (fun k hk => ?_) ?_ ?_ ?_
    · rw [upw_o (by omega), upw_s, pu_n hk]
    · rw [upw_o (by omega), upw_s, pu_s, if_pos h]
    · rw [upw_s]
    · rw [upw_o (by omega), upw_o (by omega), upw_s]
  · have h := bne_t h
    have h1 : ¬ 1 < cnt s.testBit 3 := by
      rw [h] at hc
      exact of_decide_eq_false hc
    have e0 : (if one s = false then 1 else 0) = 0 := by rw [h]; rfl
    simp -implicitDefEqProofs (disch := first | assumption | omega) only [h1, ↓reduceIte, b_ri_openArms_28, szS_0, szS_i, szS_r, szS_l, x_cons, x_goto, ob_some, kl_i, kl_r, kl_l, kl_n, push_n, push_s, pop_0, pop_i, pop_r, Int.reduceToNat, List.length_cons, List.length_nil, Nat.reduceAdd, Nat.reduceLeDiff, Nat.zero_add, true_and, nI_n0, nat_le, Nat.add_zero, rt_ri_openArms, x_al0, x_call, x_dupi, x_dupr, x_getf, x_goto, x_iadd, x_iaload, x_iastore, x_icle, x_icne, x_il1, x_il2, x_ldc, x_putf, x_vret, tf_6_0, tf_6_1, tf_6_2, tf_6_3, tf_6_4, tf_6_5, tf_6_6, tf_6_7, tf_6_8, tf_6_9, tf_6_10, ts_6_0, ts_6_1, ts_6_2, ts_6_3, ts_6_4, tl_17, td_17, h5, nI_eqE]
    by_cases h2 : o = s
    · simp -implicitDefEqProofs (disch := first | assumption | omega) only [h2, ↓reduceIte, szS_0, szS_i, szS_r, szS_l, x_cons, x_goto, ob_some, kl_i, kl_r, kl_l, kl_n, push_n, push_s, pop_0, pop_i, pop_r, Int.reduceToNat, List.length_cons, List.length_nil, Nat.reduceAdd, Nat.reduceLeDiff, Nat.zero_add, true_and, nI_n0, nat_le, Nat.add_zero, rt_ri_openArms, x_al0, x_call, x_dupi, x_dupr, x_getf, x_goto, x_iadd, x_iaload, x_iastore, x_icle, x_icne, x_il1, x_il2, x_ldc, x_putf, x_vret, tf_6_0, tf_6_1, tf_6_2, tf_6_3, tf_6_4, tf_6_5, tf_6_6, tf_6_7, tf_6_8, tf_6_9, tf_6_10, ts_6_0, ts_6_1, ts_6_2, ts_6_3, ts_6_4, tl_17, td_17, tl_18, td_18, h6, nI_add, s_jmin, nI_ltE, nI_ite, pu_g, upw_o, b_ri_openArms_67]
      refine H _ (if 99 < n + 1 then 99 else n + 1) (by rw [h]; exact ((if_neg (by decide : ¬ (true = false))).trans (if_pos h2.symm)).symm) (fun b a1 a2 a3 => by rw [upw_o a2, upw_o a3]) (fun k hk => ?_) ?_ ?_ ?_
      · rw [upw_o (by omega), upw_o (by omega)]
      · rw [upw_o (by omega), upw_o (by omega), e0]
        show _ = _ + 0
        rw [Int32.add_zero]
      · rw [upw_s]
      · rw [upw_o (by omega), upw_s]
    · simp -implicitDefEqProofs (disch := first | assumption | omega) only [h2, ↓reduceIte, b_ri_openArms_60, szS_0, szS_i, szS_r, szS_l, x_cons, x_goto, ob_some, kl_i, kl_r, kl_l, kl_n, push_n, push_s, pop_0, pop_i, pop_r, Int.reduceToNat, List.length_cons, List.length_nil, Nat.reduceAdd, Nat.reduceLeDiff, Nat.zero_add, true_and, nI_n0, nat_le, Nat.add_zero, rt_ri_openArms, x_al0, x_call, x_dupi, x_dupr, x_getf, x_goto, x_iadd, x_iaload, x_iastore, x_icle, x_icne, x_il1, x_il2, x_ldc, x_putf, x_vret, tf_6_0, tf_6_1, tf_6_2, tf_6_3, tf_6_4, tf_6_5, tf_6_6, tf_6_7, tf_6_8, tf_6_9, tf_6_10, ts_6_0, ts_6_1, ts_6_2, ts_6_3, ts_6_4, tl_17, td_17, tl_18, td_18, pu_g, upw_o, b_ri_openArms_67]
      refine H _ 1 (by rw [if_neg (by rw [h]; decide), if_neg fun hh => h2 hh.symm]) (fun b a1 a2 a3 => by rw [upw_o a2, upw_o a3]) (fun k hk => ?_) ?_ ?_ ?_
      · rw [upw_o (by omega), upw_o (by omega)]
      · rw [upw_o (by omega), upw_o (by omega), e0]
        show _ = _ + 0
        rw [Int32.add_zero]
      · rw [upw_s]
      · rw [upw_o (by omega), upw_s]
/-- the town rows that defeats write -/
def dwR (t : Nat) (u : Nat → Int32) (g : Nat → Nat → Int32) : Prop := ∀ m, m < 16 → g (t + 11) m = u (10 + 20 * m + 15) ∧ g (t + 15) m = u (10 + 20 * m + 14)
theorem s_addDefeat (hT : t = 1 ∨ t = 31 ∨ t = 61) {r : Nat → Int32} (hr : WI r) {n : Nat} (hn : n < 16) (h : dwR t r g) (H : ∀ g', (∀ b, b ≠ t + 11 → b ≠ t + 15 → g' b = g b) → dwR t (df1 r n) g' → P none (E g' q)) :
    callC (ev (d + 2)) ri_addDefeat [.ref (t + 6), .int (nI n)] (E g q) P := by
  refine in_ri_addDefeat rfl ?_
  have hy := wi_y hr hn
  have h14 := hy.2.2.2.2.1
  have h15 := hy.2.2.2.2.2.1
  have e14 := (h n hn).2
  have e15 := (h n hn).1
  rw [h14.1] at e14
  rw [h15.1] at e15
  rw [b_ri_addDefeat_0]
  simp -implicitDefEqProofs (disch := first | assumption | omega) only [szS_0, szS_i, szS_r, szS_l, x_cons, x_goto, ob_some, kl_i, kl_r, kl_l, kl_n, push_n, push_s, pop_0, pop_i, pop_r, Int.reduceToNat, List.length_cons, List.length_nil, Nat.reduceAdd, Nat.reduceLeDiff, Nat.zero_add, true_and, nI_n0, nat_le, Nat.add_zero, rt_ri_addDefeat, x_aaload, x_al0, x_call, x_dup2, x_getf, x_iadd, x_iaload, x_iastore, x_iclt, x_il1, x_ldc, x_vret, tf_6_0, tf_6_1, tf_6_2, tf_6_3, tf_6_4, tf_6_5, tf_6_6, tf_6_7, tf_6_8, tf_6_9, tf_6_10, ts_6_0, ts_6_1, ts_6_2, ts_6_3, ts_6_4, tr_0, tr_1, tr_2, tr_3, tr_4, tr_5, tr_6, tr_7, tl_11, td_11, tl_15, td_15, e14, nI_add, pu_g, upw_s, pu_s, nI_ltE]
  by_cases h10 : fd r n 14 + 1 < 10
  · have ed : df1 r n = pu r (10 + 20 * n + 14) (nI (fd r n 14 + 1)) := if_pos h10
    rw [if_pos h10]
    simp -implicitDefEqProofs (disch := first | assumption | omega) only [b_ri_addDefeat_60, szS_0, szS_i, szS_r, szS_l, x_cons, x_goto, ob_some, kl_i, kl_r, kl_l, kl_n, push_n, push_s, pop_0, pop_i, pop_r, Int.reduceToNat, List.length_cons, List.length_nil, Nat.reduceAdd, Nat.reduceLeDiff, Nat.zero_add, true_and, nI_n0, nat_le, Nat.add_zero, rt_ri_addDefeat, x_aaload, x_al0, x_call, x_dup2, x_getf, x_iadd, x_iaload, x_iastore, x_iclt, x_il1, x_ldc, x_vret]
    refine H _ (fun b a1 a2 => upw_o a2) fun m hm => ?_
    rw [ed, upw_o (by omega), upw_s, pu_n (by omega)]
    refine ⟨(h m hm).1, ?_⟩
    unfold pu
    by_cases e : m = n
    · rw [if_pos e, if_pos (by omega)]
    · rw [if_neg e, if_neg (by omega)]
      exact (h m hm).2
  · have ed : df1 r n = pu (pu r (10 + 20 * n + 14) (nI 0)) (10 + 20 * n + 15) (nI (if 9 < fd r n 15 + 1 then 9 else fd r n 15 + 1)) := if_neg h10
    rw [if_neg h10]
    simp -implicitDefEqProofs (disch := first | assumption | omega) only [szS_0, szS_i, szS_r, szS_l, x_cons, x_goto, ob_some, kl_i, kl_r, kl_l, kl_n, push_n, push_s, pop_0, pop_i, pop_r, Int.reduceToNat, List.length_cons, List.length_nil, Nat.reduceAdd, Nat.reduceLeDiff, Nat.zero_add, true_and, nI_n0, nat_le, Nat.add_zero, rt_ri_addDefeat, x_aaload, x_al0, x_call, x_dup2, x_getf, x_iadd, x_iaload, x_iastore, x_iclt, x_il1, x_ldc, x_vret, tf_6_0, tf_6_1, tf_6_2, tf_6_3, tf_6_4, tf_6_5, tf_6_6, tf_6_7, tf_6_8, tf_6_9, tf_6_10, ts_6_0, ts_6_1, ts_6_2, ts_6_3, ts_6_4, tr_0, tr_1, tr_2, tr_3, tr_4, tr_5, tr_6, tr_7, tl_11, td_11, tl_15, td_15, pu_g, pu_w, upw_w, upw_s, upw_o, e15, nI_add, s_jmin, nI_ltE, nI_ite, b_ri_addDefeat_60]
    refine H _ (fun b a1 a2 => by rw [upw_o a1, upw_o a2]) fun m hm => ?_
    rw [ed, upw_s, upw_o (by omega), upw_s]
    have n1 : ¬ (10 + 20 * m + 14 = 10 + 20 * n + 15) := by omega
    have n2 : ¬ (10 + 20 * m + 15 = 10 + 20 * n + 14) := by omega
    by_cases e : m = n
    · subst e
      simp only [pu, ↓reduceIte, n1, and_self]
    · have n3 : ¬ (10 + 20 * m + 14 = 10 + 20 * n + 14) := by omega
      have n4 : ¬ (10 + 20 * m + 15 = 10 + 20 * n + 15) := by omega
      simp only [pu, ↓reduceIte, e, n1, n2, n3, n4]
      exact h m hm
theorem cd_in (hT : t = 1 ∨ t = 31 ∨ t = 61) (hw : WI w) {V : LW} {f n : Nat} (hf : f < 16) (hn : n < 16) (ha3 : g (t + 3) f = nI (am w f)) (hC : ∀ b, b < 3 → g 180 (n * 3 + b) = nI (cst V w f n b)) {v : Nat}
    (H : wp (ev (d + 2)) P ri_countDefeats 72 [some (.ref 174), some (.ref t), some (.int (nI f)), some (.ref (t + 6)), some (.int (nI n)), some (.int (nI (bset (fun a => decide (0 < cst V w f n a)) (am w f)))), some (.int (nI (am w f)))] [] (E g q)) : ∀ (j a : Nat), a + j = am w f →
    wp (ev (d + 2)) P ri_countDefeats 28 [some (.ref 174), some (.ref t), some (.int (nI f)), some (.ref (t + 6)), some (.int (nI n)), some (.int (nI (bset (fun a => decide (0 < cst V w f n a)) a))), some (.int (nI a))] [] (E g q) := by
  have ham := am_le hw hf
  intro j
  induction j with
  | zero =>
    intro a ha
    have ha : a = am w f := ha
    rw [ha, b_ri_countDefeats_28]
    simp -implicitDefEqProofs (disch := first | assumption | omega) only [szS_0, szS_i, szS_r, szS_l, x_cons, x_goto, ob_some, kl_i, kl_r, kl_l, kl_n, push_n, push_s, pop_0, pop_i, pop_r, Int.reduceToNat, List.length_cons, List.length_nil, Nat.reduceAdd, Nat.reduceLeDiff, Nat.zero_add, true_and, nI_n0, nat_le, Nat.add_zero, i_1, rt_ri_countDefeats, x_al0, x_al1, x_al3, x_as3, x_call, x_getf, x_goto, x_iadd, x_iaload, x_iand, x_icge, x_ifeq, x_ifle, x_ifne, x_il2, x_il4, x_il5, x_il6, x_imul, x_inc4, x_inc6, x_ior, x_is4, x_is5, x_is6, x_ishl, x_ldc, x_vret, tf_0_0, tf_0_1, tf_0_2, tf_0_3, tf_0_4, tf_1_0, tf_1_1, tf_1_2, tf_1_3, tf_1_4, ts_1_0, tl_3, td_3, ha3, nI_ltE, Nat.lt_irrefl, ↓reduceIte]
    exact H
  | succ j ih =>
    intro a ha
    have ha' : a < am w f := by omega
    have ec := hC a (by omega)
    have hl : cst V w f n a ≤ 6000000 := by
      have h1 := (vt_I hw (V := V) (t := n) (f := f) (a := a) hn).1
      have h2 := (wi_y hw hn).1.2
      unfold cst
      split <;> omega
    have hi := ih (a + 1) (by omega)
    have hb : bset (fun a => decide (0 < cst V w f n a)) (a + 1) = bset (fun a => decide (0 < cst V w f n a)) a ||| (if decide (0 < cst V w f n a) = true then 2 ^ a else 0) := rfl
    rw [b_ri_countDefeats_28]
    simp -implicitDefEqProofs (disch := first | assumption | omega) only [szS_0, szS_i, szS_r, szS_l, x_cons, x_goto, ob_some, kl_i, kl_r, kl_l, kl_n, push_n, push_s, pop_0, pop_i, pop_r, Int.reduceToNat, List.length_cons, List.length_nil, Nat.reduceAdd, Nat.reduceLeDiff, Nat.zero_add, true_and, nI_n0, nat_le, Nat.add_zero, i_1, rt_ri_countDefeats, x_al0, x_al1, x_al3, x_as3, x_call, x_getf, x_goto, x_iadd, x_iaload, x_iand, x_icge, x_ifeq, x_ifle, x_ifne, x_il2, x_il4, x_il5, x_il6, x_imul, x_inc4, x_inc6, x_ior, x_is4, x_is5, x_is6, x_ishl, x_ldc, x_vret, fd_174_0, fd_174_1, fd_174_2, fd_174_3, ld_180, sd_180, ln_180, tf_0_0, tf_0_1, tf_0_2, tf_0_3, tf_0_4, tf_1_0, tf_1_1, tf_1_2, tf_1_3, tf_1_4, ts_1_0, tl_3, td_3, ha3, nI_ltE, ha', ↓reduceIte, nI_mul, nI_add, ec, nI_leE]
    by_cases h : cst V w f n a ≤ 0
    · rw [if_neg (by rw [decide_eq_true_eq]; omega), Nat.or_zero] at hb
      rw [hb] at hi
      rw [if_pos h]
      simp -implicitDefEqProofs (disch := first | assumption | omega) only [b_ri_countDefeats_66, szS_0, szS_i, szS_r, szS_l, x_cons, x_goto, ob_some, kl_i, kl_r, kl_l, kl_n, push_n, push_s, pop_0, pop_i, pop_r, Int.reduceToNat, List.length_cons, List.length_nil, Nat.reduceAdd, Nat.reduceLeDiff, Nat.zero_add, true_and, nI_n0, nat_le, Nat.add_zero, i_1, rt_ri_countDefeats, x_al0, x_al1, x_al3, x_as3, x_call, x_getf, x_goto, x_iadd, x_iaload, x_iand, x_icge, x_ifeq, x_ifle, x_ifne, x_il2, x_il4, x_il5, x_il6, x_imul, x_inc4, x_inc6, x_ior, x_is4, x_is5, x_is6, x_ishl, x_ldc, x_vret, nI_add]
      exact hi
    · rw [if_pos (by rw [decide_eq_true_eq]; omega)] at hb
      rw [hb] at hi
      rw [if_neg h]
      simp -implicitDefEqProofs (disch := first | assumption | omega) only [b_ri_countDefeats_66, szS_0, szS_i, szS_r, szS_l, x_cons, x_goto, ob_some, kl_i, kl_r, kl_l, kl_n, push_n, push_s, pop_0, pop_i, pop_r, Int.reduceToNat, List.length_cons, List.length_nil, Nat.reduceAdd, Nat.reduceLeDiff, Nat.zero_add, true_and, nI_n0, nat_le, Nat.add_zero, i_1, rt_ri_countDefeats, x_al0, x_al1, x_al3, x_as3, x_call, x_getf, x_goto, x_iadd, x_iaload, x_iand, x_icge, x_ifeq, x_ifle, x_ifne, x_il2, x_il4, x_il5, x_il6, x_imul, x_inc4, x_inc6, x_ior, x_is4, x_is5, x_is6, x_ishl, x_ldc, x_vret, nI_shl1, nI_or, nI_add]
      exact hi
theorem cd_out (hT : t = 1 ∨ t = 31 ∨ t = 61) (hw : WI w) {V : LW} {f s : Nat} (hf : f < nn w) (hs : s < 8) {g0 : Nat → Nat → Int32} (e1 : g0 (t + 1) 0 = nI (nn w)) (ha3 : g0 (t + 3) f = nI (am w f)) (hC : ∀ m b, m < 16 → b < 3 → g0 180 (m * 3 + b) = nI (cst V w f m b)) (hs5 : g0 (t + 17) f = nI s)
    (H : ∀ g', (∀ b, b ≠ t + 11 → b ≠ t + 15 → g' b = g0 b) → dwR t (dfR V w f s (nn w)) g' → P none (E g' q)) :
    ∀ (j n : Nat) (g : Nat → Nat → Int32) (o o2 : Option Value), n + j = nn w → f < n → (∀ b, b ≠ t + 11 → b ≠ t + 15 → g b = g0 b) → dwR t (dfR V w f s n) g →
    wp (ev (d + 2)) P ri_countDefeats 10 [some (.ref 174), some (.ref t), some (.int (nI f)), some (.ref (t + 6)), some (.int (nI n)), o, o2] [] (E g q) := by
  have h0 := wi_n hw
  have ham := am_le hw (n := f) (by omega)
  have hp : 2 ^ am w f ≤ 2 ^ 3 := Nat.pow_le_pow_right (by decide) ham
  intro j
  induction j with
  | zero =>
    intro n g o o2 hn hfn hr hR
    have hn : n = nn w := hn
    have e1g : g (t + 1) 0 = nI (nn w) := by rw [hr _ (by omega) (by omega)]; exact e1
    rw [b_ri_countDefeats_10]
    simp -implicitDefEqProofs (disch := first | assumption | omega) only [szS_0, szS_i, szS_r, szS_l, x_cons, x_goto, ob_some, kl_i, kl_r, kl_l, kl_n, push_n, push_s, pop_0, pop_i, pop_r, Int.reduceToNat, List.length_cons, List.length_nil, Nat.reduceAdd, Nat.reduceLeDiff, Nat.zero_add, true_and, nI_n0, nat_le, Nat.add_zero, i_1, rt_ri_countDefeats, x_al0, x_al1, x_al3, x_as3, x_call, x_getf, x_goto, x_iadd, x_iaload, x_iand, x_icge, x_ifeq, x_ifle, x_ifne, x_il2, x_il4, x_il5, x_il6, x_imul, x_inc4, x_inc6, x_ior, x_is4, x_is5, x_is6, x_ishl, x_ldc, x_vret, tf_0_0, tf_0_1, tf_0_2, tf_0_3, tf_0_4, tf_1_0, tf_1_1, tf_1_2, tf_1_3, tf_1_4, ts_1_0, e1g, hn, nI_ltE, Nat.lt_irrefl, ↓reduceIte, b_ri_countDefeats_101]
    rw [hn] at hR
    exact H g hr hR
  | succ j ih =>
    intro n g o o2 hn hfn hr hR
    have hn' : n < nn w := by omega
    have e1g : g (t + 1) 0 = nI (nn w) := by rw [hr _ (by omega) (by omega)]; exact e1
    have e5g : g (t + 17) f = nI s := by rw [hr _ (by omega) (by omega)]; exact hs5
    have evB : bset (fun a => decide (0 < cst V w f n a)) (am w f) = if fd w n 0 = 1 then vtd V w f n else 0 := by
      by_cases h : fd w n 0 = 1
      · rw [if_pos h]
        refine bset_c _ fun a ha => ?_
        unfold cst
        rw [if_pos ⟨hfn, hn', h, ha⟩]
      · rw [if_neg h]
        refine bset_f _ fun a ha => ?_
        unfold cst
        rw [if_neg fun hh => h hh.2.2.1]
        rfl
    have hvl : bset (fun a => decide (0 < cst V w f n a)) (am w f) < 2 ^ am w f := bset_lt _
    have eq : dfq V w f s n = (decide (bset (fun a => decide (0 < cst V w f n a)) (am w f) ≠ 0) && decide (bset (fun a => decide (0 < cst V w f n a)) (am w f) &&& s = 0)) := by
      rw [evB]
      unfold dfq
      by_cases h : fd w n 0 = 1
      · rw [if_pos h, decide_eq_true ⟨hfn, h⟩, Bool.true_and]
      · rw [if_neg h, decide_eq_false (p := f < n ∧ fd w n 0 = 1) fun hh => h hh.2]
        simp
    have eR : dfR V w f s (n + 1) = if dfq V w f s n = true then df1 (dfR V w f s n) n else dfR V w f s n := rfl
    have stay : ∀ o o2, dfq V w f s n = false → wp (ev (d + 2)) P ri_countDefeats 95 [some (.ref 174), some (.ref t), some (.int (nI f)), some (.ref (t + 6)), some (.int (nI n)), o, o2] [] (E g q) := by
      intro o o2 hq
      rw [hq, if_neg Bool.false_ne_true] at eR
      rw [b_ri_countDefeats_95]
      simp -implicitDefEqProofs (disch := first | assumption | omega) only [szS_0, szS_i, szS_r, szS_l, x_cons, x_goto, ob_some, kl_i, kl_r, kl_l, kl_n, push_n, push_s, pop_0, pop_i, pop_r, Int.reduceToNat, List.length_cons, List.length_nil, Nat.reduceAdd, Nat.reduceLeDiff, Nat.zero_add, true_and, nI_n0, nat_le, Nat.add_zero, i_1, rt_ri_countDefeats, x_al0, x_al1, x_al3, x_as3, x_call, x_getf, x_goto, x_iadd, x_iaload, x_iand, x_icge, x_ifeq, x_ifle, x_ifne, x_il2, x_il4, x_il5, x_il6, x_imul, x_inc4, x_inc6, x_ior, x_is4, x_is5, x_is6, x_ishl, x_ldc, x_vret, nI_add]
      exact ih (n + 1) g _ _ (by omega) (by omega) hr (by rw [eR]; exact hR)
    rw [b_ri_countDefeats_10]
    simp -implicitDefEqProofs (disch := first | assumption | omega) only [szS_0, szS_i, szS_r, szS_l, x_cons, x_goto, ob_some, kl_i, kl_r, kl_l, kl_n, push_n, push_s, pop_0, pop_i, pop_r, Int.reduceToNat, List.length_cons, List.length_nil, Nat.reduceAdd, Nat.reduceLeDiff, Nat.zero_add, true_and, nI_n0, nat_le, Nat.add_zero, i_1, rt_ri_countDefeats, x_al0, x_al1, x_al3, x_as3, x_call, x_getf, x_goto, x_iadd, x_iaload, x_iand, x_icge, x_ifeq, x_ifle, x_ifne, x_il2, x_il4, x_il5, x_il6, x_imul, x_inc4, x_inc6, x_ior, x_is4, x_is5, x_is6, x_ishl, x_ldc, x_vret, tf_0_0, tf_0_1, tf_0_2, tf_0_3, tf_0_4, tf_1_0, tf_1_1, tf_1_2, tf_1_3, tf_1_4, ts_1_0, e1g, nI_ltE, hn', ↓reduceIte]
    refine cd_in hT hw (by omega) (n := n) (by omega) (by rw [hr _ (by omega) (by omega)]; exact ha3) (fun b hb => by rw [hr _ (by omega) (by omega)]; exact hC n b (by omega) hb) (v := 0) ?_ (am w f) 0 (Nat.zero_add _)
    generalize bset (fun a => decide (0 < cst V w f n a)) (am w f) = B at *
    have hBs : B &&& s ≤ B := Nat.and_le_left
    rw [b_ri_countDefeats_72]
    simp -implicitDefEqProofs (disch := first | assumption | omega) only [szS_0, szS_i, szS_r, szS_l, x_cons, x_goto, ob_some, kl_i, kl_r, kl_l, kl_n, push_n, push_s, pop_0, pop_i, pop_r, Int.reduceToNat, List.length_cons, List.length_nil, Nat.reduceAdd, Nat.reduceLeDiff, Nat.zero_add, true_and, nI_n0, nat_le, Nat.add_zero, i_1, rt_ri_countDefeats, x_al0, x_al1, x_al3, x_as3, x_call, x_getf, x_goto, x_iadd, x_iaload, x_iand, x_icge, x_ifeq, x_ifle, x_ifne, x_il2, x_il4, x_il5, x_il6, x_imul, x_inc4, x_inc6, x_ior, x_is4, x_is5, x_is6, x_ishl, x_ldc, x_vret, nI_eqE]
    by_cases hB0 : B = 0
    · rw [if_pos hB0]
      exact stay _ _ (by rw [eq, hB0]; rfl)
    · rw [if_neg hB0]
      simp -implicitDefEqProofs (disch := first | assumption | omega) only [szS_0, szS_i, szS_r, szS_l, x_cons, x_goto, ob_some, kl_i, kl_r, kl_l, kl_n, push_n, push_s, pop_0, pop_i, pop_r, Int.reduceToNat, List.length_cons, List.length_nil, Nat.reduceAdd, Nat.reduceLeDiff, Nat.zero_add, true_and, nI_n0, nat_le, Nat.add_zero, i_1, rt_ri_countDefeats, x_al0, x_al1, x_al3, x_as3, x_call, x_getf, x_goto, x_iadd, x_iaload, x_iand, x_icge, x_ifeq, x_ifle, x_ifne, x_il2, x_il4, x_il5, x_il6, x_imul, x_inc4, x_inc6, x_ior, x_is4, x_is5, x_is6, x_ishl, x_ldc, x_vret, tf_6_0, tf_6_1, tf_6_2, tf_6_3, tf_6_4, tf_6_5, tf_6_6, tf_6_7, tf_6_8, tf_6_9, tf_6_10, ts_6_0, ts_6_1, ts_6_2, ts_6_3, ts_6_4, tl_17, td_17, e5g, nI_and, nI_eqE]
      by_cases hBs0 : B &&& s = 0
      · have hq : dfq V w f s n = true := by
          rw [eq, decide_eq_true hB0, decide_eq_true hBs0]
          rfl
        rw [hq, if_pos rfl] at eR
        rw [if_pos hBs0]
        try simp -implicitDefEqProofs (disch := first | assumption | omega) only [szS_0, szS_i, szS_r, szS_l, x_cons, x_goto, ob_some, kl_i, kl_r, kl_l, kl_n, push_n, push_s, pop_0, pop_i, pop_r, Int.reduceToNat, List.length_cons, List.length_nil, Nat.reduceAdd, Nat.reduceLeDiff, Nat.zero_add, true_and, nI_n0, nat_le, Nat.add_zero, i_1, rt_ri_countDefeats, x_al0, x_al1, x_al3, x_as3, x_call, x_getf, x_goto, x_iadd, x_iaload, x_iand, x_icge, x_ifeq, x_ifle, x_ifne, x_il2, x_il4, x_il5, x_il6, x_imul, x_inc4, x_inc6, x_ior, x_is4, x_is5, x_is6, x_ishl, x_ldc, x_vret]
        refine s_addDefeat hT (dfR_wi hw _ (by omega)) (by omega) hR fun g1 f1 hR1 => ?_
        simp -implicitDefEqProofs (disch := first | assumption | omega) only [szS_0, szS_i, szS_r, szS_l, x_cons, x_goto, ob_some, kl_i, kl_r, kl_l, kl_n, push_n, push_s, pop_0, pop_i, pop_r, Int.reduceToNat, List.length_cons, List.length_nil, Nat.reduceAdd, Nat.reduceLeDiff, Nat.zero_add, true_and, nI_n0, nat_le, Nat.add_zero, i_1, rt_ri_countDefeats, x_al0, x_al1, x_al3, x_as3, x_call, x_getf, x_goto, x_iadd, x_iaload, x_iand, x_icge, x_ifeq, x_ifle, x_ifne, x_il2, x_il4, x_il5, x_il6, x_imul, x_inc4, x_inc6, x_ior, x_is4, x_is5, x_is6, x_ishl, x_ldc, x_vret, b_ri_countDefeats_95, nI_add]
        exact ih (n + 1) g1 _ _ (by omega) (by omega) (fun b a1 a2 => by rw [f1 b a1 a2, hr b a1 a2]) (by rw [eR]; exact hR1)
      · rw [if_neg hBs0]
        exact stay _ _ (by rw [eq, decide_eq_false hBs0, Bool.and_false])
theorem s_countDefeats (hT : t = 1 ∨ t = 31 ∨ t = 61) (hw : WI w) {V : LW} {f s : Nat} (hf : f < nn w) (hs : s < 8) (e1 : g (t + 1) 0 = nI (nn w)) (ha3 : g (t + 3) f = nI (am w f)) (hC : ∀ m b, m < 16 → b < 3 → g 180 (m * 3 + b) = nI (cst V w f m b)) (hs5 : g (t + 17) f = nI s) (hR : dwR t w g)
    (H : ∀ g', (∀ b, b ≠ t + 11 → b ≠ t + 15 → g' b = g b) → dwR t (dfR V w f s (nn w)) g' → P none (E g' q)) : callC (ev (d + 3)) ri_countDefeats [.ref 174, .ref t, .int (nI f)] (E g q) P := by
  refine in_ri_countDefeats rfl ?_
  have h0 := wi_n hw
  have hd0 : ∀ n, n ≤ f + 1 → dfR V w f s n = w := by
    intro n
    induction n with
    | zero => intro _; rfl
    | succ n ih =>
      intro hn
      unfold dfR
      rw [ih (by omega), if_neg fun hd => by
        unfold dfq at hd
        rw [decide_eq_false (p := f < n ∧ fd w n 0 = 1) fun h => by omega] at hd
        cases hd]
  rw [b_ri_countDefeats_0]
  simp -implicitDefEqProofs (disch := first | assumption | omega) only [szS_0, szS_i, szS_r, szS_l, x_cons, x_goto, ob_some, kl_i, kl_r, kl_l, kl_n, push_n, push_s, pop_0, pop_i, pop_r, Int.reduceToNat, List.length_cons, List.length_nil, Nat.reduceAdd, Nat.reduceLeDiff, Nat.zero_add, true_and, nI_n0, nat_le, Nat.add_zero, i_1, rt_ri_countDefeats, x_al0, x_al1, x_al3, x_as3, x_call, x_getf, x_goto, x_iadd, x_iaload, x_iand, x_icge, x_ifeq, x_ifle, x_ifne, x_il2, x_il4, x_il5, x_il6, x_imul, x_inc4, x_inc6, x_ior, x_is4, x_is5, x_is6, x_ishl, x_ldc, x_vret, tf_0_0, tf_0_1, tf_0_2, tf_0_3, tf_0_4, nI_add]
  exact cd_out hT hw hf hs e1 ha3 hC hs5 H (nn w - (f + 1)) (f + 1) g none none (by omega) (by omega) (fun _ _ _ => rfl) (by rw [hd0 _ (Nat.le_refl _)]; exact hR)
theorem s_writeLine (hT : t = 1 ∨ t = 31 ∨ t = 61) {f m l : Nat} (hf : f < 16) (hl : l ≤ 150) (h4 : g (t + 6) 4 = nI l) :
    callC (ev (d + 1)) to_writeLine [.ref t, .int (nI f), .int (nI m)] (E g q) P = P none (E (if l = 150 then g else upw (upw g (t + 29) (pu (pu (pu (pu (g (t + 29)) (l * 4) (g (t + 6) 0)) (l * 4 + 1) (nI f)) (l * 4 + 2) (g (t + 17) f)) (l * 4 + 3) (nI m))) (t + 6) (pu (g (t + 6)) 4 (nI (l + 1)))) q) := by
  refine call_eq (in_to_writeLine (by rcases hT with rfl | rfl | rfl <;> rfl) ?_)
  rw [b_to_writeLine_0]
  simp -implicitDefEqProofs (disch := first | assumption | omega) only [szS_0, szS_i, szS_r, szS_l, x_cons, x_goto, ob_some, kl_i, kl_r, kl_l, kl_n, push_n, push_s, pop_0, pop_i, pop_r, Int.reduceToNat, List.length_cons, List.length_nil, Nat.reduceAdd, Nat.reduceLeDiff, Nat.zero_add, true_and, nI_n0, nat_le, Nat.add_zero, rt_to_writeLine, x_al0, x_dupi, x_dupr, x_getf, x_iadd, x_iaload, x_iastore, x_iclt, x_il1, x_il2, x_il3, x_imul, x_is3, x_ldc, x_putf, x_vret, tf_0_0, tf_0_1, tf_0_2, tf_0_3, tf_0_4, tf_6_0, tf_6_1, tf_6_2, tf_6_3, tf_6_4, tf_6_5, tf_6_6, tf_6_7, tf_6_8, tf_6_9, tf_6_10, ts_6_0, ts_6_1, ts_6_2, ts_6_3, ts_6_4, h4, nI_ltE]
  by_cases h : l < 150
  · rw [if_pos h, if_neg (by omega)]
    simp -implicitDefEqProofs (disch := first | assumption | omega) only [b_to_writeLine_14, szS_0, szS_i, szS_r, szS_l, x_cons, x_goto, ob_some, kl_i, kl_r, kl_l, kl_n, push_n, push_s, pop_0, pop_i, pop_r, Int.reduceToNat, List.length_cons, List.length_nil, Nat.reduceAdd, Nat.reduceLeDiff, Nat.zero_add, true_and, nI_n0, nat_le, Nat.add_zero, rt_to_writeLine, x_al0, x_dupi, x_dupr, x_getf, x_iadd, x_iaload, x_iastore, x_iclt, x_il1, x_il2, x_il3, x_imul, x_is3, x_ldc, x_putf, x_vret, tf_0_0, tf_0_1, tf_0_2, tf_0_3, tf_0_4, tf_6_0, tf_6_1, tf_6_2, tf_6_3, tf_6_4, tf_6_5, tf_6_6, tf_6_7, tf_6_8, tf_6_9, tf_6_10, ts_6_0, ts_6_1, ts_6_2, ts_6_3, ts_6_4, tl_17, td_17, tl_29, td_29, h4, nI_mul, nI_add, pu_g, pu_w, upw_w, upw_s, upw_o]
    all_goals first | rfl | exact ⟨rfl, rfl⟩ | exact ⟨rfl, trivial⟩ | exact ⟨trivial, rfl⟩ | trivial
  · rw [if_neg h, if_pos (by omega)]
    try simp -implicitDefEqProofs (disch := first | assumption | omega) only [szS_0, szS_i, szS_r, szS_l, x_cons, x_goto, ob_some, kl_i, kl_r, kl_l, kl_n, push_n, push_s, pop_0, pop_i, pop_r, Int.reduceToNat, List.length_cons, List.length_nil, Nat.reduceAdd, Nat.reduceLeDiff, Nat.zero_add, true_and, nI_n0, nat_le, Nat.add_zero, rt_to_writeLine, x_al0, x_dupi, x_dupr, x_getf, x_iadd, x_iaload, x_iastore, x_iclt, x_il1, x_il2, x_il3, x_imul, x_is3, x_ldc, x_putf, x_vret]
    all_goals first | rfl | exact ⟨rfl, rfl⟩ | exact ⟨rfl, trivial⟩ | exact ⟨trivial, rfl⟩ | trivial
end CE
